/-! THE PURE LAYER 34: paces -/
/-- D says how many paces each cell is from fr -/
def DS (w n : Int) (br : Int → Int) (fr : Int) (D : Int → Int) : Prop :=
  (∀ c, 0 ≤ c → c < n → D c = -1 ∨ (0 ≤ D c ∧ D c ≤ 64)) ∧
  (∀ c, 0 ≤ c → c < n → ¬ br c = 0 → D c = -1) ∧
  (D fr = (if br fr = 0 then 0 else -1)) ∧
  (∀ c, 0 ≤ c → c < n → ¬ D c = -1 → (c = fr ∧ D c = 0) ∨ ∃ p, (0 ≤ p ∧ p < n) ∧ ¬ D p = -1 ∧ D c = D p + 1 ∧ btw w p c = 1) ∧
  (∀ c e, 0 ≤ c → c < n → 0 ≤ e → e < n → ¬ D c = -1 → btw w c e = 1 → br e = 0 → ¬ D e = -1 ∧ D e ≤ D c + 1)
theorem DS.rg {w n : Int} {br : Int → Int} {fr : Int} {D : Int → Int} (h : DS w n br fr D) : ∀ c, 0 ≤ c → c < n → D c = -1 ∨ (0 ≤ D c ∧ D c ≤ 64) := h.1
theorem DS.bl {w n : Int} {br : Int → Int} {fr : Int} {D : Int → Int} (h : DS w n br fr D) : ∀ c, 0 ≤ c → c < n → ¬ br c = 0 → D c = -1 := h.2.1
theorem DS.st {w n : Int} {br : Int → Int} {fr : Int} {D : Int → Int} (h : DS w n br fr D) : D fr = (if br fr = 0 then 0 else -1) := h.2.2.1
theorem DS.up {w n : Int} {br : Int → Int} {fr : Int} {D : Int → Int} (h : DS w n br fr D) : ∀ c, 0 ≤ c → c < n → ¬ D c = -1 → (c = fr ∧ D c = 0) ∨ ∃ p, (0 ≤ p ∧ p < n) ∧ ¬ D p = -1 ∧ D c = D p + 1 ∧ btw w p c = 1 := h.2.2.2.1
theorem DS.nx {w n : Int} {br : Int → Int} {fr : Int} {D : Int → Int} (h : DS w n br fr D) : ∀ c e, 0 ≤ c → c < n → 0 ≤ e → e < n → ¬ D c = -1 → btw w c e = 1 → br e = 0 → ¬ D e = -1 ∧ D e ≤ D c + 1 := h.2.2.2.2
theorem DS_le {w n fr : Int} {br D D' : Int → Int} (h : DS w n br fr D) (h' : DS w n br fr D') : ∀ (k : Nat) (c : Int), 0 ≤ c → c < n → D c = k → ¬ D' c = -1 ∧ D' c ≤ D c := by
  intro k
  induction k with
  | zero =>
    intro c c0 cn hc
    rcases h.up c c0 cn (by omega) with ⟨e, -⟩ | ⟨p, p1, p2, p3, p4⟩
    · have s1 := h.st
      have s2 := h'.st
      rw [← e] at s1 s2
      by_cases b : br c = 0
      · rw [if_pos b] at s2
        omega
      · rw [if_neg b] at s1
        omega
    · have := h.rg p p1.1 p1.2
      omega
  | succ k ih =>
    intro c c0 cn hc
    rcases h.up c c0 cn (by omega) with ⟨e, e2⟩ | ⟨p, p1, p2, p3, p4⟩
    · omega
    · have z := ih p p1.1 p1.2 (by omega)
      have b : br c = 0 := by
        by_cases b : br c = 0
        · exact b
        · have := h.bl c c0 cn b
          omega
      have y := h'.nx p c p1.1 p1.2 c0 cn z.1 p4 b
      exact ⟨y.1, by omega⟩
theorem DS_u {w n fr : Int} {br D D' : Int → Int} (h : DS w n br fr D) (h' : DS w n br fr D') {c : Int} (c0 : 0 ≤ c) (cn : c < n) : D c = D' c := by
  have r := h.rg c c0 cn
  have r' := h'.rg c c0 cn
  by_cases q : D c = -1
  · by_cases q' : D' c = -1
    · omega
    · have := DS_le h' h (D' c).toNat c c0 cn (by omega)
      omega
  · have a := DS_le h h' (D c).toNat c c0 cn (by omega)
    have b := DS_le h' h (D' c).toNat c c0 cn (by omega)
    omega
/-- paces from fr, if there is such a row -/
noncomputable def dsV (w n : Int) (br : Int → Int) (fr : Int) : Int → Int := Classical.epsilon (fun D => DS w n br fr D)
theorem DS_e {w n fr : Int} {br D : Int → Int} (h : DS w n br fr D) : DS w n br fr (dsV w n br fr) := Classical.epsilon_spec (p := fun D => DS w n br fr D) ⟨D, h⟩
theorem DS_v {w n fr : Int} {br D : Int → Int} (h : DS w n br fr D) {c : Int} (c0 : 0 ≤ c) (cn : c < n) : D c = dsV w n br fr c := DS_u h (DS_e h) c0 cn
/-- cells side by side -/
theorem adjW {w c e : Int} (hw : 3 ≤ w ∧ w ≤ 8) (hc : 0 ≤ c ∧ c < 64) (he : 0 ≤ e ∧ e < 64) : btw w c e = 1 ↔ (e = c - 1 ∧ 0 < c.tmod w) ∨ (e = c + 1 ∧ c.tmod w < w - 1) ∨ e = c - w ∨ e = c + w := by
  unfold btw iabs
  rw [Int.tmod_eq_emod_of_nonneg hc.1, Int.tmod_eq_emod_of_nonneg he.1, Int.tdiv_eq_ediv_of_nonneg hc.1, Int.tdiv_eq_ediv_of_nonneg he.1]
  rcases (show w = 3 ∨ w = 4 ∨ w = 5 ∨ w = 6 ∨ w = 7 ∨ w = 8 by omega) with q | q | q | q | q | q <;> subst q <;> constructor <;> intro h <;> (repeat' split at h) <;> (repeat' split) <;> omega
def cnA (n : Int) (D : Int → Int) : Int := sumTo (fun c => if D c = -1 then 0 else 1) n
theorem cnA_rng {n : Int} (hn : 0 ≤ n) (D : Int → Int) : 0 ≤ cnA n D ∧ cnA n D ≤ n := sumTo_rng hn (fun e _ _ => by
  try dsimp only
  split
  · exact Or.inl rfl
  · exact Or.inr rfl)
theorem cnA_up {n b x : Int} {D D' : Int → Int} (hb : 0 ≤ b ∧ b < n) (h0 : D b = -1) (h1 : D' b = x) (hx : ¬ x = -1) (ho : ∀ e, ¬ e = b → D' e = D e) : cnA n D' = cnA n D + 1 := by
  have k := sumTo_up (f := fun c => if D c = -1 then (0 : Int) else 1) (f' := fun c => if D' c = -1 then (0 : Int) else 1) (n := n) (c := b) (v := 1) hb (by rw [h1, if_neg hx]) (fun e _ _ q => by rw [ho e q])
  rw [if_pos h0] at k
  unfold cnA
  omega
/-- the search in width: dn cells of the queue of wt are done -/
def BI (w n : Int) (br : Int → Int) (fr : Int) (D : Int → Int) (q : Int → Int) (dn wt : Int) : Prop :=
  (∀ c, 0 ≤ c → c < n → D c = -1 ∨ 0 ≤ D c) ∧
  (∀ c, 0 ≤ c → c < n → ¬ br c = 0 → D c = -1) ∧
  (D fr = 0 ∧ br fr = 0) ∧
  (∀ c, 0 ≤ c → c < n → ¬ D c = -1 → (c = fr ∧ D c = 0) ∨ ∃ p, (0 ≤ p ∧ p < n) ∧ ¬ D p = -1 ∧ D c = D p + 1 ∧ btw w p c = 1) ∧
  (∀ j e, 0 ≤ j → j < dn → 0 ≤ e → e < n → btw w (q j) e = 1 → br e = 0 → ¬ D e = -1 ∧ D e ≤ D (q j) + 1) ∧
  (∀ j, 0 ≤ j → j < wt → (0 ≤ q j ∧ q j < n) ∧ ¬ D (q j) = -1 ∧ D (q j) ≤ j) ∧
  (∀ i j, 0 ≤ i → i ≤ j → j < wt → D (q i) ≤ D (q j)) ∧
  (∀ j, 0 ≤ j → j < wt → dn < wt → D (q j) ≤ D (q dn) + 1) ∧
  (∀ c, 0 ≤ c → c < n → ¬ D c = -1 → ∃ j, (0 ≤ j ∧ j < wt) ∧ q j = c) ∧
  (wt = cnA n D) ∧
  (0 ≤ dn ∧ dn ≤ wt)
theorem BI.rg {w n : Int} {br : Int → Int} {fr : Int} {D : Int → Int} {q : Int → Int} {dn wt : Int} (h : BI w n br fr D q dn wt) : ∀ c, 0 ≤ c → c < n → D c = -1 ∨ 0 ≤ D c := h.1
theorem BI.bl {w n : Int} {br : Int → Int} {fr : Int} {D : Int → Int} {q : Int → Int} {dn wt : Int} (h : BI w n br fr D q dn wt) : ∀ c, 0 ≤ c → c < n → ¬ br c = 0 → D c = -1 := h.2.1
theorem BI.st {w n : Int} {br : Int → Int} {fr : Int} {D : Int → Int} {q : Int → Int} {dn wt : Int} (h : BI w n br fr D q dn wt) : D fr = 0 ∧ br fr = 0 := h.2.2.1
theorem BI.up {w n : Int} {br : Int → Int} {fr : Int} {D : Int → Int} {q : Int → Int} {dn wt : Int} (h : BI w n br fr D q dn wt) : ∀ c, 0 ≤ c → c < n → ¬ D c = -1 → (c = fr ∧ D c = 0) ∨ ∃ p, (0 ≤ p ∧ p < n) ∧ ¬ D p = -1 ∧ D c = D p + 1 ∧ btw w p c = 1 := h.2.2.2.1
theorem BI.nx {w n : Int} {br : Int → Int} {fr : Int} {D : Int → Int} {q : Int → Int} {dn wt : Int} (h : BI w n br fr D q dn wt) : ∀ j e, 0 ≤ j → j < dn → 0 ≤ e → e < n → btw w (q j) e = 1 → br e = 0 → ¬ D e = -1 ∧ D e ≤ D (q j) + 1 := h.2.2.2.2.1
theorem BI.qr {w n : Int} {br : Int → Int} {fr : Int} {D : Int → Int} {q : Int → Int} {dn wt : Int} (h : BI w n br fr D q dn wt) : ∀ j, 0 ≤ j → j < wt → (0 ≤ q j ∧ q j < n) ∧ ¬ D (q j) = -1 ∧ D (q j) ≤ j := h.2.2.2.2.2.1
theorem BI.qs {w n : Int} {br : Int → Int} {fr : Int} {D : Int → Int} {q : Int → Int} {dn wt : Int} (h : BI w n br fr D q dn wt) : ∀ i j, 0 ≤ i → i ≤ j → j < wt → D (q i) ≤ D (q j) := h.2.2.2.2.2.2.1
theorem BI.ql {w n : Int} {br : Int → Int} {fr : Int} {D : Int → Int} {q : Int → Int} {dn wt : Int} (h : BI w n br fr D q dn wt) : ∀ j, 0 ≤ j → j < wt → dn < wt → D (q j) ≤ D (q dn) + 1 := h.2.2.2.2.2.2.2.1
theorem BI.qa {w n : Int} {br : Int → Int} {fr : Int} {D : Int → Int} {q : Int → Int} {dn wt : Int} (h : BI w n br fr D q dn wt) : ∀ c, 0 ≤ c → c < n → ¬ D c = -1 → ∃ j, (0 ≤ j ∧ j < wt) ∧ q j = c := h.2.2.2.2.2.2.2.2.1
theorem BI.ct {w n : Int} {br : Int → Int} {fr : Int} {D : Int → Int} {q : Int → Int} {dn wt : Int} (h : BI w n br fr D q dn wt) : wt = cnA n D := h.2.2.2.2.2.2.2.2.2.1
theorem BI.dw {w n : Int} {br : Int → Int} {fr : Int} {D : Int → Int} {q : Int → Int} {dn wt : Int} (h : BI w n br fr D q dn wt) : 0 ≤ dn ∧ dn ≤ wt := h.2.2.2.2.2.2.2.2.2.2
theorem BI_add {w n fr dn wt b : Int} {br D q D' q' : Int → Int} (hn : 0 ≤ n) (h : BI w n br fr D q dn wt) (hd : dn < wt) (hb : 0 ≤ b ∧ b < n) (h0 : D b = -1) (hbr : br b = 0) (hadj : btw w (q dn) b = 1) (d1 : D' b = D (q dn) + 1) (d2 : ∀ e, ¬ e = b → D' e = D e) (q1 : q' wt = b) (q2 : ∀ j, ¬ j = wt → q' j = q j) : BI w n br fr D' q' dn (wt + 1) := by
  have dw := h.dw
  have qd := h.qr dn dw.1 hd
  have rq := h.rg (q dn) qd.1.1 qd.1.2
  have nb : ∀ e, ¬ D e = -1 → ¬ e = b := fun e z y => z (by rw [y]; exact h0)
  have k : ∀ e, ¬ D e = -1 → D' e = D e := fun e z => d2 e (nb e z)
  have hst := h.st
  refine ⟨fun c x y => ?_, fun c x y z => ?_, ⟨(k fr (by omega)).trans hst.1, hst.2⟩, fun c x y z => ?_, fun j e x y x2 y2 a1 a2 => ?_, fun j x y => ?_, fun i j x y z => ?_, fun j x y z => ?_, fun c x y z => ?_, ?_, by omega⟩
  · by_cases e : c = b
    · rw [e, d1]
      omega
    · rw [d2 c e]
      exact h.rg c x y
  · by_cases e : c = b
    · rw [e] at z
      exact absurd hbr z
    · rw [d2 c e]
      exact h.bl c x y z
  · by_cases e : c = b
    · refine Or.inr ⟨q dn, qd.1, ?_, ?_, ?_⟩
      · rw [k _ qd.2.1]
        exact qd.2.1
      · rw [e, d1, k _ qd.2.1]
      · rw [e]
        exact hadj
    · rw [d2 c e] at z ⊢
      rcases h.up c x y z with p | ⟨p, p1, p2, p3, p4⟩
      · exact Or.inl p
      · exact Or.inr ⟨p, p1, by rw [k p p2]; exact p2, by rw [k p p2]; exact p3, p4⟩
  · have z := h.qr j x (by omega)
    rw [q2 j (by omega)] at a1 ⊢
    have y3 := h.nx j e x y x2 y2 a1 a2
    rw [k _ z.2.1, k e y3.1]
    exact y3
  · by_cases e : j = wt
    · rw [e, q1, d1]
      exact ⟨hb, by omega, by omega⟩
    · have z := h.qr j x (by omega)
      rw [q2 j e, k _ z.2.1]
      exact z
  · by_cases e : j = wt
    · rw [e, q1, d1]
      by_cases e2 : i = wt
      · rw [e2, q1, d1]
        exact Int.le_refl _
      · have z2 := h.qr i x (by omega)
        rw [q2 i e2, k _ z2.2.1]
        exact h.ql i x (by omega) hd
    · have z1 := h.qr i x (by omega)
      have z2 := h.qr j (by omega) (by omega)
      rw [q2 i (by omega), q2 j e, k _ z1.2.1, k _ z2.2.1]
      exact h.qs i j x y (by omega)
  · rw [q2 dn (by omega), k _ qd.2.1]
    by_cases e : j = wt
    · rw [e, q1, d1]
      exact Int.le_refl _
    · have z2 := h.qr j x (by omega)
      rw [q2 j e, k _ z2.2.1]
      exact h.ql j x (by omega) hd
  · by_cases e : c = b
    · exact ⟨wt, by omega, by rw [q1, e]⟩
    · rw [d2 c e] at z
      obtain ⟨j, j1, j2⟩ := h.qa c x y z
      exact ⟨j, by omega, by rw [q2 j (by omega)]; exact j2⟩
  · rw [cnA_up hb h0 d1 (by omega) d2, ← h.ct]
theorem BI_next {w n fr dn wt : Int} {br D q : Int → Int} (h : BI w n br fr D q dn wt) (hd : dn < wt) (hn : ∀ e, 0 ≤ e → e < n → btw w (q dn) e = 1 → br e = 0 → ¬ D e = -1 ∧ D e ≤ D (q dn) + 1) : BI w n br fr D q (dn + 1) wt := by
  have dw := h.dw
  refine ⟨h.rg, h.bl, h.st, h.up, fun j e x y x2 y2 a1 a2 => ?_, h.qr, h.qs, fun j x y z => ?_, h.qa, h.ct, by omega⟩
  · by_cases q : j = dn
    · rw [q] at a1 ⊢
      exact hn e x2 y2 a1 a2
    · exact h.nx j e x (by omega) x2 y2 a1 a2
  · have a := h.ql j x y hd
    have b := h.qs dn (dn + 1) dw.1 (by omega) z
    omega
theorem BI_end {w n fr dn wt : Int} {br D q : Int → Int} (hn : 0 ≤ n ∧ n ≤ 64) (h : BI w n br fr D q dn wt) (hd : wt ≤ dn) : DS w n br fr D := by
  have dw := h.dw
  have hc := cnA_rng hn.1 D
  have ct := h.ct
  have hs := h.st
  refine ⟨fun c x y => ?_, h.bl, by rw [if_pos hs.2]; exact hs.1, h.up, fun c e x y x2 y2 z a1 a2 => ?_⟩
  · by_cases q : D c = -1
    · exact Or.inl q
    · obtain ⟨j, j1, j2⟩ := h.qa c x y q
      have z := h.qr j j1.1 j1.2
      have r := h.rg c x y
      rw [j2] at z
      omega
  · obtain ⟨j, j1, j2⟩ := h.qa c x y z
    have k := h.nx j e j1.1 (by omega) x2 y2 (by rw [j2]; exact a1) a2
    rw [j2] at k
    exact k
theorem DS_bar {w n fr : Int} {br D : Int → Int} (h : ∀ c, 0 ≤ c → c < n → D c = -1) (hf : 0 ≤ fr ∧ fr < n) (hb : ¬ br fr = 0) : DS w n br fr D :=
  ⟨fun c x y => Or.inl (h c x y), fun c x y _ => h c x y, by rw [if_neg hb]; exact h fr hf.1 hf.2, fun c x y z => absurd (h c x y) z, fun c e x y _ _ z => absurd (h c x y) z⟩

/-- the search of the class, in the heap -/
def bH (H h : XH) (f dn wt : Int) : Prop := (∀ o, ¬ o = 47 → ¬ o = 48 → h o = H o) ∧ (∀ k, ¬ (f * 64 ≤ k ∧ k < f * 64 + 64) → h 47 k = H 47 k) ∧ BI (H 67 0) (H 67 1) (fun e => H 68 (20 + e)) f (fun c => h 47 (f * 64 + c)) (h 48) dn wt
def RS (H h : XH) (f dn wt cl : Int) (P : Int → Prop) : Prop := bH H h f dn wt ∧ dn < wt ∧ h 48 dn = cl ∧ ∀ e, P e → 0 ≤ e → e < H 67 1 → H 68 (20 + e) = 0 → ¬ h 47 (f * 64 + e) = -1 ∧ h 47 (f * 64 + e) ≤ h 47 (f * 64 + cl) + 1
def rcF (H : XH) (r c b v v' : Int) (h : XH) : Prop := (¬ ((0 ≤ b ∧ b < H 2 2) ∧ H 6 b = 0 ∧ H 47 (r + b) = -1 ∧ v < 64) ∧ v' = v ∧ h = H) ∨ (((0 ≤ b ∧ b < H 2 2) ∧ H 6 b = 0 ∧ H 47 (r + b) = -1 ∧ v < 64) ∧ v' = v + 1 ∧ h = xup (xup H 47 (r + b) (H 47 (r + c) + 1)) 48 v b)

theorem U_89 {X : Int × (Int → Int)} {d : Nat} {Q : Int → XH → Prop} (hd : 1 ≤ d) (r c b v : Int) (H : XH) (h : ((((0 ≤ b ∧ b < H 2 2)) → ((0 : Int) ≤ b ∧ (b : Int) < 64) ∧ ((H 6 b = 0) → (xI (r + b)) ∧ ((0 : Int) ≤ r + b ∧ (r + b : Int) < 4096) ∧ ((¬ H 47 (r + b) = (-1)) → Q v H) ∧ (¬ (¬ H 47 (r + b) = (-1)) → ((v < 64) → (xI (r + b)) ∧ (xI (r + c)) ∧ ((0 : Int) ≤ r + c ∧ (r + c : Int) < 4096) ∧ (xI ((H 47 (r + c)) + 1)) ∧ ((0 : Int) ≤ r + b ∧ (r + b : Int) < 4096) ∧ ((0 : Int) ≤ v ∧ (v : Int) < 64) ∧ (xI (v + 1)) ∧ Q (v + 1) (xup (xup H 47 (r + b) ((H 47 (r + c)) + 1)) 48 v b)) ∧ (¬ (v < 64) → Q v H))) ∧ (¬ (H 6 b = 0) → Q v H)) ∧ (¬ ((0 ≤ b ∧ b < H 2 2)) → Q v H))) : xc X (d + 1) 89 [(2, 46), (2, 2), (0, r), (0, c), (0, b), (0, v)] H Q := by
  refine ⟨rfl, ?_⟩
  show xq X d 89 Q 100000 [(0, (2, 46)), (1, (2, 2)), (2, (0, r)), (3, (0, c)), (4, (0, b)), (5, (0, v))] [] H
  refine xq_run [6] 300 ?_
  show xWM (xE X) xMC d 18 [(2, 2), (0, b)] xKZ H _
  refine xc_in (s_18 (by omega) b H  ?_)
  replace h := h
  show xq X d 89 Q 6 [(0, (2, 46)), (1, (2, 2)), (2, (0, r)), (3, (0, c)), (4, (0, b)), (5, (0, v))] [(0, xb (0 ≤ b ∧ b < H 2 2))] H
  refine xq_run [6] 300 ?_
  show ((xb (0 ≤ b ∧ b < H 2 2) = 0) → xfR 0 v ∧ xKZ = xKZ ∧ Q v H) ∧ (¬ (xb (0 ≤ b ∧ b < H 2 2) = 0) → ((0 : Int) ≤ b ∧ (b : Int) < 64) ∧ ((H 6 b = 0) → (xI (r + b)) ∧ ((0 : Int) ≤ r + b ∧ (r + b : Int) < 4096) ∧ ((¬ H 47 (r + b) = (-1)) → xfR 0 v ∧ xKZ = xKZ ∧ Q v H) ∧ (¬ (¬ H 47 (r + b) = (-1)) → ((v < 64) → (xI (r + b)) ∧ (xI (r + c)) ∧ ((0 : Int) ≤ r + c ∧ (r + c : Int) < 4096) ∧ (xI ((H 47 (r + c)) + 1)) ∧ ((0 : Int) ≤ r + b ∧ (r + b : Int) < 4096) ∧ ((0 : Int) ≤ v ∧ (v : Int) < 64) ∧ (xI (v + 1)) ∧ xfR 0 (v + 1) ∧ xKZ = xKZ ∧ Q (v + 1) (xup (xup H 47 (r + b) ((H 47 (r + c)) + 1)) 48 v b)) ∧ (¬ (v < 64) → xfR 0 v ∧ xKZ = xKZ ∧ Q v H))) ∧ (¬ (H 6 b = 0) → xfR 0 v ∧ xKZ = xKZ ∧ Q v H))
  refine ⟨fun k_ => ?_, fun k_ => ?_⟩
  · replace h := h.2 (xbe_0.mp k_)
    exact ⟨trivial, rfl, h⟩
  · replace h := h.1 (xbe_1.mp k_)
    refine ⟨h.1, ?_⟩
    replace h := h.2
    refine ⟨fun k_ => ?_, fun k_ => ?_⟩
    · replace h := h.1 k_
      refine ⟨h.1, ?_⟩
      replace h := h.2
      refine ⟨h.1, ?_⟩
      replace h := h.2
      refine ⟨fun k_ => ?_, fun k_ => ?_⟩
      · replace h := h.1 k_
        exact ⟨trivial, rfl, h⟩
      · replace h := h.2 k_
        refine ⟨fun k_ => ?_, fun k_ => ?_⟩
        · replace h := h.1 k_
          refine ⟨h.1, ?_⟩
          replace h := h.2
          refine ⟨h.1, ?_⟩
          replace h := h.2
          refine ⟨h.1, ?_⟩
          replace h := h.2
          refine ⟨h.1, ?_⟩
          replace h := h.2
          refine ⟨h.1, ?_⟩
          replace h := h.2
          refine ⟨h.1, ?_⟩
          replace h := h.2
          refine ⟨h.1, ?_⟩
          replace h := h.2
          exact ⟨trivial, rfl, h⟩
        · replace h := h.2 k_
          exact ⟨trivial, rfl, h⟩
    · replace h := h.2 k_
      exact ⟨trivial, rfl, h⟩

theorem s_89 {X : Int × (Int → Int)} {d : Nat} {Q : Int → XH → Prop} (hd : 2 ≤ d) (r c b v : Int) (H : XH) (pn : 0 ≤ H 2 2 ∧ H 2 2 ≤ 64) (pr : 0 ≤ r ∧ r ≤ 4032) (pc : 0 ≤ c ∧ c < 64) (pv : 0 ≤ v) (pD : -1 ≤ H 47 (r + c) ∧ H 47 (r + c) ≤ 1000) (hQ : ∀ (v' : Int) (h1 : XH), rcF H r c b v v' h1 → Q v' h1) : xc X d 89 [(2, 46), (2, 2), (0, r), (0, c), (0, b), (0, v)] H Q := by
  cases d with
  | zero => omega
  | succ d =>
  have no : ¬ ((0 ≤ b ∧ b < H 2 2) ∧ H 6 b = 0 ∧ H 47 (r + b) = -1 ∧ v < 64) → Q v H := fun q => hQ v H (Or.inl ⟨q, rfl, rfl⟩)
  refine U_89 (by omega) r c b v H ?_
  refine ⟨fun c1 => ?_, fun c1 => ?_⟩
  · skip
    refine ⟨?_, ?_⟩
    · first | omega | (unfold xI; omega)
    refine ⟨fun c2 => ?_, fun c2 => ?_⟩
    · skip
      refine ⟨?_, ?_⟩
      · first | omega | (unfold xI; omega)
      refine ⟨?_, ?_⟩
      · first | omega | (unfold xI; omega)
      refine ⟨fun c3 => ?_, fun c3 => ?_⟩
      · skip
        first | exact hQ _ _ (Or.inr ⟨⟨by omega, by omega, by omega, by omega⟩, rfl, rfl⟩) | exact no (by omega)
      · skip
        refine ⟨fun c4 => ?_, fun c4 => ?_⟩
        · skip
          refine ⟨?_, ?_⟩
          · first | omega | (unfold xI; omega)
          refine ⟨?_, ?_⟩
          · first | omega | (unfold xI; omega)
          refine ⟨?_, ?_⟩
          · first | omega | (unfold xI; omega)
          refine ⟨?_, ?_⟩
          · first | omega | (unfold xI; omega)
          refine ⟨?_, ?_⟩
          · first | omega | (unfold xI; omega)
          refine ⟨?_, ?_⟩
          · first | omega | (unfold xI; omega)
          refine ⟨?_, ?_⟩
          · first | omega | (unfold xI; omega)
          first | exact hQ _ _ (Or.inr ⟨⟨by omega, by omega, by omega, by omega⟩, rfl, rfl⟩) | exact no (by omega)
        · skip
          first | exact hQ _ _ (Or.inr ⟨⟨by omega, by omega, by omega, by omega⟩, rfl, rfl⟩) | exact no (by omega)
    · skip
      first | exact hQ _ _ (Or.inr ⟨⟨by omega, by omega, by omega, by omega⟩, rfl, rfl⟩) | exact no (by omega)
  · skip
    first | exact hQ _ _ (Or.inr ⟨⟨by omega, by omega, by omega, by omega⟩, rfl, rfl⟩) | exact no (by omega)

theorem RS_reach {H h h1 : XH} {f dn wt wt' cl b : Int} {P : Int → Prop} (hi : InvS H) (hf : 0 ≤ f ∧ f < H 67 1) (S : RS H h f dn wt cl P) (hx : rcF h (f * 64) cl b wt wt' h1) (hadj : 0 ≤ b → b < H 67 1 → btw (H 67 0) cl b = 1) : RS H h1 f dn wt' cl (fun e => P e ∨ e = b) := by
  obtain ⟨⟨b1, b2, b3⟩, s2, s3, s4⟩ := S
  obtain ⟨hg, hs⟩ := hi
  have nn := hg.nn
  have l2 := hs.l2
  have f2 := b1 2 (by decide) (by decide)
  have f6 := b1 6 (by decide) (by decide)
  have dw := b3.dw
  have qd := b3.qr dn dw.1 s2
  have ct := b3.ct
  have hc := cnA_rng (n := H 67 1) (by omega) (fun c => h 47 (f * 64 + c))
  rw [s3] at qd
  unfold rcF at hx
  rw [f2, f6, l2] at hx
  rcases hx with ⟨x1, x2, x3⟩ | ⟨⟨x1, x1b, x1c, x1d⟩, x2, x3⟩
  · rw [x2, x3]
    refine ⟨⟨b1, b2, b3⟩, s2, s3, fun e pe e0 en eb => ?_⟩
    rcases pe with pe | pe
    · exact s4 e pe e0 en eb
    · rw [pe] at e0 en eb ⊢
      have i6 := hs.b b e0 (by omega)
      have z : ¬ h 47 (f * 64 + b) = -1 := fun q => by
        have up := cnA_up (n := H 67 1) (b := b) (x := 0) (D := fun c => h 47 (f * 64 + c)) (D' := fun c => if c = b then 0 else h 47 (f * 64 + c)) ⟨e0, en⟩ q (if_pos rfl) (by decide) (fun e y => if_neg y)
        have up2 := cnA_rng (n := H 67 1) (by omega) (fun c => if c = b then 0 else h 47 (f * 64 + c))
        exact x1 ⟨⟨e0, en⟩, by omega, q, by omega⟩
      obtain ⟨j, j1, j2⟩ := b3.qa b e0 en z
      have y := b3.ql j j1.1 j1.2 s2
      rw [j2, s3] at y
      exact ⟨z, y⟩
  · rw [x2, x3]
    have i6 := hs.b b x1.1 (by omega)
    have ne : ¬ b = cl := fun q => qd.2.1 (by rw [← q]; exact x1c)
    have d1 : xup (xup h 47 (f * 64 + b) (h 47 (f * 64 + cl) + 1)) 48 wt b 47 (f * 64 + b) = h 47 (f * 64 + cl) + 1 := by
      rw [xup_ne (by decide), xup_self]
    have d2 : ∀ e, ¬ e = b → xup (xup h 47 (f * 64 + b) (h 47 (f * 64 + cl) + 1)) 48 wt b 47 (f * 64 + e) = h 47 (f * 64 + e) := fun e q => by
      rw [xup_ne (by decide), xup_k (by omega)]
    have q1 : xup (xup h 47 (f * 64 + b) (h 47 (f * 64 + cl) + 1)) 48 wt b 48 wt = b := xup_self _ _ _ _
    have q2 : ∀ j, ¬ j = wt → xup (xup h 47 (f * 64 + b) (h 47 (f * 64 + cl) + 1)) 48 wt b 48 j = h 48 j := fun j q => by
      rw [xup_k q, xup_ne (by decide)]
    refine ⟨⟨fun o p q => by rw [xup_ne q, xup_ne p]; exact b1 o p q, fun k q => by rw [xup_ne (by decide), xup_k (by omega)]; exact b2 k q, BI_add (D := fun c => h 47 (f * 64 + c)) (q := h 48) (b := b) (by omega) b3 s2 x1 x1c (by rw [← i6]; exact x1b) (by rw [s3]; exact hadj x1.1 x1.2) (by rw [s3]; exact d1) d2 q1 q2⟩, by omega, by rw [q2 dn (by omega)]; exact s3, fun e pe e0 en eb => ?_⟩
    by_cases q : e = b
    · rw [q, d1, d2 cl (fun z => ne z.symm)]
      exact ⟨by have := b3.rg cl qd.1.1 qd.1.2; omega, Int.le_refl _⟩
    · rw [d2 e q, d2 cl (fun z => ne z.symm)]
      exact s4 e (pe.resolve_right q) e0 en eb
theorem RS_0 {H h : XH} {f dn wt : Int} (hb : bH H h f dn wt) (hd : dn < wt) : RS H h f dn wt (h 48 dn) (fun _ => False) := ⟨hb, hd, rfl, fun e p => absurd p (fun q => q)⟩
theorem RS_end {H h : XH} {f dn wt cl : Int} {P : Int → Prop} (S : RS H h f dn wt cl P) (hP : ∀ e, 0 ≤ e → e < H 67 1 → btw (H 67 0) cl e = 1 → P e) : bH H h f (dn + 1) wt := by
  obtain ⟨⟨b1, b2, b3⟩, s2, s3, s4⟩ := S
  refine ⟨b1, b2, BI_next b3 s2 (fun e x y a b => ?_)⟩
  rw [s3] at a ⊢
  exact s4 e (hP e x y a) x y b

theorem U_90 {X : Int × (Int → Int)} {d : Nat} {Q : Int → XH → Prop} (hd : 1 ≤ d) (f : Int) (H : XH) (h : ((((0 ≤ f ∧ f < H 2 2)) → (xI (f * 64)) ∧ xq X d 90 Q 17 [(0, (2, 46)), (1, (2, 2)), (2, (0, f)), (3, (0, f * 64)), (4, (0, 0))] [] H) ∧ (¬ ((0 ≤ f ∧ f < H 2 2)) → Q 0 H))) : xc X (d + 1) 90 [(2, 46), (2, 2), (0, f)] H Q := by
  refine ⟨rfl, ?_⟩
  show xq X d 90 Q 100000 [(0, (2, 46)), (1, (2, 2)), (2, (0, f))] [] H
  refine xq_run [5, 17, 72, 135, 162, 181, 200] 300 ?_
  show xWM (xE X) xMC d 18 [(2, 2), (0, f)] xKZ H _
  refine xc_in (s_18 (by omega) f H  ?_)
  replace h := h
  show xq X d 90 Q 5 [(0, (2, 46)), (1, (2, 2)), (2, (0, f))] [(0, xb (0 ≤ f ∧ f < H 2 2))] H
  refine xq_run [5, 17, 72, 135, 162, 181, 200] 300 ?_
  show ((¬ xb (0 ≤ f ∧ f < H 2 2) = 0) → (xI (f * 64)) ∧ xq X d 90 Q 17 [(0, (2, 46)), (1, (2, 2)), (2, (0, f)), (3, (0, f * 64)), (4, (0, 0))] [] H) ∧ (¬ (¬ xb (0 ≤ f ∧ f < H 2 2) = 0) → xfR 2 0 ∧ xKZ = xKZ ∧ Q 0 H)
  refine ⟨fun k_ => ?_, fun k_ => ?_⟩
  · replace h := h.1 (xbe_1.mp k_)
    refine ⟨h.1, ?_⟩
    replace h := h.2
    exact h
  · replace h := h.2 (xbe_n.mp k_)
    exact ⟨trivial, rfl, h⟩
theorem U_90_17 {X : Int × (Int → Int)} {d : Nat} {Q : Int → XH → Prop} (hd : 0 ≤ d) (v2 v3 v4 : Int) (H : XH) (h : ((64 ≤ v4) → ((0 : Int) ≤ v2 ∧ (v2 : Int) < 64) ∧ ((H 6 v2 = 0) → (xI (v3 + v2)) ∧ ((0 : Int) ≤ v3 + v2 ∧ (v3 + v2 : Int) < 4096) ∧ xq X d 90 Q 72 [(0, (2, 46)), (1, (2, 2)), (3, (0, v3)), (4, (0, 1)), (5, (0, 0))] [] (xup (xup H 47 (v3 + v2) 0) 48 0 v2)) ∧ (¬ (H 6 v2 = 0) → Q 0 H)) ∧ (¬ (64 ≤ v4) → (xI (v3 + v4)) ∧ ((0 : Int) ≤ v3 + v4 ∧ (v3 + v4 : Int) < 4096) ∧ (xI (v4 + 1)) ∧ xq X d 90 Q 17 [(0, (2, 46)), (1, (2, 2)), (2, (0, v2)), (3, (0, v3)), (4, (0, v4 + 1))] [] (xup H 47 (v3 + v4) (-1)))) : xq X d 90 Q 17 [(0, (2, 46)), (1, (2, 2)), (2, (0, v2)), (3, (0, v3)), (4, (0, v4))] [] H := by
  show xq X d 90 Q 17 [(0, (2, 46)), (1, (2, 2)), (2, (0, v2)), (3, (0, v3)), (4, (0, v4))] [] H
  refine xq_run [5, 17, 72, 135, 162, 181, 200] 300 ?_
  show ((64 ≤ v4) → ((0 : Int) ≤ v2 ∧ (v2 : Int) < 64) ∧ ((H 6 v2 = 0) → (xI (v3 + v2)) ∧ ((0 : Int) ≤ v3 + v2 ∧ (v3 + v2 : Int) < 4096) ∧ ((0 : Int) ≤ 0 ∧ (0 : Int) < 64) ∧ xq X d 90 Q 72 [(0, (2, 46)), (1, (2, 2)), (3, (0, v3)), (4, (0, 1)), (5, (0, 0))] [] (xup (xup H 47 (v3 + v2) 0) 48 0 v2)) ∧ (¬ (H 6 v2 = 0) → xfR 2 0 ∧ xKZ = xKZ ∧ Q 0 H)) ∧ (¬ (64 ≤ v4) → (xI (v3 + v4)) ∧ ((0 : Int) ≤ v3 + v4 ∧ (v3 + v4 : Int) < 4096) ∧ (xI (v4 + 1)) ∧ xq X d 90 Q 17 [(0, (2, 46)), (1, (2, 2)), (2, (0, v2)), (3, (0, v3)), (4, (0, v4 + 1))] [] (xup H 47 (v3 + v4) (-1)))
  refine ⟨fun k_ => ?_, fun k_ => ?_⟩
  · replace h := h.1 k_
    refine ⟨h.1, ?_⟩
    replace h := h.2
    refine ⟨fun k_ => ?_, fun k_ => ?_⟩
    · replace h := h.1 k_
      refine ⟨h.1, ?_⟩
      replace h := h.2
      refine ⟨h.1, ?_⟩
      replace h := h.2
      refine ⟨⟨by decide, by decide⟩, ?_⟩
      exact h
    · replace h := h.2 k_
      exact ⟨trivial, rfl, h⟩
  · replace h := h.2 k_
    refine ⟨h.1, ?_⟩
    replace h := h.2
    refine ⟨h.1, ?_⟩
    replace h := h.2
    refine ⟨h.1, ?_⟩
    replace h := h.2
    exact h
theorem U_90_72 {X : Int × (Int → Int)} {d : Nat} {Q : Int → XH → Prop} (hd : 2 ≤ d) (v3 v4 v5 : Int) (H : XH) (h : ((v4 ≤ v5) → Q 0 H) ∧ (¬ (v4 ≤ v5) → ((64 ≤ v5) → Q 0 H) ∧ (¬ (64 ≤ v5) → ((0 : Int) ≤ v5 ∧ (v5 : Int) < 64) ∧ ((1 ≤ H 2 0) → (¬ H 2 0 = 0 ∧ xI (Int.tdiv (H 48 v5) (H 2 0))) ∧ ((Int.tmod (H 48 v5) (H 2 0) ≤ 0) → (xI ((H 2 0) - 1)) ∧ (((H 2 0) - 1 ≤ Int.tmod (H 48 v5) (H 2 0)) → (xI ((H 48 v5) - (H 2 0))) ∧ (0 ≤ H 2 2 ∧ H 2 2 ≤ 64) ∧ (0 ≤ v3 ∧ v3 ≤ 4032) ∧ (0 ≤ H 48 v5 ∧ H 48 v5 < 64) ∧ (0 ≤ v4) ∧ (-1 ≤ H 47 (v3 + (H 48 v5)) ∧ H 47 (v3 + (H 48 v5)) ≤ 1000) ∧ (∀ (J215 : Int) (h214 : XH), (rcF H v3 (H 48 v5) ((H 48 v5) - (H 2 0)) v4 J215 h214) → (xI ((H 48 v5) + (h214 2 0))) ∧ (0 ≤ h214 2 2 ∧ h214 2 2 ≤ 64) ∧ (0 ≤ v3 ∧ v3 ≤ 4032) ∧ (0 ≤ H 48 v5 ∧ H 48 v5 < 64) ∧ (0 ≤ J215) ∧ (-1 ≤ h214 47 (v3 + (H 48 v5)) ∧ h214 47 (v3 + (H 48 v5)) ≤ 1000) ∧ (∀ (J217 : Int) (h216 : XH), (rcF h214 v3 (H 48 v5) ((H 48 v5) + (h214 2 0)) J215 J217 h216) → (xI (v5 + 1)) ∧ xq X d 90 Q 72 [(0, (2, 46)), (1, (2, 2)), (3, (0, v3)), (4, (0, J217)), (5, (0, v5 + 1))] [] h216))) ∧ (¬ ((H 2 0) - 1 ≤ Int.tmod (H 48 v5) (H 2 0)) → (xI ((H 48 v5) + 1)) ∧ (0 ≤ H 2 2 ∧ H 2 2 ≤ 64) ∧ (0 ≤ v3 ∧ v3 ≤ 4032) ∧ (0 ≤ H 48 v5 ∧ H 48 v5 < 64) ∧ (0 ≤ v4) ∧ (-1 ≤ H 47 (v3 + (H 48 v5)) ∧ H 47 (v3 + (H 48 v5)) ≤ 1000) ∧ (∀ (J219 : Int) (h218 : XH), (rcF H v3 (H 48 v5) ((H 48 v5) + 1) v4 J219 h218) → (xI ((H 48 v5) - (h218 2 0))) ∧ (0 ≤ h218 2 2 ∧ h218 2 2 ≤ 64) ∧ (0 ≤ v3 ∧ v3 ≤ 4032) ∧ (0 ≤ H 48 v5 ∧ H 48 v5 < 64) ∧ (0 ≤ J219) ∧ (-1 ≤ h218 47 (v3 + (H 48 v5)) ∧ h218 47 (v3 + (H 48 v5)) ≤ 1000) ∧ (∀ (J221 : Int) (h220 : XH), (rcF h218 v3 (H 48 v5) ((H 48 v5) - (h218 2 0)) J219 J221 h220) → (xI ((H 48 v5) + (h220 2 0))) ∧ (0 ≤ h220 2 2 ∧ h220 2 2 ≤ 64) ∧ (0 ≤ v3 ∧ v3 ≤ 4032) ∧ (0 ≤ H 48 v5 ∧ H 48 v5 < 64) ∧ (0 ≤ J221) ∧ (-1 ≤ h220 47 (v3 + (H 48 v5)) ∧ h220 47 (v3 + (H 48 v5)) ≤ 1000) ∧ (∀ (J223 : Int) (h222 : XH), (rcF h220 v3 (H 48 v5) ((H 48 v5) + (h220 2 0)) J221 J223 h222) → (xI (v5 + 1)) ∧ xq X d 90 Q 72 [(0, (2, 46)), (1, (2, 2)), (3, (0, v3)), (4, (0, J223)), (5, (0, v5 + 1))] [] h222))))) ∧ (¬ (Int.tmod (H 48 v5) (H 2 0) ≤ 0) → (xI ((H 48 v5) - 1)) ∧ (0 ≤ H 2 2 ∧ H 2 2 ≤ 64) ∧ (0 ≤ v3 ∧ v3 ≤ 4032) ∧ (0 ≤ H 48 v5 ∧ H 48 v5 < 64) ∧ (0 ≤ v4) ∧ (-1 ≤ H 47 (v3 + (H 48 v5)) ∧ H 47 (v3 + (H 48 v5)) ≤ 1000) ∧ (∀ (J225 : Int) (h224 : XH), (rcF H v3 (H 48 v5) ((H 48 v5) - 1) v4 J225 h224) → (xI ((h224 2 0) - 1)) ∧ (((h224 2 0) - 1 ≤ Int.tmod (H 48 v5) (H 2 0)) → (xI ((H 48 v5) - (h224 2 0))) ∧ (0 ≤ h224 2 2 ∧ h224 2 2 ≤ 64) ∧ (0 ≤ v3 ∧ v3 ≤ 4032) ∧ (0 ≤ H 48 v5 ∧ H 48 v5 < 64) ∧ (0 ≤ J225) ∧ (-1 ≤ h224 47 (v3 + (H 48 v5)) ∧ h224 47 (v3 + (H 48 v5)) ≤ 1000) ∧ (∀ (J227 : Int) (h226 : XH), (rcF h224 v3 (H 48 v5) ((H 48 v5) - (h224 2 0)) J225 J227 h226) → (xI ((H 48 v5) + (h226 2 0))) ∧ (0 ≤ h226 2 2 ∧ h226 2 2 ≤ 64) ∧ (0 ≤ v3 ∧ v3 ≤ 4032) ∧ (0 ≤ H 48 v5 ∧ H 48 v5 < 64) ∧ (0 ≤ J227) ∧ (-1 ≤ h226 47 (v3 + (H 48 v5)) ∧ h226 47 (v3 + (H 48 v5)) ≤ 1000) ∧ (∀ (J229 : Int) (h228 : XH), (rcF h226 v3 (H 48 v5) ((H 48 v5) + (h226 2 0)) J227 J229 h228) → (xI (v5 + 1)) ∧ xq X d 90 Q 72 [(0, (2, 46)), (1, (2, 2)), (3, (0, v3)), (4, (0, J229)), (5, (0, v5 + 1))] [] h228))) ∧ (¬ ((h224 2 0) - 1 ≤ Int.tmod (H 48 v5) (H 2 0)) → (xI ((H 48 v5) + 1)) ∧ (0 ≤ h224 2 2 ∧ h224 2 2 ≤ 64) ∧ (0 ≤ v3 ∧ v3 ≤ 4032) ∧ (0 ≤ H 48 v5 ∧ H 48 v5 < 64) ∧ (0 ≤ J225) ∧ (-1 ≤ h224 47 (v3 + (H 48 v5)) ∧ h224 47 (v3 + (H 48 v5)) ≤ 1000) ∧ (∀ (J231 : Int) (h230 : XH), (rcF h224 v3 (H 48 v5) ((H 48 v5) + 1) J225 J231 h230) → (xI ((H 48 v5) - (h230 2 0))) ∧ (0 ≤ h230 2 2 ∧ h230 2 2 ≤ 64) ∧ (0 ≤ v3 ∧ v3 ≤ 4032) ∧ (0 ≤ H 48 v5 ∧ H 48 v5 < 64) ∧ (0 ≤ J231) ∧ (-1 ≤ h230 47 (v3 + (H 48 v5)) ∧ h230 47 (v3 + (H 48 v5)) ≤ 1000) ∧ (∀ (J233 : Int) (h232 : XH), (rcF h230 v3 (H 48 v5) ((H 48 v5) - (h230 2 0)) J231 J233 h232) → (xI ((H 48 v5) + (h232 2 0))) ∧ (0 ≤ h232 2 2 ∧ h232 2 2 ≤ 64) ∧ (0 ≤ v3 ∧ v3 ≤ 4032) ∧ (0 ≤ H 48 v5 ∧ H 48 v5 < 64) ∧ (0 ≤ J233) ∧ (-1 ≤ h232 47 (v3 + (H 48 v5)) ∧ h232 47 (v3 + (H 48 v5)) ≤ 1000) ∧ (∀ (J235 : Int) (h234 : XH), (rcF h232 v3 (H 48 v5) ((H 48 v5) + (h232 2 0)) J233 J235 h234) → (xI (v5 + 1)) ∧ xq X d 90 Q 72 [(0, (2, 46)), (1, (2, 2)), (3, (0, v3)), (4, (0, J235)), (5, (0, v5 + 1))] [] h234))))))) ∧ (¬ (1 ≤ H 2 0) → (xI ((H 2 0) - 1)) ∧ (((H 2 0) - 1 ≤ 0) → (xI ((H 48 v5) - (H 2 0))) ∧ (0 ≤ H 2 2 ∧ H 2 2 ≤ 64) ∧ (0 ≤ v3 ∧ v3 ≤ 4032) ∧ (0 ≤ H 48 v5 ∧ H 48 v5 < 64) ∧ (0 ≤ v4) ∧ (-1 ≤ H 47 (v3 + (H 48 v5)) ∧ H 47 (v3 + (H 48 v5)) ≤ 1000) ∧ (∀ (J237 : Int) (h236 : XH), (rcF H v3 (H 48 v5) ((H 48 v5) - (H 2 0)) v4 J237 h236) → (xI ((H 48 v5) + (h236 2 0))) ∧ (0 ≤ h236 2 2 ∧ h236 2 2 ≤ 64) ∧ (0 ≤ v3 ∧ v3 ≤ 4032) ∧ (0 ≤ H 48 v5 ∧ H 48 v5 < 64) ∧ (0 ≤ J237) ∧ (-1 ≤ h236 47 (v3 + (H 48 v5)) ∧ h236 47 (v3 + (H 48 v5)) ≤ 1000) ∧ (∀ (J239 : Int) (h238 : XH), (rcF h236 v3 (H 48 v5) ((H 48 v5) + (h236 2 0)) J237 J239 h238) → (xI (v5 + 1)) ∧ xq X d 90 Q 72 [(0, (2, 46)), (1, (2, 2)), (3, (0, v3)), (4, (0, J239)), (5, (0, v5 + 1))] [] h238))) ∧ (¬ ((H 2 0) - 1 ≤ 0) → (xI ((H 48 v5) + 1)) ∧ (0 ≤ H 2 2 ∧ H 2 2 ≤ 64) ∧ (0 ≤ v3 ∧ v3 ≤ 4032) ∧ (0 ≤ H 48 v5 ∧ H 48 v5 < 64) ∧ (0 ≤ v4) ∧ (-1 ≤ H 47 (v3 + (H 48 v5)) ∧ H 47 (v3 + (H 48 v5)) ≤ 1000) ∧ (∀ (J241 : Int) (h240 : XH), (rcF H v3 (H 48 v5) ((H 48 v5) + 1) v4 J241 h240) → (xI ((H 48 v5) - (h240 2 0))) ∧ (0 ≤ h240 2 2 ∧ h240 2 2 ≤ 64) ∧ (0 ≤ v3 ∧ v3 ≤ 4032) ∧ (0 ≤ H 48 v5 ∧ H 48 v5 < 64) ∧ (0 ≤ J241) ∧ (-1 ≤ h240 47 (v3 + (H 48 v5)) ∧ h240 47 (v3 + (H 48 v5)) ≤ 1000) ∧ (∀ (J243 : Int) (h242 : XH), (rcF h240 v3 (H 48 v5) ((H 48 v5) - (h240 2 0)) J241 J243 h242) → (xI ((H 48 v5) + (h242 2 0))) ∧ (0 ≤ h242 2 2 ∧ h242 2 2 ≤ 64) ∧ (0 ≤ v3 ∧ v3 ≤ 4032) ∧ (0 ≤ H 48 v5 ∧ H 48 v5 < 64) ∧ (0 ≤ J243) ∧ (-1 ≤ h242 47 (v3 + (H 48 v5)) ∧ h242 47 (v3 + (H 48 v5)) ≤ 1000) ∧ (∀ (J245 : Int) (h244 : XH), (rcF h242 v3 (H 48 v5) ((H 48 v5) + (h242 2 0)) J243 J245 h244) → (xI (v5 + 1)) ∧ xq X d 90 Q 72 [(0, (2, 46)), (1, (2, 2)), (3, (0, v3)), (4, (0, J245)), (5, (0, v5 + 1))] [] h244)))))))) : xq X d 90 Q 72 [(0, (2, 46)), (1, (2, 2)), (3, (0, v3)), (4, (0, v4)), (5, (0, v5))] [] H := by
  show xq X d 90 Q 72 [(0, (2, 46)), (1, (2, 2)), (3, (0, v3)), (4, (0, v4)), (5, (0, v5))] [] H
  refine xq_run [5, 17, 72, 135, 162, 181, 200] 300 ?_
  show ((v4 ≤ v5) → xfR 2 0 ∧ xKZ = xKZ ∧ Q 0 H) ∧ (¬ (v4 ≤ v5) → ((64 ≤ v5) → xfR 2 0 ∧ xKZ = xKZ ∧ Q 0 H) ∧ (¬ (64 ≤ v5) → ((0 : Int) ≤ v5 ∧ (v5 : Int) < 64) ∧ ((1 ≤ H 2 0) → (¬ H 2 0 = 0 ∧ xI (Int.tdiv (H 48 v5) (H 2 0))) ∧ ((Int.tmod (H 48 v5) (H 2 0) ≤ 0) → (xI ((H 2 0) - 1)) ∧ (((H 2 0) - 1 ≤ Int.tmod (H 48 v5) (H 2 0)) → (xI ((H 48 v5) - (H 2 0))) ∧ xWM (xE X) xMC d 89 [(2, 46), (2, 2), (0, v3), (0, H 48 v5), (0, (H 48 v5) - (H 2 0)), (0, v4)] xKZ H _) ∧ (¬ ((H 2 0) - 1 ≤ Int.tmod (H 48 v5) (H 2 0)) → (xI ((H 48 v5) + 1)) ∧ xWM (xE X) xMC d 89 [(2, 46), (2, 2), (0, v3), (0, H 48 v5), (0, (H 48 v5) + 1), (0, v4)] xKZ H _)) ∧ (¬ (Int.tmod (H 48 v5) (H 2 0) ≤ 0) → (xI ((H 48 v5) - 1)) ∧ xWM (xE X) xMC d 89 [(2, 46), (2, 2), (0, v3), (0, H 48 v5), (0, (H 48 v5) - 1), (0, v4)] xKZ H _)) ∧ (¬ (1 ≤ H 2 0) → ((0 ≤ 0) → (xI ((H 2 0) - 1)) ∧ (((H 2 0) - 1 ≤ 0) → (xI ((H 48 v5) - (H 2 0))) ∧ xWM (xE X) xMC d 89 [(2, 46), (2, 2), (0, v3), (0, H 48 v5), (0, (H 48 v5) - (H 2 0)), (0, v4)] xKZ H _) ∧ (¬ ((H 2 0) - 1 ≤ 0) → (xI ((H 48 v5) + 1)) ∧ xWM (xE X) xMC d 89 [(2, 46), (2, 2), (0, v3), (0, H 48 v5), (0, (H 48 v5) + 1), (0, v4)] xKZ H _)) ∧ (¬ (0 ≤ 0) → _))))
  refine ⟨fun k_ => ?_, fun k_ => ?_⟩
  · replace h := h.1 k_
    exact ⟨trivial, rfl, h⟩
  · replace h := h.2 k_
    refine ⟨fun k_ => ?_, fun k_ => ?_⟩
    · replace h := h.1 k_
      exact ⟨trivial, rfl, h⟩
    · replace h := h.2 k_
      refine ⟨h.1, ?_⟩
      replace h := h.2
      refine ⟨fun k_ => ?_, fun k_ => ?_⟩
      · replace h := h.1 k_
        refine ⟨h.1, ?_⟩
        replace h := h.2
        refine ⟨fun k_ => ?_, fun k_ => ?_⟩
        · replace h := h.1 k_
          refine ⟨h.1, ?_⟩
          replace h := h.2
          refine ⟨fun k_ => ?_, fun k_ => ?_⟩
          · replace h := h.1 k_
            refine ⟨h.1, ?_⟩
            replace h := h.2
            refine xc_in (s_89 (by omega) v3 (H 48 v5) ((H 48 v5) - (H 2 0)) v4 H (h.1) (h.2.1) (h.2.2.1) (h.2.2.2.1) (h.2.2.2.2.1) ?_)
            intro J215 h214 q_0
            replace h := h.2.2.2.2.2 J215 h214 q_0
            show xq X d 90 Q 181 [(7, (0, Int.tmod (H 48 v5) (H 2 0))), (6, (0, H 48 v5)), (0, (2, 46)), (1, (2, 2)), (3, (0, v3)), (4, (0, v4)), (5, (0, v5))] [(0, J215)] h214
            refine xq_run [5, 17, 72, 135, 162, 181, 200] 300 ?_
            show (xI ((H 48 v5) + (h214 2 0))) ∧ xWM (xE X) xMC d 89 [(2, 46), (2, 2), (0, v3), (0, H 48 v5), (0, (H 48 v5) + (h214 2 0)), (0, J215)] xKZ h214 _
            refine ⟨h.1, ?_⟩
            replace h := h.2
            refine xc_in (s_89 (by omega) v3 (H 48 v5) ((H 48 v5) + (h214 2 0)) J215 h214 (h.1) (h.2.1) (h.2.2.1) (h.2.2.2.1) (h.2.2.2.2.1) ?_)
            intro J217 h216 q_0
            replace h := h.2.2.2.2.2 J217 h216 q_0
            show xq X d 90 Q 200 [(4, (0, J215)), (7, (0, Int.tmod (H 48 v5) (H 2 0))), (6, (0, H 48 v5)), (0, (2, 46)), (1, (2, 2)), (3, (0, v3)), (5, (0, v5))] [(0, J217)] h216
            refine xq_run [5, 17, 72, 135, 162, 181, 200] 300 ?_
            show (xI (v5 + 1)) ∧ xq X d 90 Q 72 [(0, (2, 46)), (1, (2, 2)), (3, (0, v3)), (4, (0, J217)), (5, (0, v5 + 1))] [] h216
            refine ⟨h.1, ?_⟩
            replace h := h.2
            exact h
          · replace h := h.2 k_
            refine ⟨h.1, ?_⟩
            replace h := h.2
            refine xc_in (s_89 (by omega) v3 (H 48 v5) ((H 48 v5) + 1) v4 H (h.1) (h.2.1) (h.2.2.1) (h.2.2.2.1) (h.2.2.2.2.1) ?_)
            intro J219 h218 q_0
            replace h := h.2.2.2.2.2 J219 h218 q_0
            show xq X d 90 Q 162 [(7, (0, Int.tmod (H 48 v5) (H 2 0))), (6, (0, H 48 v5)), (0, (2, 46)), (1, (2, 2)), (3, (0, v3)), (4, (0, v4)), (5, (0, v5))] [(0, J219)] h218
            refine xq_run [5, 17, 72, 135, 162, 181, 200] 300 ?_
            show (xI ((H 48 v5) - (h218 2 0))) ∧ xWM (xE X) xMC d 89 [(2, 46), (2, 2), (0, v3), (0, H 48 v5), (0, (H 48 v5) - (h218 2 0)), (0, J219)] xKZ h218 _
            refine ⟨h.1, ?_⟩
            replace h := h.2
            refine xc_in (s_89 (by omega) v3 (H 48 v5) ((H 48 v5) - (h218 2 0)) J219 h218 (h.1) (h.2.1) (h.2.2.1) (h.2.2.2.1) (h.2.2.2.2.1) ?_)
            intro J221 h220 q_0
            replace h := h.2.2.2.2.2 J221 h220 q_0
            show xq X d 90 Q 181 [(4, (0, J219)), (7, (0, Int.tmod (H 48 v5) (H 2 0))), (6, (0, H 48 v5)), (0, (2, 46)), (1, (2, 2)), (3, (0, v3)), (5, (0, v5))] [(0, J221)] h220
            refine xq_run [5, 17, 72, 135, 162, 181, 200] 300 ?_
            show (xI ((H 48 v5) + (h220 2 0))) ∧ xWM (xE X) xMC d 89 [(2, 46), (2, 2), (0, v3), (0, H 48 v5), (0, (H 48 v5) + (h220 2 0)), (0, J221)] xKZ h220 _
            refine ⟨h.1, ?_⟩
            replace h := h.2
            refine xc_in (s_89 (by omega) v3 (H 48 v5) ((H 48 v5) + (h220 2 0)) J221 h220 (h.1) (h.2.1) (h.2.2.1) (h.2.2.2.1) (h.2.2.2.2.1) ?_)
            intro J223 h222 q_0
            replace h := h.2.2.2.2.2 J223 h222 q_0
            show xq X d 90 Q 200 [(4, (0, J221)), (7, (0, Int.tmod (H 48 v5) (H 2 0))), (6, (0, H 48 v5)), (0, (2, 46)), (1, (2, 2)), (3, (0, v3)), (5, (0, v5))] [(0, J223)] h222
            refine xq_run [5, 17, 72, 135, 162, 181, 200] 300 ?_
            show (xI (v5 + 1)) ∧ xq X d 90 Q 72 [(0, (2, 46)), (1, (2, 2)), (3, (0, v3)), (4, (0, J223)), (5, (0, v5 + 1))] [] h222
            refine ⟨h.1, ?_⟩
            replace h := h.2
            exact h
        · replace h := h.2 k_
          refine ⟨h.1, ?_⟩
          replace h := h.2
          refine xc_in (s_89 (by omega) v3 (H 48 v5) ((H 48 v5) - 1) v4 H (h.1) (h.2.1) (h.2.2.1) (h.2.2.2.1) (h.2.2.2.2.1) ?_)
          intro J225 h224 q_0
          replace h := h.2.2.2.2.2 J225 h224 q_0
          show xq X d 90 Q 135 [(7, (0, Int.tmod (H 48 v5) (H 2 0))), (6, (0, H 48 v5)), (0, (2, 46)), (1, (2, 2)), (3, (0, v3)), (4, (0, v4)), (5, (0, v5))] [(0, J225)] h224
          refine xq_run [5, 17, 72, 135, 162, 181, 200] 300 ?_
          show (xI ((h224 2 0) - 1)) ∧ (((h224 2 0) - 1 ≤ Int.tmod (H 48 v5) (H 2 0)) → (xI ((H 48 v5) - (h224 2 0))) ∧ xWM (xE X) xMC d 89 [(2, 46), (2, 2), (0, v3), (0, H 48 v5), (0, (H 48 v5) - (h224 2 0)), (0, J225)] xKZ h224 _) ∧ (¬ ((h224 2 0) - 1 ≤ Int.tmod (H 48 v5) (H 2 0)) → (xI ((H 48 v5) + 1)) ∧ xWM (xE X) xMC d 89 [(2, 46), (2, 2), (0, v3), (0, H 48 v5), (0, (H 48 v5) + 1), (0, J225)] xKZ h224 _)
          refine ⟨h.1, ?_⟩
          replace h := h.2
          refine ⟨fun k_ => ?_, fun k_ => ?_⟩
          · replace h := h.1 k_
            refine ⟨h.1, ?_⟩
            replace h := h.2
            refine xc_in (s_89 (by omega) v3 (H 48 v5) ((H 48 v5) - (h224 2 0)) J225 h224 (h.1) (h.2.1) (h.2.2.1) (h.2.2.2.1) (h.2.2.2.2.1) ?_)
            intro J227 h226 q_0
            replace h := h.2.2.2.2.2 J227 h226 q_0
            show xq X d 90 Q 181 [(4, (0, J225)), (7, (0, Int.tmod (H 48 v5) (H 2 0))), (6, (0, H 48 v5)), (0, (2, 46)), (1, (2, 2)), (3, (0, v3)), (5, (0, v5))] [(0, J227)] h226
            refine xq_run [5, 17, 72, 135, 162, 181, 200] 300 ?_
            show (xI ((H 48 v5) + (h226 2 0))) ∧ xWM (xE X) xMC d 89 [(2, 46), (2, 2), (0, v3), (0, H 48 v5), (0, (H 48 v5) + (h226 2 0)), (0, J227)] xKZ h226 _
            refine ⟨h.1, ?_⟩
            replace h := h.2
            refine xc_in (s_89 (by omega) v3 (H 48 v5) ((H 48 v5) + (h226 2 0)) J227 h226 (h.1) (h.2.1) (h.2.2.1) (h.2.2.2.1) (h.2.2.2.2.1) ?_)
            intro J229 h228 q_0
            replace h := h.2.2.2.2.2 J229 h228 q_0
            show xq X d 90 Q 200 [(4, (0, J227)), (7, (0, Int.tmod (H 48 v5) (H 2 0))), (6, (0, H 48 v5)), (0, (2, 46)), (1, (2, 2)), (3, (0, v3)), (5, (0, v5))] [(0, J229)] h228
            refine xq_run [5, 17, 72, 135, 162, 181, 200] 300 ?_
            show (xI (v5 + 1)) ∧ xq X d 90 Q 72 [(0, (2, 46)), (1, (2, 2)), (3, (0, v3)), (4, (0, J229)), (5, (0, v5 + 1))] [] h228
            refine ⟨h.1, ?_⟩
            replace h := h.2
            exact h
          · replace h := h.2 k_
            refine ⟨h.1, ?_⟩
            replace h := h.2
            refine xc_in (s_89 (by omega) v3 (H 48 v5) ((H 48 v5) + 1) J225 h224 (h.1) (h.2.1) (h.2.2.1) (h.2.2.2.1) (h.2.2.2.2.1) ?_)
            intro J231 h230 q_0
            replace h := h.2.2.2.2.2 J231 h230 q_0
            show xq X d 90 Q 162 [(4, (0, J225)), (7, (0, Int.tmod (H 48 v5) (H 2 0))), (6, (0, H 48 v5)), (0, (2, 46)), (1, (2, 2)), (3, (0, v3)), (5, (0, v5))] [(0, J231)] h230
            refine xq_run [5, 17, 72, 135, 162, 181, 200] 300 ?_
            show (xI ((H 48 v5) - (h230 2 0))) ∧ xWM (xE X) xMC d 89 [(2, 46), (2, 2), (0, v3), (0, H 48 v5), (0, (H 48 v5) - (h230 2 0)), (0, J231)] xKZ h230 _
            refine ⟨h.1, ?_⟩
            replace h := h.2
            refine xc_in (s_89 (by omega) v3 (H 48 v5) ((H 48 v5) - (h230 2 0)) J231 h230 (h.1) (h.2.1) (h.2.2.1) (h.2.2.2.1) (h.2.2.2.2.1) ?_)
            intro J233 h232 q_0
            replace h := h.2.2.2.2.2 J233 h232 q_0
            show xq X d 90 Q 181 [(4, (0, J231)), (7, (0, Int.tmod (H 48 v5) (H 2 0))), (6, (0, H 48 v5)), (0, (2, 46)), (1, (2, 2)), (3, (0, v3)), (5, (0, v5))] [(0, J233)] h232
            refine xq_run [5, 17, 72, 135, 162, 181, 200] 300 ?_
            show (xI ((H 48 v5) + (h232 2 0))) ∧ xWM (xE X) xMC d 89 [(2, 46), (2, 2), (0, v3), (0, H 48 v5), (0, (H 48 v5) + (h232 2 0)), (0, J233)] xKZ h232 _
            refine ⟨h.1, ?_⟩
            replace h := h.2
            refine xc_in (s_89 (by omega) v3 (H 48 v5) ((H 48 v5) + (h232 2 0)) J233 h232 (h.1) (h.2.1) (h.2.2.1) (h.2.2.2.1) (h.2.2.2.2.1) ?_)
            intro J235 h234 q_0
            replace h := h.2.2.2.2.2 J235 h234 q_0
            show xq X d 90 Q 200 [(4, (0, J233)), (7, (0, Int.tmod (H 48 v5) (H 2 0))), (6, (0, H 48 v5)), (0, (2, 46)), (1, (2, 2)), (3, (0, v3)), (5, (0, v5))] [(0, J235)] h234
            refine xq_run [5, 17, 72, 135, 162, 181, 200] 300 ?_
            show (xI (v5 + 1)) ∧ xq X d 90 Q 72 [(0, (2, 46)), (1, (2, 2)), (3, (0, v3)), (4, (0, J235)), (5, (0, v5 + 1))] [] h234
            refine ⟨h.1, ?_⟩
            replace h := h.2
            exact h
      · replace h := h.2 k_
        refine ⟨fun k_ => ?_, fun k_ => absurd (by decide) k_⟩
        refine ⟨h.1, ?_⟩
        replace h := h.2
        refine ⟨fun k_ => ?_, fun k_ => ?_⟩
        · replace h := h.1 k_
          refine ⟨h.1, ?_⟩
          replace h := h.2
          refine xc_in (s_89 (by omega) v3 (H 48 v5) ((H 48 v5) - (H 2 0)) v4 H (h.1) (h.2.1) (h.2.2.1) (h.2.2.2.1) (h.2.2.2.2.1) ?_)
          intro J237 h236 q_0
          replace h := h.2.2.2.2.2 J237 h236 q_0
          show xq X d 90 Q 181 [(7, (0, 0)), (6, (0, H 48 v5)), (0, (2, 46)), (1, (2, 2)), (3, (0, v3)), (4, (0, v4)), (5, (0, v5))] [(0, J237)] h236
          refine xq_run [5, 17, 72, 135, 162, 181, 200] 300 ?_
          show (xI ((H 48 v5) + (h236 2 0))) ∧ xWM (xE X) xMC d 89 [(2, 46), (2, 2), (0, v3), (0, H 48 v5), (0, (H 48 v5) + (h236 2 0)), (0, J237)] xKZ h236 _
          refine ⟨h.1, ?_⟩
          replace h := h.2
          refine xc_in (s_89 (by omega) v3 (H 48 v5) ((H 48 v5) + (h236 2 0)) J237 h236 (h.1) (h.2.1) (h.2.2.1) (h.2.2.2.1) (h.2.2.2.2.1) ?_)
          intro J239 h238 q_0
          replace h := h.2.2.2.2.2 J239 h238 q_0
          show xq X d 90 Q 200 [(4, (0, J237)), (7, (0, 0)), (6, (0, H 48 v5)), (0, (2, 46)), (1, (2, 2)), (3, (0, v3)), (5, (0, v5))] [(0, J239)] h238
          refine xq_run [5, 17, 72, 135, 162, 181, 200] 300 ?_
          show (xI (v5 + 1)) ∧ xq X d 90 Q 72 [(0, (2, 46)), (1, (2, 2)), (3, (0, v3)), (4, (0, J239)), (5, (0, v5 + 1))] [] h238
          refine ⟨h.1, ?_⟩
          replace h := h.2
          exact h
        · replace h := h.2 k_
          refine ⟨h.1, ?_⟩
          replace h := h.2
          refine xc_in (s_89 (by omega) v3 (H 48 v5) ((H 48 v5) + 1) v4 H (h.1) (h.2.1) (h.2.2.1) (h.2.2.2.1) (h.2.2.2.2.1) ?_)
          intro J241 h240 q_0
          replace h := h.2.2.2.2.2 J241 h240 q_0
          show xq X d 90 Q 162 [(7, (0, 0)), (6, (0, H 48 v5)), (0, (2, 46)), (1, (2, 2)), (3, (0, v3)), (4, (0, v4)), (5, (0, v5))] [(0, J241)] h240
          refine xq_run [5, 17, 72, 135, 162, 181, 200] 300 ?_
          show (xI ((H 48 v5) - (h240 2 0))) ∧ xWM (xE X) xMC d 89 [(2, 46), (2, 2), (0, v3), (0, H 48 v5), (0, (H 48 v5) - (h240 2 0)), (0, J241)] xKZ h240 _
          refine ⟨h.1, ?_⟩
          replace h := h.2
          refine xc_in (s_89 (by omega) v3 (H 48 v5) ((H 48 v5) - (h240 2 0)) J241 h240 (h.1) (h.2.1) (h.2.2.1) (h.2.2.2.1) (h.2.2.2.2.1) ?_)
          intro J243 h242 q_0
          replace h := h.2.2.2.2.2 J243 h242 q_0
          show xq X d 90 Q 181 [(4, (0, J241)), (7, (0, 0)), (6, (0, H 48 v5)), (0, (2, 46)), (1, (2, 2)), (3, (0, v3)), (5, (0, v5))] [(0, J243)] h242
          refine xq_run [5, 17, 72, 135, 162, 181, 200] 300 ?_
          show (xI ((H 48 v5) + (h242 2 0))) ∧ xWM (xE X) xMC d 89 [(2, 46), (2, 2), (0, v3), (0, H 48 v5), (0, (H 48 v5) + (h242 2 0)), (0, J243)] xKZ h242 _
          refine ⟨h.1, ?_⟩
          replace h := h.2
          refine xc_in (s_89 (by omega) v3 (H 48 v5) ((H 48 v5) + (h242 2 0)) J243 h242 (h.1) (h.2.1) (h.2.2.1) (h.2.2.2.1) (h.2.2.2.2.1) ?_)
          intro J245 h244 q_0
          replace h := h.2.2.2.2.2 J245 h244 q_0
          show xq X d 90 Q 200 [(4, (0, J243)), (7, (0, 0)), (6, (0, H 48 v5)), (0, (2, 46)), (1, (2, 2)), (3, (0, v3)), (5, (0, v5))] [(0, J245)] h244
          refine xq_run [5, 17, 72, 135, 162, 181, 200] 300 ?_
          show (xI (v5 + 1)) ∧ xq X d 90 Q 72 [(0, (2, 46)), (1, (2, 2)), (3, (0, v3)), (4, (0, J245)), (5, (0, v5 + 1))] [] h244
          refine ⟨h.1, ?_⟩
          replace h := h.2
          exact h

theorem s_90 {X : Int × (Int → Int)} {d : Nat} {Q : Int → XH → Prop} (hd : 4 ≤ d) (f : Int) (H : XH) (hi : InvS H) (pf : 0 ≤ f ∧ f < H 67 1) (hQ : ∀ h1 : XH, (∀ o, ¬ o = 47 → ¬ o = 48 → h1 o = H o) ∧ (∀ k, ¬ (f * 64 ≤ k ∧ k < f * 64 + 64) → h1 47 k = H 47 k) ∧ DS (H 67 0) (H 67 1) (fun e => H 68 (20 + e)) f (fun c => h1 47 (f * 64 + c)) → Q 0 h1) : xc X d 90 [(2, 46), (2, 2), (0, f)] H Q := by
  cases d with
  | zero => omega
  | succ d =>
  have hg := hi.1
  have hs := hi.2
  have nn := hg.nn
  have ww := hg.ww
  have l0 := hs.l0
  have l2 := hs.l2
  have key : ∀ (m : Nat) (v5 wt : Int) (h : XH), (64 : Int) - v5 ≤ m → 0 ≤ v5 → bH H h f v5 wt → xq X d 90 Q 72 [(0, (2, 46)), (1, (2, 2)), (3, (0, f * 64)), (4, (0, wt)), (5, (0, v5))] [] h := by
    intro m
    induction m with
    | zero =>
      intro v5 wt h hm h5 hb
      have ct := hb.2.2.ct
      have hc := cnA_rng (n := H 67 1) (by omega) (fun c => h 47 (f * 64 + c))
      refine U_90_72 (by omega) (f * 64) wt v5 h ?_
      refine ⟨fun c1 => ?_, fun c1 => ?_⟩
      · skip
        exact hQ h ⟨hb.1, hb.2.1, BI_end (by omega) hb.2.2 (by omega)⟩
      · skip
        refine ⟨fun c2 => ?_, fun c2 => ?_⟩
        · skip
          exfalso
          omega
        · skip
          refine ⟨?_, ?_⟩
          · first | omega | (exfalso; omega)
          refine ⟨fun c3 => ?_, fun c3 => ?_⟩
          · skip
            refine ⟨?_, ?_⟩
            · first | omega | (exfalso; omega)
            refine ⟨fun c4 => ?_, fun c4 => ?_⟩
            · skip
              refine ⟨?_, ?_⟩
              · first | omega | (exfalso; omega)
              refine ⟨fun c5 => ?_, fun c5 => ?_⟩
              · skip
                refine ⟨?_, ?_⟩
                · first | omega | (exfalso; omega)
                refine ⟨?_, ?_⟩
                · first | omega | (exfalso; omega)
                refine ⟨?_, ?_⟩
                · first | omega | (exfalso; omega)
                refine ⟨?_, ?_⟩
                · first | omega | (exfalso; omega)
                refine ⟨?_, ?_⟩
                · first | omega | (exfalso; omega)
                refine ⟨?_, ?_⟩
                · first | omega | (exfalso; omega)
                intro J247 h246 c6
                refine ⟨?_, ?_⟩
                · first | omega | (exfalso; omega)
                refine ⟨?_, ?_⟩
                · first | omega | (exfalso; omega)
                refine ⟨?_, ?_⟩
                · first | omega | (exfalso; omega)
                refine ⟨?_, ?_⟩
                · first | omega | (exfalso; omega)
                refine ⟨?_, ?_⟩
                · first | omega | (exfalso; omega)
                refine ⟨?_, ?_⟩
                · first | omega | (exfalso; omega)
                intro J249 h248 c7
                refine ⟨?_, ?_⟩
                · first | omega | (exfalso; omega)
                exfalso
                omega
              · skip
                refine ⟨?_, ?_⟩
                · first | omega | (exfalso; omega)
                refine ⟨?_, ?_⟩
                · first | omega | (exfalso; omega)
                refine ⟨?_, ?_⟩
                · first | omega | (exfalso; omega)
                refine ⟨?_, ?_⟩
                · first | omega | (exfalso; omega)
                refine ⟨?_, ?_⟩
                · first | omega | (exfalso; omega)
                refine ⟨?_, ?_⟩
                · first | omega | (exfalso; omega)
                intro J251 h250 c8
                refine ⟨?_, ?_⟩
                · first | omega | (exfalso; omega)
                refine ⟨?_, ?_⟩
                · first | omega | (exfalso; omega)
                refine ⟨?_, ?_⟩
                · first | omega | (exfalso; omega)
                refine ⟨?_, ?_⟩
                · first | omega | (exfalso; omega)
                refine ⟨?_, ?_⟩
                · first | omega | (exfalso; omega)
                refine ⟨?_, ?_⟩
                · first | omega | (exfalso; omega)
                intro J253 h252 c9
                refine ⟨?_, ?_⟩
                · first | omega | (exfalso; omega)
                refine ⟨?_, ?_⟩
                · first | omega | (exfalso; omega)
                refine ⟨?_, ?_⟩
                · first | omega | (exfalso; omega)
                refine ⟨?_, ?_⟩
                · first | omega | (exfalso; omega)
                refine ⟨?_, ?_⟩
                · first | omega | (exfalso; omega)
                refine ⟨?_, ?_⟩
                · first | omega | (exfalso; omega)
                intro J255 h254 c10
                refine ⟨?_, ?_⟩
                · first | omega | (exfalso; omega)
                exfalso
                omega
            · skip
              refine ⟨?_, ?_⟩
              · first | omega | (exfalso; omega)
              refine ⟨?_, ?_⟩
              · first | omega | (exfalso; omega)
              refine ⟨?_, ?_⟩
              · first | omega | (exfalso; omega)
              refine ⟨?_, ?_⟩
              · first | omega | (exfalso; omega)
              refine ⟨?_, ?_⟩
              · first | omega | (exfalso; omega)
              refine ⟨?_, ?_⟩
              · first | omega | (exfalso; omega)
              intro J257 h256 c11
              refine ⟨?_, ?_⟩
              · first | omega | (exfalso; omega)
              refine ⟨fun c12 => ?_, fun c12 => ?_⟩
              · skip
                refine ⟨?_, ?_⟩
                · first | omega | (exfalso; omega)
                refine ⟨?_, ?_⟩
                · first | omega | (exfalso; omega)
                refine ⟨?_, ?_⟩
                · first | omega | (exfalso; omega)
                refine ⟨?_, ?_⟩
                · first | omega | (exfalso; omega)
                refine ⟨?_, ?_⟩
                · first | omega | (exfalso; omega)
                refine ⟨?_, ?_⟩
                · first | omega | (exfalso; omega)
                intro J259 h258 c13
                refine ⟨?_, ?_⟩
                · first | omega | (exfalso; omega)
                refine ⟨?_, ?_⟩
                · first | omega | (exfalso; omega)
                refine ⟨?_, ?_⟩
                · first | omega | (exfalso; omega)
                refine ⟨?_, ?_⟩
                · first | omega | (exfalso; omega)
                refine ⟨?_, ?_⟩
                · first | omega | (exfalso; omega)
                refine ⟨?_, ?_⟩
                · first | omega | (exfalso; omega)
                intro J261 h260 c14
                refine ⟨?_, ?_⟩
                · first | omega | (exfalso; omega)
                exfalso
                omega
              · skip
                refine ⟨?_, ?_⟩
                · first | omega | (exfalso; omega)
                refine ⟨?_, ?_⟩
                · first | omega | (exfalso; omega)
                refine ⟨?_, ?_⟩
                · first | omega | (exfalso; omega)
                refine ⟨?_, ?_⟩
                · first | omega | (exfalso; omega)
                refine ⟨?_, ?_⟩
                · first | omega | (exfalso; omega)
                refine ⟨?_, ?_⟩
                · first | omega | (exfalso; omega)
                intro J263 h262 c15
                refine ⟨?_, ?_⟩
                · first | omega | (exfalso; omega)
                refine ⟨?_, ?_⟩
                · first | omega | (exfalso; omega)
                refine ⟨?_, ?_⟩
                · first | omega | (exfalso; omega)
                refine ⟨?_, ?_⟩
                · first | omega | (exfalso; omega)
                refine ⟨?_, ?_⟩
                · first | omega | (exfalso; omega)
                refine ⟨?_, ?_⟩
                · first | omega | (exfalso; omega)
                intro J265 h264 c16
                refine ⟨?_, ?_⟩
                · first | omega | (exfalso; omega)
                refine ⟨?_, ?_⟩
                · first | omega | (exfalso; omega)
                refine ⟨?_, ?_⟩
                · first | omega | (exfalso; omega)
                refine ⟨?_, ?_⟩
                · first | omega | (exfalso; omega)
                refine ⟨?_, ?_⟩
                · first | omega | (exfalso; omega)
                refine ⟨?_, ?_⟩
                · first | omega | (exfalso; omega)
                intro J267 h266 c17
                refine ⟨?_, ?_⟩
                · first | omega | (exfalso; omega)
                exfalso
                omega
          · skip
            refine ⟨?_, ?_⟩
            · first | omega | (exfalso; omega)
            refine ⟨fun c18 => ?_, fun c18 => ?_⟩
            · skip
              refine ⟨?_, ?_⟩
              · first | omega | (exfalso; omega)
              refine ⟨?_, ?_⟩
              · first | omega | (exfalso; omega)
              refine ⟨?_, ?_⟩
              · first | omega | (exfalso; omega)
              refine ⟨?_, ?_⟩
              · first | omega | (exfalso; omega)
              refine ⟨?_, ?_⟩
              · first | omega | (exfalso; omega)
              refine ⟨?_, ?_⟩
              · first | omega | (exfalso; omega)
              intro J269 h268 c19
              refine ⟨?_, ?_⟩
              · first | omega | (exfalso; omega)
              refine ⟨?_, ?_⟩
              · first | omega | (exfalso; omega)
              refine ⟨?_, ?_⟩
              · first | omega | (exfalso; omega)
              refine ⟨?_, ?_⟩
              · first | omega | (exfalso; omega)
              refine ⟨?_, ?_⟩
              · first | omega | (exfalso; omega)
              refine ⟨?_, ?_⟩
              · first | omega | (exfalso; omega)
              intro J271 h270 c20
              refine ⟨?_, ?_⟩
              · first | omega | (exfalso; omega)
              exfalso
              omega
            · skip
              refine ⟨?_, ?_⟩
              · first | omega | (exfalso; omega)
              refine ⟨?_, ?_⟩
              · first | omega | (exfalso; omega)
              refine ⟨?_, ?_⟩
              · first | omega | (exfalso; omega)
              refine ⟨?_, ?_⟩
              · first | omega | (exfalso; omega)
              refine ⟨?_, ?_⟩
              · first | omega | (exfalso; omega)
              refine ⟨?_, ?_⟩
              · first | omega | (exfalso; omega)
              intro J273 h272 c21
              refine ⟨?_, ?_⟩
              · first | omega | (exfalso; omega)
              refine ⟨?_, ?_⟩
              · first | omega | (exfalso; omega)
              refine ⟨?_, ?_⟩
              · first | omega | (exfalso; omega)
              refine ⟨?_, ?_⟩
              · first | omega | (exfalso; omega)
              refine ⟨?_, ?_⟩
              · first | omega | (exfalso; omega)
              refine ⟨?_, ?_⟩
              · first | omega | (exfalso; omega)
              intro J275 h274 c22
              refine ⟨?_, ?_⟩
              · first | omega | (exfalso; omega)
              refine ⟨?_, ?_⟩
              · first | omega | (exfalso; omega)
              refine ⟨?_, ?_⟩
              · first | omega | (exfalso; omega)
              refine ⟨?_, ?_⟩
              · first | omega | (exfalso; omega)
              refine ⟨?_, ?_⟩
              · first | omega | (exfalso; omega)
              refine ⟨?_, ?_⟩
              · first | omega | (exfalso; omega)
              intro J277 h276 c23
              refine ⟨?_, ?_⟩
              · first | omega | (exfalso; omega)
              exfalso
              omega
    | succ m ih =>
      intro v5 wt h hm h5 hb
      have ct := hb.2.2.ct
      have hc := cnA_rng (n := H 67 1) (by omega) (fun c => h 47 (f * 64 + c))
      have f2 := hb.1 2 (by decide) (by decide)
      have S : v5 < wt → RS H h f v5 wt (h 48 v5) (fun _ => False) := fun q => RS_0 hb q
      have cl : v5 < wt → (0 ≤ h 48 v5 ∧ h 48 v5 < H 67 1) ∧ ¬ h 47 (f * 64 + h 48 v5) = -1 ∧ h 47 (f * 64 + h 48 v5) ≤ v5 := fun q => hb.2.2.qr v5 h5 q
      have cr : v5 < wt → (h 47 (f * 64 + h 48 v5) = -1 ∨ 0 ≤ h 47 (f * 64 + h 48 v5)) := fun q => hb.2.2.rg (h 48 v5) (cl q).1.1 (cl q).1.2
      have dm : v5 < wt → (0 ≤ (h 48 v5).tmod (H 67 0) ∧ (h 48 v5).tmod (H 67 0) < H 67 0) ∧ xI ((h 48 v5).tdiv (H 67 0)) := fun q => by
        have z := xdm (c := h 48 v5) (w := H 67 0) (cl q).1.1 (by omega)
        have y := (cl q).1
        exact ⟨⟨z.1, z.2.1⟩, by unfold xI; omega⟩
      by_cases hv : wt ≤ v5
      · refine U_90_72 (by omega) (f * 64) wt v5 h ?_
        refine ⟨fun c1 => ?_, fun c1 => ?_⟩
        · skip
          exact hQ h ⟨hb.1, hb.2.1, BI_end (by omega) hb.2.2 (by omega)⟩
        · skip
          refine ⟨fun c2 => ?_, fun c2 => ?_⟩
          · skip
            exfalso
            omega
          · skip
            refine ⟨?_, ?_⟩
            · first | omega | (exfalso; omega)
            refine ⟨fun c3 => ?_, fun c3 => ?_⟩
            · skip
              refine ⟨?_, ?_⟩
              · first | omega | (exfalso; omega)
              refine ⟨fun c4 => ?_, fun c4 => ?_⟩
              · skip
                refine ⟨?_, ?_⟩
                · first | omega | (exfalso; omega)
                refine ⟨fun c5 => ?_, fun c5 => ?_⟩
                · skip
                  refine ⟨?_, ?_⟩
                  · first | omega | (exfalso; omega)
                  refine ⟨?_, ?_⟩
                  · first | omega | (exfalso; omega)
                  refine ⟨?_, ?_⟩
                  · first | omega | (exfalso; omega)
                  refine ⟨?_, ?_⟩
                  · first | omega | (exfalso; omega)
                  refine ⟨?_, ?_⟩
                  · first | omega | (exfalso; omega)
                  refine ⟨?_, ?_⟩
                  · first | omega | (exfalso; omega)
                  intro J279 h278 c6
                  refine ⟨?_, ?_⟩
                  · first | omega | (exfalso; omega)
                  refine ⟨?_, ?_⟩
                  · first | omega | (exfalso; omega)
                  refine ⟨?_, ?_⟩
                  · first | omega | (exfalso; omega)
                  refine ⟨?_, ?_⟩
                  · first | omega | (exfalso; omega)
                  refine ⟨?_, ?_⟩
                  · first | omega | (exfalso; omega)
                  refine ⟨?_, ?_⟩
                  · first | omega | (exfalso; omega)
                  intro J281 h280 c7
                  refine ⟨?_, ?_⟩
                  · first | omega | (exfalso; omega)
                  exfalso
                  omega
                · skip
                  refine ⟨?_, ?_⟩
                  · first | omega | (exfalso; omega)
                  refine ⟨?_, ?_⟩
                  · first | omega | (exfalso; omega)
                  refine ⟨?_, ?_⟩
                  · first | omega | (exfalso; omega)
                  refine ⟨?_, ?_⟩
                  · first | omega | (exfalso; omega)
                  refine ⟨?_, ?_⟩
                  · first | omega | (exfalso; omega)
                  refine ⟨?_, ?_⟩
                  · first | omega | (exfalso; omega)
                  intro J283 h282 c8
                  refine ⟨?_, ?_⟩
                  · first | omega | (exfalso; omega)
                  refine ⟨?_, ?_⟩
                  · first | omega | (exfalso; omega)
                  refine ⟨?_, ?_⟩
                  · first | omega | (exfalso; omega)
                  refine ⟨?_, ?_⟩
                  · first | omega | (exfalso; omega)
                  refine ⟨?_, ?_⟩
                  · first | omega | (exfalso; omega)
                  refine ⟨?_, ?_⟩
                  · first | omega | (exfalso; omega)
                  intro J285 h284 c9
                  refine ⟨?_, ?_⟩
                  · first | omega | (exfalso; omega)
                  refine ⟨?_, ?_⟩
                  · first | omega | (exfalso; omega)
                  refine ⟨?_, ?_⟩
                  · first | omega | (exfalso; omega)
                  refine ⟨?_, ?_⟩
                  · first | omega | (exfalso; omega)
                  refine ⟨?_, ?_⟩
                  · first | omega | (exfalso; omega)
                  refine ⟨?_, ?_⟩
                  · first | omega | (exfalso; omega)
                  intro J287 h286 c10
                  refine ⟨?_, ?_⟩
                  · first | omega | (exfalso; omega)
                  exfalso
                  omega
              · skip
                refine ⟨?_, ?_⟩
                · first | omega | (exfalso; omega)
                refine ⟨?_, ?_⟩
                · first | omega | (exfalso; omega)
                refine ⟨?_, ?_⟩
                · first | omega | (exfalso; omega)
                refine ⟨?_, ?_⟩
                · first | omega | (exfalso; omega)
                refine ⟨?_, ?_⟩
                · first | omega | (exfalso; omega)
                refine ⟨?_, ?_⟩
                · first | omega | (exfalso; omega)
                intro J289 h288 c11
                refine ⟨?_, ?_⟩
                · first | omega | (exfalso; omega)
                refine ⟨fun c12 => ?_, fun c12 => ?_⟩
                · skip
                  refine ⟨?_, ?_⟩
                  · first | omega | (exfalso; omega)
                  refine ⟨?_, ?_⟩
                  · first | omega | (exfalso; omega)
                  refine ⟨?_, ?_⟩
                  · first | omega | (exfalso; omega)
                  refine ⟨?_, ?_⟩
                  · first | omega | (exfalso; omega)
                  refine ⟨?_, ?_⟩
                  · first | omega | (exfalso; omega)
                  refine ⟨?_, ?_⟩
                  · first | omega | (exfalso; omega)
                  intro J291 h290 c13
                  refine ⟨?_, ?_⟩
                  · first | omega | (exfalso; omega)
                  refine ⟨?_, ?_⟩
                  · first | omega | (exfalso; omega)
                  refine ⟨?_, ?_⟩
                  · first | omega | (exfalso; omega)
                  refine ⟨?_, ?_⟩
                  · first | omega | (exfalso; omega)
                  refine ⟨?_, ?_⟩
                  · first | omega | (exfalso; omega)
                  refine ⟨?_, ?_⟩
                  · first | omega | (exfalso; omega)
                  intro J293 h292 c14
                  refine ⟨?_, ?_⟩
                  · first | omega | (exfalso; omega)
                  exfalso
                  omega
                · skip
                  refine ⟨?_, ?_⟩
                  · first | omega | (exfalso; omega)
                  refine ⟨?_, ?_⟩
                  · first | omega | (exfalso; omega)
                  refine ⟨?_, ?_⟩
                  · first | omega | (exfalso; omega)
                  refine ⟨?_, ?_⟩
                  · first | omega | (exfalso; omega)
                  refine ⟨?_, ?_⟩
                  · first | omega | (exfalso; omega)
                  refine ⟨?_, ?_⟩
                  · first | omega | (exfalso; omega)
                  intro J295 h294 c15
                  refine ⟨?_, ?_⟩
                  · first | omega | (exfalso; omega)
                  refine ⟨?_, ?_⟩
                  · first | omega | (exfalso; omega)
                  refine ⟨?_, ?_⟩
                  · first | omega | (exfalso; omega)
                  refine ⟨?_, ?_⟩
                  · first | omega | (exfalso; omega)
                  refine ⟨?_, ?_⟩
                  · first | omega | (exfalso; omega)
                  refine ⟨?_, ?_⟩
                  · first | omega | (exfalso; omega)
                  intro J297 h296 c16
                  refine ⟨?_, ?_⟩
                  · first | omega | (exfalso; omega)
                  refine ⟨?_, ?_⟩
                  · first | omega | (exfalso; omega)
                  refine ⟨?_, ?_⟩
                  · first | omega | (exfalso; omega)
                  refine ⟨?_, ?_⟩
                  · first | omega | (exfalso; omega)
                  refine ⟨?_, ?_⟩
                  · first | omega | (exfalso; omega)
                  refine ⟨?_, ?_⟩
                  · first | omega | (exfalso; omega)
                  intro J299 h298 c17
                  refine ⟨?_, ?_⟩
                  · first | omega | (exfalso; omega)
                  exfalso
                  omega
            · skip
              refine ⟨?_, ?_⟩
              · first | omega | (exfalso; omega)
              refine ⟨fun c18 => ?_, fun c18 => ?_⟩
              · skip
                refine ⟨?_, ?_⟩
                · first | omega | (exfalso; omega)
                refine ⟨?_, ?_⟩
                · first | omega | (exfalso; omega)
                refine ⟨?_, ?_⟩
                · first | omega | (exfalso; omega)
                refine ⟨?_, ?_⟩
                · first | omega | (exfalso; omega)
                refine ⟨?_, ?_⟩
                · first | omega | (exfalso; omega)
                refine ⟨?_, ?_⟩
                · first | omega | (exfalso; omega)
                intro J301 h300 c19
                refine ⟨?_, ?_⟩
                · first | omega | (exfalso; omega)
                refine ⟨?_, ?_⟩
                · first | omega | (exfalso; omega)
                refine ⟨?_, ?_⟩
                · first | omega | (exfalso; omega)
                refine ⟨?_, ?_⟩
                · first | omega | (exfalso; omega)
                refine ⟨?_, ?_⟩
                · first | omega | (exfalso; omega)
                refine ⟨?_, ?_⟩
                · first | omega | (exfalso; omega)
                intro J303 h302 c20
                refine ⟨?_, ?_⟩
                · first | omega | (exfalso; omega)
                exfalso
                omega
              · skip
                refine ⟨?_, ?_⟩
                · first | omega | (exfalso; omega)
                refine ⟨?_, ?_⟩
                · first | omega | (exfalso; omega)
                refine ⟨?_, ?_⟩
                · first | omega | (exfalso; omega)
                refine ⟨?_, ?_⟩
                · first | omega | (exfalso; omega)
                refine ⟨?_, ?_⟩
                · first | omega | (exfalso; omega)
                refine ⟨?_, ?_⟩
                · first | omega | (exfalso; omega)
                intro J305 h304 c21
                refine ⟨?_, ?_⟩
                · first | omega | (exfalso; omega)
                refine ⟨?_, ?_⟩
                · first | omega | (exfalso; omega)
                refine ⟨?_, ?_⟩
                · first | omega | (exfalso; omega)
                refine ⟨?_, ?_⟩
                · first | omega | (exfalso; omega)
                refine ⟨?_, ?_⟩
                · first | omega | (exfalso; omega)
                refine ⟨?_, ?_⟩
                · first | omega | (exfalso; omega)
                intro J307 h306 c22
                refine ⟨?_, ?_⟩
                · first | omega | (exfalso; omega)
                refine ⟨?_, ?_⟩
                · first | omega | (exfalso; omega)
                refine ⟨?_, ?_⟩
                · first | omega | (exfalso; omega)
                refine ⟨?_, ?_⟩
                · first | omega | (exfalso; omega)
                refine ⟨?_, ?_⟩
                · first | omega | (exfalso; omega)
                refine ⟨?_, ?_⟩
                · first | omega | (exfalso; omega)
                intro J309 h308 c23
                refine ⟨?_, ?_⟩
                · first | omega | (exfalso; omega)
                exfalso
                omega
      have S := S (by omega)
      have cl := cl (by omega)
      have cl0 := cl.1
      have cr := cr (by omega)
      have dm := dm (by omega)
      refine U_90_72 (by omega) (f * 64) wt v5 h ?_
      rw [f2, l0, l2]
      refine ⟨fun c1 => ?_, fun c1 => ?_⟩
      · skip
        exfalso
        omega
      · skip
        refine ⟨fun c2 => ?_, fun c2 => ?_⟩
        · skip
          exfalso
          omega
        · skip
          refine ⟨?_, ?_⟩
          · first | omega | (exact ⟨by omega, dm.2⟩) | (unfold xI; omega) | (exfalso; omega)
          refine ⟨fun c3 => ?_, fun c3 => ?_⟩
          · skip
            refine ⟨?_, ?_⟩
            · first | omega | (exact ⟨by omega, dm.2⟩) | (unfold xI; omega) | (exfalso; omega)
            refine ⟨fun c4 => ?_, fun c4 => ?_⟩
            · skip
              refine ⟨?_, ?_⟩
              · first | omega | (exact ⟨by omega, dm.2⟩) | (unfold xI; omega) | (exfalso; omega)
              refine ⟨fun c5 => ?_, fun c5 => ?_⟩
              · skip
                refine ⟨?_, ?_⟩
                · first | omega | (exact ⟨by omega, dm.2⟩) | (unfold xI; omega) | (exfalso; omega)
                refine ⟨?_, ?_⟩
                · first | omega | (exact ⟨by omega, dm.2⟩) | (unfold xI; omega) | (exfalso; omega)
                refine ⟨?_, ?_⟩
                · first | omega | (exact ⟨by omega, dm.2⟩) | (unfold xI; omega) | (exfalso; omega)
                refine ⟨?_, ?_⟩
                · first | omega | (exact ⟨by omega, dm.2⟩) | (unfold xI; omega) | (exfalso; omega)
                refine ⟨?_, ?_⟩
                · first | omega | (exact ⟨by omega, dm.2⟩) | (unfold xI; omega) | (exfalso; omega)
                refine ⟨?_, ?_⟩
                · first | omega | (exact ⟨by omega, dm.2⟩) | (unfold xI; omega) | (exfalso; omega)
                intro J311 h310 c6
                have S := RS_reach hi pf S c6 (fun x y => (adjW ww (by omega) (by omega)).mpr (by omega))
                have S2 := S.1.1 2 (by decide) (by decide)
                have S20 := congrFun S2 0
                have S22 := congrFun S2 2
                have Sdw := S.1.2.2.dw
                have Sqr := S.1.2.2.qr v5 (by omega) S.2.1
                have Srg := S.1.2.2.rg (h 48 v5) cl0.1 cl0.2
                rw [S.2.2.1] at Sqr
                refine ⟨?_, ?_⟩
                · first | omega | (exact ⟨by omega, dm.2⟩) | (unfold xI; omega) | (exfalso; omega)
                refine ⟨?_, ?_⟩
                · first | omega | (exact ⟨by omega, dm.2⟩) | (unfold xI; omega) | (exfalso; omega)
                refine ⟨?_, ?_⟩
                · first | omega | (exact ⟨by omega, dm.2⟩) | (unfold xI; omega) | (exfalso; omega)
                refine ⟨?_, ?_⟩
                · first | omega | (exact ⟨by omega, dm.2⟩) | (unfold xI; omega) | (exfalso; omega)
                refine ⟨?_, ?_⟩
                · first | omega | (exact ⟨by omega, dm.2⟩) | (unfold xI; omega) | (exfalso; omega)
                refine ⟨?_, ?_⟩
                · first | omega | (exact ⟨by omega, dm.2⟩) | (unfold xI; omega) | (exfalso; omega)
                intro J313 h312 c7
                have S := RS_reach hi pf S c7 (fun x y => (adjW ww (by omega) (by omega)).mpr (by omega))
                have S2 := S.1.1 2 (by decide) (by decide)
                have S20 := congrFun S2 0
                have S22 := congrFun S2 2
                have Sdw := S.1.2.2.dw
                have Sqr := S.1.2.2.qr v5 (by omega) S.2.1
                have Srg := S.1.2.2.rg (h 48 v5) cl0.1 cl0.2
                rw [S.2.2.1] at Sqr
                refine ⟨?_, ?_⟩
                · first | omega | (exact ⟨by omega, dm.2⟩) | (unfold xI; omega) | (exfalso; omega)
                exact ih (v5 + 1) _ _ (by omega) (by omega) (RS_end S (fun e x y a => by
                  have z := (adjW ww (by omega) (by omega)).mp a
                  omega))
              · skip
                refine ⟨?_, ?_⟩
                · first | omega | (exact ⟨by omega, dm.2⟩) | (unfold xI; omega) | (exfalso; omega)
                refine ⟨?_, ?_⟩
                · first | omega | (exact ⟨by omega, dm.2⟩) | (unfold xI; omega) | (exfalso; omega)
                refine ⟨?_, ?_⟩
                · first | omega | (exact ⟨by omega, dm.2⟩) | (unfold xI; omega) | (exfalso; omega)
                refine ⟨?_, ?_⟩
                · first | omega | (exact ⟨by omega, dm.2⟩) | (unfold xI; omega) | (exfalso; omega)
                refine ⟨?_, ?_⟩
                · first | omega | (exact ⟨by omega, dm.2⟩) | (unfold xI; omega) | (exfalso; omega)
                refine ⟨?_, ?_⟩
                · first | omega | (exact ⟨by omega, dm.2⟩) | (unfold xI; omega) | (exfalso; omega)
                intro J315 h314 c8
                have S := RS_reach hi pf S c8 (fun x y => (adjW ww (by omega) (by omega)).mpr (by omega))
                have S2 := S.1.1 2 (by decide) (by decide)
                have S20 := congrFun S2 0
                have S22 := congrFun S2 2
                have Sdw := S.1.2.2.dw
                have Sqr := S.1.2.2.qr v5 (by omega) S.2.1
                have Srg := S.1.2.2.rg (h 48 v5) cl0.1 cl0.2
                rw [S.2.2.1] at Sqr
                refine ⟨?_, ?_⟩
                · first | omega | (exact ⟨by omega, dm.2⟩) | (unfold xI; omega) | (exfalso; omega)
                refine ⟨?_, ?_⟩
                · first | omega | (exact ⟨by omega, dm.2⟩) | (unfold xI; omega) | (exfalso; omega)
                refine ⟨?_, ?_⟩
                · first | omega | (exact ⟨by omega, dm.2⟩) | (unfold xI; omega) | (exfalso; omega)
                refine ⟨?_, ?_⟩
                · first | omega | (exact ⟨by omega, dm.2⟩) | (unfold xI; omega) | (exfalso; omega)
                refine ⟨?_, ?_⟩
                · first | omega | (exact ⟨by omega, dm.2⟩) | (unfold xI; omega) | (exfalso; omega)
                refine ⟨?_, ?_⟩
                · first | omega | (exact ⟨by omega, dm.2⟩) | (unfold xI; omega) | (exfalso; omega)
                intro J317 h316 c9
                have S := RS_reach hi pf S c9 (fun x y => (adjW ww (by omega) (by omega)).mpr (by omega))
                have S2 := S.1.1 2 (by decide) (by decide)
                have S20 := congrFun S2 0
                have S22 := congrFun S2 2
                have Sdw := S.1.2.2.dw
                have Sqr := S.1.2.2.qr v5 (by omega) S.2.1
                have Srg := S.1.2.2.rg (h 48 v5) cl0.1 cl0.2
                rw [S.2.2.1] at Sqr
                refine ⟨?_, ?_⟩
                · first | omega | (exact ⟨by omega, dm.2⟩) | (unfold xI; omega) | (exfalso; omega)
                refine ⟨?_, ?_⟩
                · first | omega | (exact ⟨by omega, dm.2⟩) | (unfold xI; omega) | (exfalso; omega)
                refine ⟨?_, ?_⟩
                · first | omega | (exact ⟨by omega, dm.2⟩) | (unfold xI; omega) | (exfalso; omega)
                refine ⟨?_, ?_⟩
                · first | omega | (exact ⟨by omega, dm.2⟩) | (unfold xI; omega) | (exfalso; omega)
                refine ⟨?_, ?_⟩
                · first | omega | (exact ⟨by omega, dm.2⟩) | (unfold xI; omega) | (exfalso; omega)
                refine ⟨?_, ?_⟩
                · first | omega | (exact ⟨by omega, dm.2⟩) | (unfold xI; omega) | (exfalso; omega)
                intro J319 h318 c10
                have S := RS_reach hi pf S c10 (fun x y => (adjW ww (by omega) (by omega)).mpr (by omega))
                have S2 := S.1.1 2 (by decide) (by decide)
                have S20 := congrFun S2 0
                have S22 := congrFun S2 2
                have Sdw := S.1.2.2.dw
                have Sqr := S.1.2.2.qr v5 (by omega) S.2.1
                have Srg := S.1.2.2.rg (h 48 v5) cl0.1 cl0.2
                rw [S.2.2.1] at Sqr
                refine ⟨?_, ?_⟩
                · first | omega | (exact ⟨by omega, dm.2⟩) | (unfold xI; omega) | (exfalso; omega)
                exact ih (v5 + 1) _ _ (by omega) (by omega) (RS_end S (fun e x y a => by
                  have z := (adjW ww (by omega) (by omega)).mp a
                  omega))
            · skip
              refine ⟨?_, ?_⟩
              · first | omega | (exact ⟨by omega, dm.2⟩) | (unfold xI; omega) | (exfalso; omega)
              refine ⟨?_, ?_⟩
              · first | omega | (exact ⟨by omega, dm.2⟩) | (unfold xI; omega) | (exfalso; omega)
              refine ⟨?_, ?_⟩
              · first | omega | (exact ⟨by omega, dm.2⟩) | (unfold xI; omega) | (exfalso; omega)
              refine ⟨?_, ?_⟩
              · first | omega | (exact ⟨by omega, dm.2⟩) | (unfold xI; omega) | (exfalso; omega)
              refine ⟨?_, ?_⟩
              · first | omega | (exact ⟨by omega, dm.2⟩) | (unfold xI; omega) | (exfalso; omega)
              refine ⟨?_, ?_⟩
              · first | omega | (exact ⟨by omega, dm.2⟩) | (unfold xI; omega) | (exfalso; omega)
              intro J321 h320 c11
              have S := RS_reach hi pf S c11 (fun x y => (adjW ww (by omega) (by omega)).mpr (by omega))
              have S2 := S.1.1 2 (by decide) (by decide)
              have S20 := congrFun S2 0
              have S22 := congrFun S2 2
              have Sdw := S.1.2.2.dw
              have Sqr := S.1.2.2.qr v5 (by omega) S.2.1
              have Srg := S.1.2.2.rg (h 48 v5) cl0.1 cl0.2
              rw [S.2.2.1] at Sqr
              refine ⟨?_, ?_⟩
              · first | omega | (exact ⟨by omega, dm.2⟩) | (unfold xI; omega) | (exfalso; omega)
              refine ⟨fun c12 => ?_, fun c12 => ?_⟩
              · skip
                refine ⟨?_, ?_⟩
                · first | omega | (exact ⟨by omega, dm.2⟩) | (unfold xI; omega) | (exfalso; omega)
                refine ⟨?_, ?_⟩
                · first | omega | (exact ⟨by omega, dm.2⟩) | (unfold xI; omega) | (exfalso; omega)
                refine ⟨?_, ?_⟩
                · first | omega | (exact ⟨by omega, dm.2⟩) | (unfold xI; omega) | (exfalso; omega)
                refine ⟨?_, ?_⟩
                · first | omega | (exact ⟨by omega, dm.2⟩) | (unfold xI; omega) | (exfalso; omega)
                refine ⟨?_, ?_⟩
                · first | omega | (exact ⟨by omega, dm.2⟩) | (unfold xI; omega) | (exfalso; omega)
                refine ⟨?_, ?_⟩
                · first | omega | (exact ⟨by omega, dm.2⟩) | (unfold xI; omega) | (exfalso; omega)
                intro J323 h322 c13
                have S := RS_reach hi pf S c13 (fun x y => (adjW ww (by omega) (by omega)).mpr (by omega))
                have S2 := S.1.1 2 (by decide) (by decide)
                have S20 := congrFun S2 0
                have S22 := congrFun S2 2
                have Sdw := S.1.2.2.dw
                have Sqr := S.1.2.2.qr v5 (by omega) S.2.1
                have Srg := S.1.2.2.rg (h 48 v5) cl0.1 cl0.2
                rw [S.2.2.1] at Sqr
                refine ⟨?_, ?_⟩
                · first | omega | (exact ⟨by omega, dm.2⟩) | (unfold xI; omega) | (exfalso; omega)
                refine ⟨?_, ?_⟩
                · first | omega | (exact ⟨by omega, dm.2⟩) | (unfold xI; omega) | (exfalso; omega)
                refine ⟨?_, ?_⟩
                · first | omega | (exact ⟨by omega, dm.2⟩) | (unfold xI; omega) | (exfalso; omega)
                refine ⟨?_, ?_⟩
                · first | omega | (exact ⟨by omega, dm.2⟩) | (unfold xI; omega) | (exfalso; omega)
                refine ⟨?_, ?_⟩
                · first | omega | (exact ⟨by omega, dm.2⟩) | (unfold xI; omega) | (exfalso; omega)
                refine ⟨?_, ?_⟩
                · first | omega | (exact ⟨by omega, dm.2⟩) | (unfold xI; omega) | (exfalso; omega)
                intro J325 h324 c14
                have S := RS_reach hi pf S c14 (fun x y => (adjW ww (by omega) (by omega)).mpr (by omega))
                have S2 := S.1.1 2 (by decide) (by decide)
                have S20 := congrFun S2 0
                have S22 := congrFun S2 2
                have Sdw := S.1.2.2.dw
                have Sqr := S.1.2.2.qr v5 (by omega) S.2.1
                have Srg := S.1.2.2.rg (h 48 v5) cl0.1 cl0.2
                rw [S.2.2.1] at Sqr
                refine ⟨?_, ?_⟩
                · first | omega | (exact ⟨by omega, dm.2⟩) | (unfold xI; omega) | (exfalso; omega)
                exact ih (v5 + 1) _ _ (by omega) (by omega) (RS_end S (fun e x y a => by
                  have z := (adjW ww (by omega) (by omega)).mp a
                  omega))
              · skip
                refine ⟨?_, ?_⟩
                · first | omega | (exact ⟨by omega, dm.2⟩) | (unfold xI; omega) | (exfalso; omega)
                refine ⟨?_, ?_⟩
                · first | omega | (exact ⟨by omega, dm.2⟩) | (unfold xI; omega) | (exfalso; omega)
                refine ⟨?_, ?_⟩
                · first | omega | (exact ⟨by omega, dm.2⟩) | (unfold xI; omega) | (exfalso; omega)
                refine ⟨?_, ?_⟩
                · first | omega | (exact ⟨by omega, dm.2⟩) | (unfold xI; omega) | (exfalso; omega)
                refine ⟨?_, ?_⟩
                · first | omega | (exact ⟨by omega, dm.2⟩) | (unfold xI; omega) | (exfalso; omega)
                refine ⟨?_, ?_⟩
                · first | omega | (exact ⟨by omega, dm.2⟩) | (unfold xI; omega) | (exfalso; omega)
                intro J327 h326 c15
                have S := RS_reach hi pf S c15 (fun x y => (adjW ww (by omega) (by omega)).mpr (by omega))
                have S2 := S.1.1 2 (by decide) (by decide)
                have S20 := congrFun S2 0
                have S22 := congrFun S2 2
                have Sdw := S.1.2.2.dw
                have Sqr := S.1.2.2.qr v5 (by omega) S.2.1
                have Srg := S.1.2.2.rg (h 48 v5) cl0.1 cl0.2
                rw [S.2.2.1] at Sqr
                refine ⟨?_, ?_⟩
                · first | omega | (exact ⟨by omega, dm.2⟩) | (unfold xI; omega) | (exfalso; omega)
                refine ⟨?_, ?_⟩
                · first | omega | (exact ⟨by omega, dm.2⟩) | (unfold xI; omega) | (exfalso; omega)
                refine ⟨?_, ?_⟩
                · first | omega | (exact ⟨by omega, dm.2⟩) | (unfold xI; omega) | (exfalso; omega)
                refine ⟨?_, ?_⟩
                · first | omega | (exact ⟨by omega, dm.2⟩) | (unfold xI; omega) | (exfalso; omega)
                refine ⟨?_, ?_⟩
                · first | omega | (exact ⟨by omega, dm.2⟩) | (unfold xI; omega) | (exfalso; omega)
                refine ⟨?_, ?_⟩
                · first | omega | (exact ⟨by omega, dm.2⟩) | (unfold xI; omega) | (exfalso; omega)
                intro J329 h328 c16
                have S := RS_reach hi pf S c16 (fun x y => (adjW ww (by omega) (by omega)).mpr (by omega))
                have S2 := S.1.1 2 (by decide) (by decide)
                have S20 := congrFun S2 0
                have S22 := congrFun S2 2
                have Sdw := S.1.2.2.dw
                have Sqr := S.1.2.2.qr v5 (by omega) S.2.1
                have Srg := S.1.2.2.rg (h 48 v5) cl0.1 cl0.2
                rw [S.2.2.1] at Sqr
                refine ⟨?_, ?_⟩
                · first | omega | (exact ⟨by omega, dm.2⟩) | (unfold xI; omega) | (exfalso; omega)
                refine ⟨?_, ?_⟩
                · first | omega | (exact ⟨by omega, dm.2⟩) | (unfold xI; omega) | (exfalso; omega)
                refine ⟨?_, ?_⟩
                · first | omega | (exact ⟨by omega, dm.2⟩) | (unfold xI; omega) | (exfalso; omega)
                refine ⟨?_, ?_⟩
                · first | omega | (exact ⟨by omega, dm.2⟩) | (unfold xI; omega) | (exfalso; omega)
                refine ⟨?_, ?_⟩
                · first | omega | (exact ⟨by omega, dm.2⟩) | (unfold xI; omega) | (exfalso; omega)
                refine ⟨?_, ?_⟩
                · first | omega | (exact ⟨by omega, dm.2⟩) | (unfold xI; omega) | (exfalso; omega)
                intro J331 h330 c17
                have S := RS_reach hi pf S c17 (fun x y => (adjW ww (by omega) (by omega)).mpr (by omega))
                have S2 := S.1.1 2 (by decide) (by decide)
                have S20 := congrFun S2 0
                have S22 := congrFun S2 2
                have Sdw := S.1.2.2.dw
                have Sqr := S.1.2.2.qr v5 (by omega) S.2.1
                have Srg := S.1.2.2.rg (h 48 v5) cl0.1 cl0.2
                rw [S.2.2.1] at Sqr
                refine ⟨?_, ?_⟩
                · first | omega | (exact ⟨by omega, dm.2⟩) | (unfold xI; omega) | (exfalso; omega)
                exact ih (v5 + 1) _ _ (by omega) (by omega) (RS_end S (fun e x y a => by
                  have z := (adjW ww (by omega) (by omega)).mp a
                  omega))
          · skip
            refine ⟨?_, ?_⟩
            · first | omega | (exact ⟨by omega, dm.2⟩) | (unfold xI; omega) | (exfalso; omega)
            refine ⟨fun c18 => ?_, fun c18 => ?_⟩
            · skip
              refine ⟨?_, ?_⟩
              · first | omega | (exact ⟨by omega, dm.2⟩) | (unfold xI; omega) | (exfalso; omega)
              refine ⟨?_, ?_⟩
              · first | omega | (exact ⟨by omega, dm.2⟩) | (unfold xI; omega) | (exfalso; omega)
              refine ⟨?_, ?_⟩
              · first | omega | (exact ⟨by omega, dm.2⟩) | (unfold xI; omega) | (exfalso; omega)
              refine ⟨?_, ?_⟩
              · first | omega | (exact ⟨by omega, dm.2⟩) | (unfold xI; omega) | (exfalso; omega)
              refine ⟨?_, ?_⟩
              · first | omega | (exact ⟨by omega, dm.2⟩) | (unfold xI; omega) | (exfalso; omega)
              refine ⟨?_, ?_⟩
              · first | omega | (exact ⟨by omega, dm.2⟩) | (unfold xI; omega) | (exfalso; omega)
              intro J333 h332 c19
              have S := RS_reach hi pf S c19 (fun x y => (adjW ww (by omega) (by omega)).mpr (by omega))
              have S2 := S.1.1 2 (by decide) (by decide)
              have S20 := congrFun S2 0
              have S22 := congrFun S2 2
              have Sdw := S.1.2.2.dw
              have Sqr := S.1.2.2.qr v5 (by omega) S.2.1
              have Srg := S.1.2.2.rg (h 48 v5) cl0.1 cl0.2
              rw [S.2.2.1] at Sqr
              refine ⟨?_, ?_⟩
              · first | omega | (exact ⟨by omega, dm.2⟩) | (unfold xI; omega) | (exfalso; omega)
              refine ⟨?_, ?_⟩
              · first | omega | (exact ⟨by omega, dm.2⟩) | (unfold xI; omega) | (exfalso; omega)
              refine ⟨?_, ?_⟩
              · first | omega | (exact ⟨by omega, dm.2⟩) | (unfold xI; omega) | (exfalso; omega)
              refine ⟨?_, ?_⟩
              · first | omega | (exact ⟨by omega, dm.2⟩) | (unfold xI; omega) | (exfalso; omega)
              refine ⟨?_, ?_⟩
              · first | omega | (exact ⟨by omega, dm.2⟩) | (unfold xI; omega) | (exfalso; omega)
              refine ⟨?_, ?_⟩
              · first | omega | (exact ⟨by omega, dm.2⟩) | (unfold xI; omega) | (exfalso; omega)
              intro J335 h334 c20
              have S := RS_reach hi pf S c20 (fun x y => (adjW ww (by omega) (by omega)).mpr (by omega))
              have S2 := S.1.1 2 (by decide) (by decide)
              have S20 := congrFun S2 0
              have S22 := congrFun S2 2
              have Sdw := S.1.2.2.dw
              have Sqr := S.1.2.2.qr v5 (by omega) S.2.1
              have Srg := S.1.2.2.rg (h 48 v5) cl0.1 cl0.2
              rw [S.2.2.1] at Sqr
              refine ⟨?_, ?_⟩
              · first | omega | (exact ⟨by omega, dm.2⟩) | (unfold xI; omega) | (exfalso; omega)
              exfalso
              omega
            · skip
              refine ⟨?_, ?_⟩
              · first | omega | (exact ⟨by omega, dm.2⟩) | (unfold xI; omega) | (exfalso; omega)
              refine ⟨?_, ?_⟩
              · first | omega | (exact ⟨by omega, dm.2⟩) | (unfold xI; omega) | (exfalso; omega)
              refine ⟨?_, ?_⟩
              · first | omega | (exact ⟨by omega, dm.2⟩) | (unfold xI; omega) | (exfalso; omega)
              refine ⟨?_, ?_⟩
              · first | omega | (exact ⟨by omega, dm.2⟩) | (unfold xI; omega) | (exfalso; omega)
              refine ⟨?_, ?_⟩
              · first | omega | (exact ⟨by omega, dm.2⟩) | (unfold xI; omega) | (exfalso; omega)
              refine ⟨?_, ?_⟩
              · first | omega | (exact ⟨by omega, dm.2⟩) | (unfold xI; omega) | (exfalso; omega)
              intro J337 h336 c21
              have S := RS_reach hi pf S c21 (fun x y => (adjW ww (by omega) (by omega)).mpr (by omega))
              have S2 := S.1.1 2 (by decide) (by decide)
              have S20 := congrFun S2 0
              have S22 := congrFun S2 2
              have Sdw := S.1.2.2.dw
              have Sqr := S.1.2.2.qr v5 (by omega) S.2.1
              have Srg := S.1.2.2.rg (h 48 v5) cl0.1 cl0.2
              rw [S.2.2.1] at Sqr
              refine ⟨?_, ?_⟩
              · first | omega | (exact ⟨by omega, dm.2⟩) | (unfold xI; omega) | (exfalso; omega)
              refine ⟨?_, ?_⟩
              · first | omega | (exact ⟨by omega, dm.2⟩) | (unfold xI; omega) | (exfalso; omega)
              refine ⟨?_, ?_⟩
              · first | omega | (exact ⟨by omega, dm.2⟩) | (unfold xI; omega) | (exfalso; omega)
              refine ⟨?_, ?_⟩
              · first | omega | (exact ⟨by omega, dm.2⟩) | (unfold xI; omega) | (exfalso; omega)
              refine ⟨?_, ?_⟩
              · first | omega | (exact ⟨by omega, dm.2⟩) | (unfold xI; omega) | (exfalso; omega)
              refine ⟨?_, ?_⟩
              · first | omega | (exact ⟨by omega, dm.2⟩) | (unfold xI; omega) | (exfalso; omega)
              intro J339 h338 c22
              have S := RS_reach hi pf S c22 (fun x y => (adjW ww (by omega) (by omega)).mpr (by omega))
              have S2 := S.1.1 2 (by decide) (by decide)
              have S20 := congrFun S2 0
              have S22 := congrFun S2 2
              have Sdw := S.1.2.2.dw
              have Sqr := S.1.2.2.qr v5 (by omega) S.2.1
              have Srg := S.1.2.2.rg (h 48 v5) cl0.1 cl0.2
              rw [S.2.2.1] at Sqr
              refine ⟨?_, ?_⟩
              · first | omega | (exact ⟨by omega, dm.2⟩) | (unfold xI; omega) | (exfalso; omega)
              refine ⟨?_, ?_⟩
              · first | omega | (exact ⟨by omega, dm.2⟩) | (unfold xI; omega) | (exfalso; omega)
              refine ⟨?_, ?_⟩
              · first | omega | (exact ⟨by omega, dm.2⟩) | (unfold xI; omega) | (exfalso; omega)
              refine ⟨?_, ?_⟩
              · first | omega | (exact ⟨by omega, dm.2⟩) | (unfold xI; omega) | (exfalso; omega)
              refine ⟨?_, ?_⟩
              · first | omega | (exact ⟨by omega, dm.2⟩) | (unfold xI; omega) | (exfalso; omega)
              refine ⟨?_, ?_⟩
              · first | omega | (exact ⟨by omega, dm.2⟩) | (unfold xI; omega) | (exfalso; omega)
              intro J341 h340 c23
              have S := RS_reach hi pf S c23 (fun x y => (adjW ww (by omega) (by omega)).mpr (by omega))
              have S2 := S.1.1 2 (by decide) (by decide)
              have S20 := congrFun S2 0
              have S22 := congrFun S2 2
              have Sdw := S.1.2.2.dw
              have Sqr := S.1.2.2.qr v5 (by omega) S.2.1
              have Srg := S.1.2.2.rg (h 48 v5) cl0.1 cl0.2
              rw [S.2.2.1] at Sqr
              refine ⟨?_, ?_⟩
              · first | omega | (exact ⟨by omega, dm.2⟩) | (unfold xI; omega) | (exfalso; omega)
              exfalso
              omega
  have keyN : ∀ (m : Nat) (i : Int) (h : XH), i + m = 64 → 0 ≤ i → (∀ o, ¬ o = 47 → h o = H o) → (∀ k, ¬ (f * 64 ≤ k ∧ k < f * 64 + 64) → h 47 k = H 47 k) → (∀ c, 0 ≤ c → c < i → h 47 (f * 64 + c) = -1) → xq X d 90 Q 17 [(0, (2, 46)), (1, (2, 2)), (2, (0, f)), (3, (0, f * 64)), (4, (0, i))] [] h := by
    intro m
    induction m with
    | zero =>
      intro i h hm i0 k1 k2 k3
      have f6 := k1 6 (by decide)
      have b6 := hs.b f (by omega) (by omega)
      refine U_90_17 (by omega) f (f * 64) i h ?_
      rw [f6, b6]
      refine ⟨fun c1 => ?_, fun c1 => ?_⟩
      · skip
        refine ⟨?_, ?_⟩
        · first | omega | (unfold xI; omega) | (exfalso; omega)
        refine ⟨fun c2 => ?_, fun c2 => ?_⟩
        · skip
          refine ⟨?_, ?_⟩
          · first | omega | (unfold xI; omega) | (exfalso; omega)
          refine ⟨?_, ?_⟩
          · first | omega | (unfold xI; omega) | (exfalso; omega)
          refine key 64 0 1 _ (by decide) (by decide) ⟨fun o x y => by rw [xup_ne y, xup_ne x]; exact k1 o x, fun k x => by rw [xup_ne (by decide), xup_k (by omega)]; exact k2 k x, ?_⟩
          have d1 : xup (xup h 47 (f * 64 + f) 0) 48 0 f 47 (f * 64 + f) = 0 := by rw [xup_ne (by decide), xup_self]
          have d2 : ∀ e, ¬ e = f → xup (xup h 47 (f * 64 + f) 0) 48 0 f 47 (f * 64 + e) = h 47 (f * 64 + e) := fun e q => by rw [xup_ne (by decide), xup_k (by omega)]
          have q1 : xup (xup h 47 (f * 64 + f) 0) 48 0 f 48 0 = f := xup_self _ _ _ _
          have d3 : ∀ e, 0 ≤ e → e < H 67 1 → ¬ xup (xup h 47 (f * 64 + f) 0) 48 0 f 47 (f * 64 + e) = -1 → e = f := fun e x y z => by
            by_cases q : e = f
            · exact q
            · rw [d2 e q] at z
              exact absurd (k3 e x (by omega)) z
          have b0 : H 68 (20 + f) = 0 := by assumption
          refine ⟨fun c x y => ?_, fun c x y z => ?_, ⟨d1, b0⟩, fun c x y z => Or.inl ⟨d3 c x y z, by have e := d3 c x y z; dsimp only; rw [e]; exact d1⟩, fun j e x y => by omega, fun j x y => ?_, fun i j x y z => ?_, fun j x y z => ?_, fun c x y z => ⟨0, by omega, by rw [q1]; exact (d3 c x y z).symm⟩, ?_, by omega⟩
          · by_cases q : c = f
            · dsimp only
              rw [q, d1]
              exact Or.inr (Int.le_refl _)
            · dsimp only
              rw [d2 c q]
              exact Or.inl (k3 c x (by omega))
          · by_cases q : c = f
            · rw [q] at z
              exact absurd b0 z
            · dsimp only
              rw [d2 c q]
              exact k3 c x (by omega)
          · have e : j = 0 := by omega
            rw [e, q1]
            dsimp only
            rw [d1]
            exact ⟨pf, by decide, by decide⟩
          · have e : i = 0 := by omega
            have e2 : j = 0 := by omega
            rw [e, e2]
            exact Int.le_refl _
          · have e : j = 0 := by omega
            rw [e]
            omega
          · have z := cnA_up (n := H 67 1) (b := f) (x := 0) (D := fun c => h 47 (f * 64 + c)) (D' := fun c => xup (xup h 47 (f * 64 + f) 0) 48 0 f 47 (f * 64 + c)) pf (k3 f pf.1 (by omega)) d1 (by decide) d2
            rw [z]
            have y : cnA (H 67 1) (fun c => h 47 (f * 64 + c)) = 0 := by
              unfold cnA
              rw [sumTo_congr (f := fun _ => (0 : Int)) (fun e x y => by
                dsimp only
                rw [if_pos (k3 e x (by omega))])]
              have a := sumTo_rngM (f := fun _ => (0 : Int)) (n := H 67 1) (M := 0) (by omega) (fun _ _ _ => ⟨by decide, by decide⟩)
              omega
            omega
        · skip
          exact hQ h ⟨fun o x _ => k1 o x, k2, DS_bar (fun c x y => k3 c x (by omega)) pf (by assumption)⟩
      · skip
        refine ⟨?_, ?_⟩
        · first | omega | (unfold xI; omega) | (exfalso; omega)
        refine ⟨?_, ?_⟩
        · first | omega | (unfold xI; omega) | (exfalso; omega)
        refine ⟨?_, ?_⟩
        · first | omega | (unfold xI; omega) | (exfalso; omega)
        exfalso
        omega
    | succ m ih =>
      intro i h hm i0 k1 k2 k3
      refine U_90_17 (by omega) f (f * 64) i h ?_
      refine ⟨fun c1 => ?_, fun c1 => ?_⟩
      · skip
        refine ⟨?_, ?_⟩
        · first | omega | (unfold xI; omega) | (exfalso; omega)
        refine ⟨fun c2 => ?_, fun c2 => ?_⟩
        · skip
          refine ⟨?_, ?_⟩
          · first | omega | (unfold xI; omega) | (exfalso; omega)
          refine ⟨?_, ?_⟩
          · first | omega | (unfold xI; omega) | (exfalso; omega)
          exfalso
          omega
        · skip
          exfalso
          omega
      · skip
        refine ⟨?_, ?_⟩
        · first | omega | (unfold xI; omega) | (exfalso; omega)
        refine ⟨?_, ?_⟩
        · first | omega | (unfold xI; omega) | (exfalso; omega)
        refine ⟨?_, ?_⟩
        · first | omega | (unfold xI; omega) | (exfalso; omega)
        refine ih (i + 1) _ (by omega) (by omega) (fun o x => by rw [xup_ne x]; exact k1 o x) (fun k x => by rw [xup_k (by omega)]; exact k2 k x) (fun c x y => ?_)
        by_cases q : c = i
        · rw [q, xup_self]
        · rw [xup_k (by omega)]
          exact k3 c x (by omega)
  refine U_90 (by omega) f H ?_
  refine ⟨fun c1 => ?_, fun c1 => ?_⟩
  · skip
    refine ⟨?_, ?_⟩
    · first | omega | (unfold xI; omega)
    exact keyN 64 0 H (by decide) (by decide) (fun _ _ => rfl) (fun _ _ => rfl) (fun c x y => by omega)
  · skip
    exfalso
    omega

theorem U_91 {X : Int × (Int → Int)} {d : Nat} {Q : Int → XH → Prop} (hd : 1 ≤ d) (a b : Int) (H : XH) (h : ((((0 ≤ a ∧ a ≤ 63)) → ((((0 ≤ b ∧ b ≤ 63)) → (xI (a * 64)) ∧ (xI ((a * 64) + b)) ∧ ((0 : Int) ≤ (a * 64) + b ∧ ((a * 64) + b : Int) < 4096) ∧ Q (H 47 ((a * 64) + b)) H) ∧ (¬ ((0 ≤ b ∧ b ≤ 63)) → Q (-1) H))) ∧ (¬ ((0 ≤ a ∧ a ≤ 63)) → Q (-1) H))) : xc X (d + 1) 91 [(2, 46), (0, a), (0, b)] H Q := by
  refine ⟨rfl, ?_⟩
  show xq X d 91 Q 100000 [(0, (2, 46)), (1, (0, a)), (2, (0, b))] [] H
  refine xq_run [7, 17] 300 ?_
  show xWM (xE X) xMC d 19 [(0, a), (0, 0), (0, 63)] xKZ H _
  refine xc_in (s_19 (by omega) a 0 63 H  ?_)
  replace h := h
  show xq X d 91 Q 7 [(0, (2, 46)), (1, (0, a)), (2, (0, b))] [(0, xb (0 ≤ a ∧ a ≤ 63))] H
  refine xq_run [7, 17] 300 ?_
  show ((xb (0 ≤ a ∧ a ≤ 63) = 0) → xfR 0 (-1) ∧ xKZ = xKZ ∧ Q (-1) H) ∧ (¬ (xb (0 ≤ a ∧ a ≤ 63) = 0) → xWM (xE X) xMC d 19 [(0, b), (0, 0), (0, 63)] xKZ H _)
  refine ⟨fun k_ => ?_, fun k_ => ?_⟩
  · replace h := h.2 (xbe_0.mp k_)
    exact ⟨trivial, rfl, h⟩
  · replace h := h.1 (xbe_1.mp k_)
    refine xc_in (s_19 (by omega) b 0 63 H  ?_)
    replace h := h
    show xq X d 91 Q 17 [(0, (2, 46)), (1, (0, a)), (2, (0, b))] [(0, xb (0 ≤ b ∧ b ≤ 63))] H
    refine xq_run [7, 17] 300 ?_
    show ((¬ xb (0 ≤ b ∧ b ≤ 63) = 0) → (xI (a * 64)) ∧ (xI ((a * 64) + b)) ∧ ((0 : Int) ≤ (a * 64) + b ∧ ((a * 64) + b : Int) < 4096) ∧ xfR 0 (H 47 ((a * 64) + b)) ∧ xKZ = xKZ ∧ Q (H 47 ((a * 64) + b)) H) ∧ (¬ (¬ xb (0 ≤ b ∧ b ≤ 63) = 0) → xfR 0 (-1) ∧ xKZ = xKZ ∧ Q (-1) H)
    refine ⟨fun k_ => ?_, fun k_ => ?_⟩
    · replace h := h.1 (xbe_1.mp k_)
      refine ⟨h.1, ?_⟩
      replace h := h.2
      refine ⟨h.1, ?_⟩
      replace h := h.2
      refine ⟨h.1, ?_⟩
      replace h := h.2
      exact ⟨trivial, rfl, h⟩
    · replace h := h.2 (xbe_n.mp k_)
      exact ⟨trivial, rfl, h⟩

theorem s_91 {X : Int × (Int → Int)} {d : Nat} {Q : Int → XH → Prop} (hd : 2 ≤ d) (a b : Int) (H : XH) (p0 : 0 ≤ a ∧ a < 64) (p1 : 0 ≤ b ∧ b < 64) (hQ : Q (H 47 (a * 64 + b)) H) : xc X d 91 [(2, 46), (0, a), (0, b)] H Q := by
  cases d with
  | zero => omega
  | succ d =>
  refine U_91 (by omega) a b H ?_
  refine ⟨fun c1 => ?_, fun c1 => ?_⟩
  · skip
    refine ⟨fun c2 => ?_, fun c2 => ?_⟩
    · skip
      refine ⟨?_, ?_⟩
      · first | omega | (unfold xI; omega) | (unfold xJ; omega) | assumption | (exfalso; omega)
      refine ⟨?_, ?_⟩
      · first | omega | (unfold xI; omega) | (unfold xJ; omega) | assumption | (exfalso; omega)
      refine ⟨?_, ?_⟩
      · first | omega | (unfold xI; omega) | (unfold xJ; omega) | assumption | (exfalso; omega)
      first | exact hQ | (exfalso; omega)
    · skip
      first | exact hQ | (exfalso; omega)
  · skip
    first | exact hQ | (exfalso; omega)

noncomputable def vPc (w n : Int) (g : Int → Int) (a b : Int) : Int := if (0 ≤ a ∧ a < n) ∧ (0 ≤ b ∧ b < n) then dsV w n (fun e => g (20 + e)) a b else -1

theorem U_92 {X : Int × (Int → Int)} {d : Nat} {Q : Int → XH → Prop} (hd : 4 ≤ d) (a b : Int) (H : XH) (h : ((((0 ≤ a ∧ a < H 2 2)) → ((((0 ≤ b ∧ b < H 2 2)) → (InvS H) ∧ (0 ≤ a ∧ a < H 67 1) ∧ (∀ (h342 : XH), ((∀ o, ¬ o = 47 → ¬ o = 48 → h342 o = H o) ∧ (∀ k, ¬ (a * 64 ≤ k ∧ k < a * 64 + 64) → h342 47 k = H 47 k) ∧ DS (H 67 0) (H 67 1) (fun e => H 68 (20 + e)) a (fun c => h342 47 (a * 64 + c))) → (0 ≤ a ∧ a < 64) ∧ (0 ≤ b ∧ b < 64) ∧ (Q (h342 47 (a * 64 + b)) h342))) ∧ (¬ ((0 ≤ b ∧ b < H 2 2)) → Q (-1) H))) ∧ (¬ ((0 ≤ a ∧ a < H 2 2)) → Q (-1) H))) : xc X (d + 1) 92 [(2, 0), (0, a), (0, b)] H Q := by
  refine ⟨rfl, ?_⟩
  show xq X d 92 Q 100000 [(0, (2, 0)), (1, (0, a)), (2, (0, b))] [] H
  refine xq_run [11, 25, 45, 54] 300 ?_
  show xWM (xE X) xMC d 18 [(2, 2), (0, a)] xKZ H _
  refine xc_in (s_18 (by omega) a H  ?_)
  replace h := h
  show xq X d 92 Q 11 [(0, (2, 0)), (1, (0, a)), (2, (0, b))] [(0, xb (0 ≤ a ∧ a < H 2 2))] H
  refine xq_run [11, 25, 45, 54] 300 ?_
  show ((xb (0 ≤ a ∧ a < H 2 2) = 0) → xfR 0 (-1) ∧ xKZ = xKZ ∧ Q (-1) H) ∧ (¬ (xb (0 ≤ a ∧ a < H 2 2) = 0) → xWM (xE X) xMC d 18 [(2, 2), (0, b)] xKZ H _)
  refine ⟨fun k_ => ?_, fun k_ => ?_⟩
  · replace h := h.2 (xbe_0.mp k_)
    exact ⟨trivial, rfl, h⟩
  · replace h := h.1 (xbe_1.mp k_)
    refine xc_in (s_18 (by omega) b H  ?_)
    replace h := h
    show xq X d 92 Q 25 [(0, (2, 0)), (1, (0, a)), (2, (0, b))] [(0, xb (0 ≤ b ∧ b < H 2 2))] H
    refine xq_run [11, 25, 45, 54] 300 ?_
    show ((¬ xb (0 ≤ b ∧ b < H 2 2) = 0) → xWM (xE X) xMC d 90 [(2, 46), (2, 2), (0, a)] xKZ H _) ∧ (¬ (¬ xb (0 ≤ b ∧ b < H 2 2) = 0) → xfR 0 (-1) ∧ xKZ = xKZ ∧ Q (-1) H)
    refine ⟨fun k_ => ?_, fun k_ => ?_⟩
    · replace h := h.1 (xbe_1.mp k_)
      refine xc_in (s_90 (by omega) a H (h.1) (h.2.1) ?_)
      intro h342 q_0
      replace h := h.2.2 h342 q_0
      show xq X d 92 Q 45 [(0, (2, 0)), (1, (0, a)), (2, (0, b))] [] h342
      refine xq_run [11, 25, 45, 54] 300 ?_
      show xWM (xE X) xMC d 91 [(2, 46), (0, a), (0, b)] xKZ h342 _
      refine xc_in (s_91 (by omega) a b h342 (h.1) (h.2.1) ?_)
      replace h := h.2.2
      show xq X d 92 Q 54 [(0, (2, 0)), (1, (0, a)), (2, (0, b))] [(0, h342 47 (a * 64 + b))] h342
      refine xq_run [11, 25, 45, 54] 300 ?_
      show xfR 0 (h342 47 (a * 64 + b)) ∧ xKZ = xKZ ∧ Q (h342 47 (a * 64 + b)) h342
      exact ⟨trivial, rfl, h⟩
    · replace h := h.2 (xbe_n.mp k_)
      exact ⟨trivial, rfl, h⟩

theorem s_92 {X : Int × (Int → Int)} {d : Nat} {Q : Int → XH → Prop} (hd : 8 ≤ d) (a b : Int) (H : XH) (hi : InvS H) (hQ : ∀ h1 : XH, frC H h1 → Q (vPc (H 67 0) (H 67 1) (H 68) a b) h1) : xc X d 92 [(2, 0), (0, a), (0, b)] H Q := by
  cases d with
  | zero => omega
  | succ d =>
  have hg := hi.1
  have hs := hi.2
  have nn := hg.nn
  have ww := hg.ww
  have l2 := hs.l2
  have hc := hs.c
  have lyb := hg.lyb
  have bnd := hg.bnd
  unfold vPc at hQ
  refine U_92 (by omega) a b H ?_
  refine ⟨fun c1 => ?_, fun c1 => ?_⟩
  · skip
    refine ⟨fun c2 => ?_, fun c2 => ?_⟩
    · skip
      refine ⟨?_, ?_⟩
      · first | omega | exact hi
      refine ⟨?_, ?_⟩
      · first | omega | exact hi
      intro h343 c3
      have uu := c3
      refine ⟨?_, ?_⟩
      · first | omega | exact hi
      refine ⟨?_, ?_⟩
      · first | omega | exact hi
      have k := hQ _ (fun o x y => uu.1 o (by omega) (by omega))
      rw [if_pos (by omega), ← DS_v uu.2.2 (by omega) (by omega)] at k
      exact k
    · skip
      have k := hQ _ (frC_refl H)
      rw [if_neg (by omega)] at k
      exact k
  · skip
    have k := hQ _ (frC_refl H)
    rw [if_neg (by omega)] at k
    exact k

theorem U_93 {X : Int × (Int → Int)} {d : Nat} {Q : Int → XH → Prop} (hd : 2 ≤ d) (a b : Int) (H : XH) (h : (1 ≤ H 67 0 ∧ H 67 0 ≤ 8) ∧ (0 ≤ a ∧ a < 64) ∧ (0 ≤ b ∧ b < 64) ∧ (((¬ btw (H 67 0) a b = 1) → Q 0 H) ∧ (¬ (¬ btw (H 67 0) a b = 1) → Q 1 H))) : xc X (d + 1) 93 [(2, 67), (0, a), (0, b)] H Q := by
  refine ⟨rfl, ?_⟩
  show xq X d 93 Q 100000 [(0, (2, 67)), (1, (0, a)), (2, (0, b))] [] H
  refine xq_run [6] 300 ?_
  show xWM (xE X) xMC d 41 [(2, 67), (0, a), (0, b)] xKZ H _
  refine xc_in (s_41 (by omega) a b H (h.1) (h.2.1) (h.2.2.1) ?_)
  replace h := h.2.2.2
  show xq X d 93 Q 6 [(0, (2, 67)), (1, (0, a)), (2, (0, b))] [(0, btw (H 67 0) a b)] H
  refine xq_run [6] 300 ?_
  show ((¬ btw (H 67 0) a b = 1) → xfR 3 0 ∧ xKZ = xKZ ∧ Q 0 H) ∧ (¬ (¬ btw (H 67 0) a b = 1) → xfR 3 1 ∧ xKZ = xKZ ∧ Q 1 H)
  refine ⟨fun k_ => ?_, fun k_ => ?_⟩
  · replace h := h.1 k_
    exact ⟨xfR3_0, rfl, h⟩
  · replace h := h.2 k_
    exact ⟨xfR3_1, rfl, h⟩

theorem s_93 {X : Int × (Int → Int)} {d : Nat} {Q : Int → XH → Prop} (hd : 3 ≤ d) (a b : Int) (H : XH) (p0 : 1 ≤ H 67 0 ∧ H 67 0 ≤ 8) (p1 : 0 ≤ a ∧ a < 64) (p2 : 0 ≤ b ∧ b < 64) (hQ : Q (xb (btw (H 67 0) a b = 1)) H) : xc X d 93 [(2, 67), (0, a), (0, b)] H Q := by
  cases d with
  | zero => omega
  | succ d =>
  refine U_93 (by omega) a b H ?_
  refine ⟨?_, ?_⟩
  · first | omega | (unfold xI; omega) | (unfold xJ; omega) | assumption | (exfalso; omega)
  refine ⟨?_, ?_⟩
  · first | omega | (unfold xI; omega) | (unfold xJ; omega) | assumption | (exfalso; omega)
  refine ⟨?_, ?_⟩
  · first | omega | (unfold xI; omega) | (unfold xJ; omega) | assumption | (exfalso; omega)
  refine ⟨fun c1 => ?_, fun c1 => ?_⟩
  · skip
    first | (rw [xb_t (by omega)] at hQ; exact hQ) | (rw [xb_f (by omega)] at hQ; exact hQ)
  · skip
    first | (rw [xb_t (by omega)] at hQ; exact hQ) | (rw [xb_f (by omega)] at hQ; exact hQ)

/-- the model's search: all up to N is said -/
def LI (w n : Int) (br : Int → Int) (fr : Int) (D : Int → Int) (N : Int) : Prop :=
  (∀ c, 0 ≤ c → c < n → D c = -1 ∨ (0 ≤ D c ∧ D c ≤ N)) ∧
  (∀ c, 0 ≤ c → c < n → ¬ br c = 0 → D c = -1) ∧
  (D fr = (if br fr = 0 then 0 else -1)) ∧
  (∀ c, 0 ≤ c → c < n → ¬ D c = -1 → (c = fr ∧ D c = 0) ∨ ∃ p, (0 ≤ p ∧ p < n) ∧ ¬ D p = -1 ∧ D c = D p + 1 ∧ btw w p c = 1) ∧
  (∀ c e, 0 ≤ c → c < n → 0 ≤ e → e < n → ¬ D c = -1 → D c < N → btw w c e = 1 → br e = 0 → ¬ D e = -1 ∧ D e ≤ D c + 1) ∧
  (N ≤ cnA n D)
theorem LI.rg {w n : Int} {br : Int → Int} {fr : Int} {D : Int → Int} {N : Int} (h : LI w n br fr D N) : ∀ c, 0 ≤ c → c < n → D c = -1 ∨ (0 ≤ D c ∧ D c ≤ N) := h.1
theorem LI.bl {w n : Int} {br : Int → Int} {fr : Int} {D : Int → Int} {N : Int} (h : LI w n br fr D N) : ∀ c, 0 ≤ c → c < n → ¬ br c = 0 → D c = -1 := h.2.1
theorem LI.st {w n : Int} {br : Int → Int} {fr : Int} {D : Int → Int} {N : Int} (h : LI w n br fr D N) : D fr = (if br fr = 0 then 0 else -1) := h.2.2.1
theorem LI.up {w n : Int} {br : Int → Int} {fr : Int} {D : Int → Int} {N : Int} (h : LI w n br fr D N) : ∀ c, 0 ≤ c → c < n → ¬ D c = -1 → (c = fr ∧ D c = 0) ∨ ∃ p, (0 ≤ p ∧ p < n) ∧ ¬ D p = -1 ∧ D c = D p + 1 ∧ btw w p c = 1 := h.2.2.2.1
theorem LI.nx {w n : Int} {br : Int → Int} {fr : Int} {D : Int → Int} {N : Int} (h : LI w n br fr D N) : ∀ c e, 0 ≤ c → c < n → 0 ≤ e → e < n → ¬ D c = -1 → D c < N → btw w c e = 1 → br e = 0 → ¬ D e = -1 ∧ D e ≤ D c + 1 := h.2.2.2.2.1
theorem LI.ct {w n : Int} {br : Int → Int} {fr : Int} {D : Int → Int} {N : Int} (h : LI w n br fr D N) : N ≤ cnA n D := h.2.2.2.2.2
/-- in the pass of N: cells below c, and with c those below d, are done -/
def PI (w n : Int) (br : Int → Int) (fr : Int) (D : Int → Int) (N K c d m : Int) : Prop :=
  (∀ e, 0 ≤ e → e < n → D e = -1 ∨ (0 ≤ D e ∧ D e ≤ N + 1)) ∧
  (∀ e, 0 ≤ e → e < n → ¬ br e = 0 → D e = -1) ∧
  (D fr = (if br fr = 0 then 0 else -1)) ∧
  (∀ e, 0 ≤ e → e < n → ¬ D e = -1 → (e = fr ∧ D e = 0) ∨ ∃ p, (0 ≤ p ∧ p < n) ∧ ¬ D p = -1 ∧ D e = D p + 1 ∧ btw w p e = 1) ∧
  (∀ x e, 0 ≤ x → x < n → 0 ≤ e → e < n → ¬ D x = -1 → D x < N → btw w x e = 1 → br e = 0 → ¬ D e = -1 ∧ D e ≤ D x + 1) ∧
  (∀ x e, 0 ≤ x → x < n → 0 ≤ e → e < n → (x < c ∨ (x = c ∧ e < d)) → D x = N → btw w x e = 1 → br e = 0 → ¬ D e = -1 ∧ D e ≤ N + 1) ∧
  ((m = 0 ∧ (∀ e, 0 ≤ e → e < n → D e ≤ N) ∧ cnA n D = K) ∨ (m = 1 ∧ K < cnA n D))
theorem PI.rg {w n : Int} {br : Int → Int} {fr : Int} {D : Int → Int} {N K c d m : Int} (h : PI w n br fr D N K c d m) : ∀ e, 0 ≤ e → e < n → D e = -1 ∨ (0 ≤ D e ∧ D e ≤ N + 1) := h.1
theorem PI.bl {w n : Int} {br : Int → Int} {fr : Int} {D : Int → Int} {N K c d m : Int} (h : PI w n br fr D N K c d m) : ∀ e, 0 ≤ e → e < n → ¬ br e = 0 → D e = -1 := h.2.1
theorem PI.st {w n : Int} {br : Int → Int} {fr : Int} {D : Int → Int} {N K c d m : Int} (h : PI w n br fr D N K c d m) : D fr = (if br fr = 0 then 0 else -1) := h.2.2.1
theorem PI.up {w n : Int} {br : Int → Int} {fr : Int} {D : Int → Int} {N K c d m : Int} (h : PI w n br fr D N K c d m) : ∀ e, 0 ≤ e → e < n → ¬ D e = -1 → (e = fr ∧ D e = 0) ∨ ∃ p, (0 ≤ p ∧ p < n) ∧ ¬ D p = -1 ∧ D e = D p + 1 ∧ btw w p e = 1 := h.2.2.2.1
theorem PI.nx {w n : Int} {br : Int → Int} {fr : Int} {D : Int → Int} {N K c d m : Int} (h : PI w n br fr D N K c d m) : ∀ x e, 0 ≤ x → x < n → 0 ≤ e → e < n → ¬ D x = -1 → D x < N → btw w x e = 1 → br e = 0 → ¬ D e = -1 ∧ D e ≤ D x + 1 := h.2.2.2.2.1
theorem PI.dn {w n : Int} {br : Int → Int} {fr : Int} {D : Int → Int} {N K c d m : Int} (h : PI w n br fr D N K c d m) : ∀ x e, 0 ≤ x → x < n → 0 ≤ e → e < n → (x < c ∨ (x = c ∧ e < d)) → D x = N → btw w x e = 1 → br e = 0 → ¬ D e = -1 ∧ D e ≤ N + 1 := h.2.2.2.2.2.1
theorem PI.mo {w n : Int} {br : Int → Int} {fr : Int} {D : Int → Int} {N K c d m : Int} (h : PI w n br fr D N K c d m) : (m = 0 ∧ (∀ e, 0 ≤ e → e < n → D e ≤ N) ∧ cnA n D = K) ∨ (m = 1 ∧ K < cnA n D) := h.2.2.2.2.2.2
theorem PI_0 {w n fr N : Int} {br D : Int → Int} (h : LI w n br fr D N) (hN : 0 ≤ N) : PI w n br fr D N (cnA n D) 0 0 0 :=
  ⟨fun e x y => by have := h.rg e x y; omega, h.bl, h.st, h.up, h.nx, fun x e _ _ _ _ q => by omega, Or.inl ⟨rfl, fun e x y => by have := h.rg e x y; omega, rfl⟩⟩
theorem PI_skip {w n fr N K c d m : Int} {br D : Int → Int} (h : PI w n br fr D N K c d m) (hs : D c = N → 0 ≤ c → c < n → 0 ≤ d → d < n → btw w c d = 1 → br d = 0 → ¬ D d = -1 ∧ D d ≤ N + 1) : PI w n br fr D N K c (d + 1) m :=
  ⟨h.rg, h.bl, h.st, h.up, h.nx, fun x e x0 x1 e0 e1 q hx ha hb => by
    by_cases z : x = c ∧ e = d
    · rw [z.1] at hx ha
      rw [z.2] at ha hb ⊢
      exact hs hx (z.1 ▸ x0) (z.1 ▸ x1) (z.2 ▸ e0) (z.2 ▸ e1) ha hb
    · exact h.dn x e x0 x1 e0 e1 (by omega) hx ha hb, h.mo⟩
theorem PI_row {w n fr N K c d m : Int} {br D : Int → Int} (h : PI w n br fr D N K c d m) (hs : n ≤ d ∨ ¬ D c = N) : PI w n br fr D N K (c + 1) 0 m :=
  ⟨h.rg, h.bl, h.st, h.up, h.nx, fun x e x0 x1 e0 e1 q hx ha hb => by
    by_cases z : x = c
    · rcases hs with hs | hs
      · exact h.dn x e x0 x1 e0 e1 (by omega) hx ha hb
      · rw [z] at hx
        exact absurd hx hs
    · exact h.dn x e x0 x1 e0 e1 (by omega) hx ha hb, h.mo⟩
theorem PI_add {w n fr N K c d m : Int} {br D D' : Int → Int} (h : PI w n br fr D N K c d m) (hN : 0 ≤ N) (hc : 0 ≤ c ∧ c < n) (hd : 0 ≤ d ∧ d < n) (hD : D c = N) (h0 : D d = -1) (hb : br d = 0) (ha : btw w c d = 1) (d1 : D' d = N + 1) (d2 : ∀ e, ¬ e = d → D' e = D e) : PI w n br fr D' N K c (d + 1) 1 := by
  have k : ∀ e, ¬ D e = -1 → D' e = D e := fun e z => d2 e (fun q => z (by rw [q]; exact h0))
  refine ⟨fun e x y => ?_, fun e x y z => ?_, ?_, fun e x y z => ?_, fun x e x0 x1 e0 e1 q1 q2 q3 q4 => ?_, fun x e x0 x1 e0 e1 q hx y1 y2 => ?_, Or.inr ⟨rfl, ?_⟩⟩
  · by_cases q : e = d
    · rw [q, d1]
      omega
    · rw [d2 e q]
      exact h.rg e x y
  · by_cases q : e = d
    · rw [q] at z
      exact absurd hb z
    · rw [d2 e q]
      exact h.bl e x y z
  · have s := h.st
    by_cases q : fr = d
    · exfalso
      rw [q, if_pos hb] at s
      omega
    · rw [d2 fr q]
      exact s
  · by_cases q : e = d
    · refine Or.inr ⟨c, hc, ?_, ?_, ?_⟩
      · rw [k c (by omega)]
        omega
      · rw [q, d1, k c (by omega), hD]
      · rw [q]
        exact ha
    · rw [d2 e q] at z ⊢
      rcases h.up e x y z with p | ⟨p, p1, p2, p3, p4⟩
      · exact Or.inl p
      · exact Or.inr ⟨p, p1, by rw [k p p2]; exact p2, by rw [k p p2]; exact p3, p4⟩
  · by_cases q : x = d
    · rw [q, d1] at q2
      omega
    · rw [d2 x q] at q1 q2 ⊢
      have z := h.nx x e x0 x1 e0 e1 q1 q2 q3 q4
      rw [k e z.1]
      exact z
  · by_cases qx : x = d
    · rw [qx, d1] at hx
      omega
    · rw [d2 x qx] at hx
      by_cases qe : e = d
      · rw [qe, d1]
        omega
      · have z := h.dn x e x0 x1 e0 e1 (by omega) hx y1 y2
        rw [k e z.1]
        exact z
  · have z := cnA_up hd h0 d1 (by omega) d2
    have mo := h.mo
    omega
theorem PI_more {w n fr N K c m : Int} {br D : Int → Int} (h : PI w n br fr D N K c 0 m) (hc : n ≤ c) (hK : N ≤ K) (hm : ¬ m = 0) : LI w n br fr D (N + 1) ∧ K < cnA n D := by
  have mo := h.mo
  refine ⟨⟨h.rg, h.bl, h.st, h.up, fun x e x0 x1 e0 e1 q1 q2 q3 q4 => ?_, by omega⟩, by omega⟩
  by_cases q : D x = N
  · rw [q]
    exact h.dn x e x0 x1 e0 e1 (by omega) q q3 q4
  · exact h.nx x e x0 x1 e0 e1 q1 (by omega) q3 q4
theorem PI_end {w n fr N K c m : Int} {br D : Int → Int} (hn : 0 ≤ n ∧ n ≤ 64) (h : PI w n br fr D N K c 0 m) (hc : n ≤ c) (hK : N ≤ K) (hm : m = 0) : DS w n br fr D := by
  have mo := h.mo
  have ca := cnA_rng hn.1 D
  have mo2 : (∀ e, 0 ≤ e → e < n → D e ≤ N) ∧ cnA n D = K := by
    rcases mo with q | q
    · exact q.2
    · omega
  refine ⟨fun e x y => by have := h.rg e x y; have := mo2.1 e x y; omega, h.bl, h.st, h.up, fun x e x0 x1 e0 e1 q1 q3 q4 => ?_⟩
  by_cases q : D x = N
  · rw [q]
    exact h.dn x e x0 x1 e0 e1 (by omega) q q3 q4
  · exact h.nx x e x0 x1 e0 e1 q1 (by have := mo2.1 x x0 x1; omega) q3 q4

def lfH (H h : XH) (f : Int) : Prop := (∀ o, ¬ o = 80 → h o = H o) ∧ ∀ k, ¬ (64 * f ≤ k ∧ k < 64 * f + 64) → h 80 k = H 80 k

theorem U_94 {X : Int × (Int → Int)} {d : Nat} {Q : Int → XH → Prop} (hd : 0 ≤ d) (f : Int) (H : XH) (h : xq X d 94 Q 2 [(0, (2, 67)), (1, (0, f)), (2, (0, 0))] [] H) : xc X (d + 1) 94 [(2, 67), (0, f)] H Q := by
  refine ⟨rfl, ?_⟩
  show xq X d 94 Q 100000 [(0, (2, 67)), (1, (0, f))] [] H
  refine xq_run [2, 53, 62, 74, 107] 300 ?_
  show xq X d 94 Q 2 [(0, (2, 67)), (1, (0, f)), (2, (0, 0))] [] H
  exact h
theorem U_94_2 {X : Int × (Int → Int)} {d : Nat} {Q : Int → XH → Prop} (hd : 0 ≤ d) (v1 v2 : Int) (H : XH) (h : ((H 67 1 ≤ v2) → xq X d 94 Q 53 [(0, (2, 67)), (1, (0, v1)), (2, (0, 1)), (3, (0, 0))] [] H) ∧ (¬ (H 67 1 ≤ v2) → (xI (64 * v1)) ∧ (xI ((64 * v1) + v2)) ∧ ((¬ v2 = v1) → ((0 : Int) ≤ (64 * v1) + v2 ∧ ((64 * v1) + v2 : Int) < 4096) ∧ (xI (v2 + 1)) ∧ xq X d 94 Q 2 [(0, (2, 67)), (1, (0, v1)), (2, (0, v2 + 1))] [] (xup H 80 ((64 * v1) + v2) (-1))) ∧ (¬ (¬ v2 = v1) → (xI (20 + v2)) ∧ ((0 : Int) ≤ 20 + v2 ∧ (20 + v2 : Int) < 1180) ∧ ((¬ H 68 (20 + v2) = 0) → ((0 : Int) ≤ (64 * v1) + v2 ∧ ((64 * v1) + v2 : Int) < 4096) ∧ (xI (v2 + 1)) ∧ xq X d 94 Q 2 [(0, (2, 67)), (1, (0, v1)), (2, (0, v2 + 1))] [] (xup H 80 ((64 * v1) + v2) (-1))) ∧ (¬ (¬ H 68 (20 + v2) = 0) → ((0 : Int) ≤ (64 * v1) + v2 ∧ ((64 * v1) + v2 : Int) < 4096) ∧ (xI (v2 + 1)) ∧ xq X d 94 Q 2 [(0, (2, 67)), (1, (0, v1)), (2, (0, v2 + 1))] [] (xup H 80 ((64 * v1) + v2) 0))))) : xq X d 94 Q 2 [(0, (2, 67)), (1, (0, v1)), (2, (0, v2))] [] H := by
  show xq X d 94 Q 2 [(0, (2, 67)), (1, (0, v1)), (2, (0, v2))] [] H
  refine xq_run [2, 53, 62, 74, 107] 300 ?_
  show ((H 67 1 ≤ v2) → xq X d 94 Q 53 [(0, (2, 67)), (1, (0, v1)), (2, (0, 1)), (3, (0, 0))] [] H) ∧ (¬ (H 67 1 ≤ v2) → (xI (64 * v1)) ∧ (xI ((64 * v1) + v2)) ∧ ((¬ v2 = v1) → ((0 : Int) ≤ (64 * v1) + v2 ∧ ((64 * v1) + v2 : Int) < 4096) ∧ (xI (v2 + 1)) ∧ xq X d 94 Q 2 [(0, (2, 67)), (1, (0, v1)), (2, (0, v2 + 1))] [] (xup H 80 ((64 * v1) + v2) (-1))) ∧ (¬ (¬ v2 = v1) → (xI (20 + v2)) ∧ ((0 : Int) ≤ 20 + v2 ∧ (20 + v2 : Int) < 1180) ∧ ((¬ H 68 (20 + v2) = 0) → ((0 : Int) ≤ (64 * v1) + v2 ∧ ((64 * v1) + v2 : Int) < 4096) ∧ (xI (v2 + 1)) ∧ xq X d 94 Q 2 [(0, (2, 67)), (1, (0, v1)), (2, (0, v2 + 1))] [] (xup H 80 ((64 * v1) + v2) (-1))) ∧ (¬ (¬ H 68 (20 + v2) = 0) → ((0 : Int) ≤ (64 * v1) + v2 ∧ ((64 * v1) + v2 : Int) < 4096) ∧ (xI (v2 + 1)) ∧ xq X d 94 Q 2 [(0, (2, 67)), (1, (0, v1)), (2, (0, v2 + 1))] [] (xup H 80 ((64 * v1) + v2) 0))))
  refine ⟨fun k_ => ?_, fun k_ => ?_⟩
  · replace h := h.1 k_
    exact h
  · replace h := h.2 k_
    refine ⟨h.1, ?_⟩
    replace h := h.2
    refine ⟨h.1, ?_⟩
    replace h := h.2
    refine ⟨fun k_ => ?_, fun k_ => ?_⟩
    · replace h := h.1 k_
      refine ⟨h.1, ?_⟩
      replace h := h.2
      refine ⟨h.1, ?_⟩
      replace h := h.2
      exact h
    · replace h := h.2 k_
      refine ⟨h.1, ?_⟩
      replace h := h.2
      refine ⟨h.1, ?_⟩
      replace h := h.2
      refine ⟨fun k_ => ?_, fun k_ => ?_⟩
      · replace h := h.1 k_
        refine ⟨h.1, ?_⟩
        replace h := h.2
        refine ⟨h.1, ?_⟩
        replace h := h.2
        exact h
      · replace h := h.2 k_
        refine ⟨h.1, ?_⟩
        replace h := h.2
        refine ⟨h.1, ?_⟩
        replace h := h.2
        exact h
theorem U_94_53 {X : Int × (Int → Int)} {d : Nat} {Q : Int → XH → Prop} (hd : 0 ≤ d) (v1 v2 v3 : Int) (H : XH) (h : ((v2 = 0) → Q 0 H) ∧ (¬ (v2 = 0) → xq X d 94 Q 62 [(0, (2, 67)), (1, (0, v1)), (2, (0, 0)), (3, (0, v3)), (4, (0, 0))] [] H)) : xq X d 94 Q 53 [(0, (2, 67)), (1, (0, v1)), (2, (0, v2)), (3, (0, v3))] [] H := by
  show xq X d 94 Q 53 [(0, (2, 67)), (1, (0, v1)), (2, (0, v2)), (3, (0, v3))] [] H
  refine xq_run [2, 53, 62, 74, 107] 300 ?_
  show ((v2 = 0) → xfR 2 0 ∧ xKZ = xKZ ∧ Q 0 H) ∧ (¬ (v2 = 0) → xq X d 94 Q 62 [(0, (2, 67)), (1, (0, v1)), (2, (0, 0)), (3, (0, v3)), (4, (0, 0))] [] H)
  refine ⟨fun k_ => ?_, fun k_ => ?_⟩
  · replace h := h.1 k_
    exact ⟨trivial, rfl, h⟩
  · replace h := h.2 k_
    exact h
theorem U_94_62 {X : Int × (Int → Int)} {d : Nat} {Q : Int → XH → Prop} (hd : 0 ≤ d) (v1 v2 v3 v4 : Int) (H : XH) (h : ((H 67 1 ≤ v4) → (xI (v3 + 1)) ∧ xq X d 94 Q 53 [(0, (2, 67)), (1, (0, v1)), (2, (0, v2)), (3, (0, v3 + 1))] [] H) ∧ (¬ (H 67 1 ≤ v4) → xq X d 94 Q 74 [(0, (2, 67)), (1, (0, v1)), (2, (0, v2)), (3, (0, v3)), (4, (0, v4)), (5, (0, 0))] [] H)) : xq X d 94 Q 62 [(0, (2, 67)), (1, (0, v1)), (2, (0, v2)), (3, (0, v3)), (4, (0, v4))] [] H := by
  show xq X d 94 Q 62 [(0, (2, 67)), (1, (0, v1)), (2, (0, v2)), (3, (0, v3)), (4, (0, v4))] [] H
  refine xq_run [2, 53, 62, 74, 107] 300 ?_
  show ((H 67 1 ≤ v4) → (xI (v3 + 1)) ∧ xq X d 94 Q 53 [(0, (2, 67)), (1, (0, v1)), (2, (0, v2)), (3, (0, v3 + 1))] [] H) ∧ (¬ (H 67 1 ≤ v4) → xq X d 94 Q 74 [(0, (2, 67)), (1, (0, v1)), (2, (0, v2)), (3, (0, v3)), (4, (0, v4)), (5, (0, 0))] [] H)
  refine ⟨fun k_ => ?_, fun k_ => ?_⟩
  · replace h := h.1 k_
    refine ⟨h.1, ?_⟩
    replace h := h.2
    exact h
  · replace h := h.2 k_
    exact h
theorem U_94_74 {X : Int × (Int → Int)} {d : Nat} {Q : Int → XH → Prop} (hd : 3 ≤ d) (v1 v2 v3 v4 v5 : Int) (H : XH) (h : ((H 67 1 ≤ v5) → (xI (v4 + 1)) ∧ xq X d 94 Q 62 [(0, (2, 67)), (1, (0, v1)), (2, (0, v2)), (3, (0, v3)), (4, (0, v4 + 1))] [] H) ∧ (¬ (H 67 1 ≤ v5) → (xI (64 * v1)) ∧ (xI ((64 * v1) + v4)) ∧ ((0 : Int) ≤ (64 * v1) + v4 ∧ ((64 * v1) + v4 : Int) < 4096) ∧ ((¬ H 80 ((64 * v1) + v4) = v3) → (xI (v4 + 1)) ∧ xq X d 94 Q 62 [(0, (2, 67)), (1, (0, v1)), (2, (0, v2)), (3, (0, v3)), (4, (0, v4 + 1))] [] H) ∧ (¬ (¬ H 80 ((64 * v1) + v4) = v3) → (1 ≤ H 67 0 ∧ H 67 0 ≤ 8) ∧ (0 ≤ v4 ∧ v4 < 64) ∧ (0 ≤ v5 ∧ v5 < 64) ∧ ((((btw (H 67 0) v4 v5 = 1)) → (xI (20 + v5)) ∧ ((0 : Int) ≤ 20 + v5 ∧ (20 + v5 : Int) < 1180) ∧ ((¬ H 68 (20 + v5) = 0) → (xI (v5 + 1)) ∧ xq X d 94 Q 74 [(0, (2, 67)), (1, (0, v1)), (2, (0, v2)), (3, (0, v3)), (4, (0, v4)), (5, (0, v5 + 1))] [] H) ∧ (¬ (¬ H 68 (20 + v5) = 0) → (xI (64 * v1)) ∧ (xI ((64 * v1) + v5)) ∧ ((0 : Int) ≤ (64 * v1) + v5 ∧ ((64 * v1) + v5 : Int) < 4096) ∧ ((¬ H 80 ((64 * v1) + v5) = (-1)) → (xI (v5 + 1)) ∧ xq X d 94 Q 74 [(0, (2, 67)), (1, (0, v1)), (2, (0, v2)), (3, (0, v3)), (4, (0, v4)), (5, (0, v5 + 1))] [] H) ∧ (¬ (¬ H 80 ((64 * v1) + v5) = (-1)) → (xI (64 * v1)) ∧ (xI ((64 * v1) + v5)) ∧ (xI (v3 + 1)) ∧ ((0 : Int) ≤ (64 * v1) + v5 ∧ ((64 * v1) + v5 : Int) < 4096) ∧ (xI (v5 + 1)) ∧ xq X d 94 Q 74 [(0, (2, 67)), (1, (0, v1)), (2, (0, 1)), (3, (0, v3)), (4, (0, v4)), (5, (0, v5 + 1))] [] (xup H 80 ((64 * v1) + v5) (v3 + 1))))) ∧ (¬ ((btw (H 67 0) v4 v5 = 1)) → (xI (v5 + 1)) ∧ xq X d 94 Q 74 [(0, (2, 67)), (1, (0, v1)), (2, (0, v2)), (3, (0, v3)), (4, (0, v4)), (5, (0, v5 + 1))] [] H))))) : xq X d 94 Q 74 [(0, (2, 67)), (1, (0, v1)), (2, (0, v2)), (3, (0, v3)), (4, (0, v4)), (5, (0, v5))] [] H := by
  show xq X d 94 Q 74 [(0, (2, 67)), (1, (0, v1)), (2, (0, v2)), (3, (0, v3)), (4, (0, v4)), (5, (0, v5))] [] H
  refine xq_run [2, 53, 62, 74, 107] 300 ?_
  show ((H 67 1 ≤ v5) → (xI (v4 + 1)) ∧ xq X d 94 Q 62 [(0, (2, 67)), (1, (0, v1)), (2, (0, v2)), (3, (0, v3)), (4, (0, v4 + 1))] [] H) ∧ (¬ (H 67 1 ≤ v5) → (xI (64 * v1)) ∧ (xI ((64 * v1) + v4)) ∧ ((0 : Int) ≤ (64 * v1) + v4 ∧ ((64 * v1) + v4 : Int) < 4096) ∧ ((¬ H 80 ((64 * v1) + v4) = v3) → (xI (v4 + 1)) ∧ xq X d 94 Q 62 [(0, (2, 67)), (1, (0, v1)), (2, (0, v2)), (3, (0, v3)), (4, (0, v4 + 1))] [] H) ∧ (¬ (¬ H 80 ((64 * v1) + v4) = v3) → xWM (xE X) xMC d 93 [(2, 67), (0, v4), (0, v5)] xKZ H _))
  refine ⟨fun k_ => ?_, fun k_ => ?_⟩
  · replace h := h.1 k_
    refine ⟨h.1, ?_⟩
    replace h := h.2
    exact h
  · replace h := h.2 k_
    refine ⟨h.1, ?_⟩
    replace h := h.2
    refine ⟨h.1, ?_⟩
    replace h := h.2
    refine ⟨h.1, ?_⟩
    replace h := h.2
    refine ⟨fun k_ => ?_, fun k_ => ?_⟩
    · replace h := h.1 k_
      refine ⟨h.1, ?_⟩
      replace h := h.2
      exact h
    · replace h := h.2 k_
      refine xc_in (s_93 (by omega) v4 v5 H (h.1) (h.2.1) (h.2.2.1) ?_)
      replace h := h.2.2.2
      show xq X d 94 Q 107 [(0, (2, 67)), (1, (0, v1)), (2, (0, v2)), (3, (0, v3)), (4, (0, v4)), (5, (0, v5))] [(0, xb (btw (H 67 0) v4 v5 = 1))] H
      refine xq_run [2, 53, 62, 74, 107] 300 ?_
      show ((xb (btw (H 67 0) v4 v5 = 1) = 0) → (xI (v5 + 1)) ∧ xq X d 94 Q 74 [(0, (2, 67)), (1, (0, v1)), (2, (0, v2)), (3, (0, v3)), (4, (0, v4)), (5, (0, v5 + 1))] [] H) ∧ (¬ (xb (btw (H 67 0) v4 v5 = 1) = 0) → (xI (20 + v5)) ∧ ((0 : Int) ≤ 20 + v5 ∧ (20 + v5 : Int) < 1180) ∧ ((¬ H 68 (20 + v5) = 0) → (xI (v5 + 1)) ∧ xq X d 94 Q 74 [(0, (2, 67)), (1, (0, v1)), (2, (0, v2)), (3, (0, v3)), (4, (0, v4)), (5, (0, v5 + 1))] [] H) ∧ (¬ (¬ H 68 (20 + v5) = 0) → (xI (64 * v1)) ∧ (xI ((64 * v1) + v5)) ∧ ((0 : Int) ≤ (64 * v1) + v5 ∧ ((64 * v1) + v5 : Int) < 4096) ∧ ((¬ H 80 ((64 * v1) + v5) = (-1)) → (xI (v5 + 1)) ∧ xq X d 94 Q 74 [(0, (2, 67)), (1, (0, v1)), (2, (0, v2)), (3, (0, v3)), (4, (0, v4)), (5, (0, v5 + 1))] [] H) ∧ (¬ (¬ H 80 ((64 * v1) + v5) = (-1)) → (xI (64 * v1)) ∧ (xI ((64 * v1) + v5)) ∧ (xI (v3 + 1)) ∧ ((0 : Int) ≤ (64 * v1) + v5 ∧ ((64 * v1) + v5 : Int) < 4096) ∧ (xI (v5 + 1)) ∧ xq X d 94 Q 74 [(0, (2, 67)), (1, (0, v1)), (2, (0, 1)), (3, (0, v3)), (4, (0, v4)), (5, (0, v5 + 1))] [] (xup H 80 ((64 * v1) + v5) (v3 + 1)))))
      refine ⟨fun k_ => ?_, fun k_ => ?_⟩
      · replace h := h.2 (xbe_0.mp k_)
        refine ⟨h.1, ?_⟩
        replace h := h.2
        exact h
      · replace h := h.1 (xbe_1.mp k_)
        refine ⟨h.1, ?_⟩
        replace h := h.2
        refine ⟨h.1, ?_⟩
        replace h := h.2
        refine ⟨fun k_ => ?_, fun k_ => ?_⟩
        · replace h := h.1 k_
          refine ⟨h.1, ?_⟩
          replace h := h.2
          exact h
        · replace h := h.2 k_
          refine ⟨h.1, ?_⟩
          replace h := h.2
          refine ⟨h.1, ?_⟩
          replace h := h.2
          refine ⟨h.1, ?_⟩
          replace h := h.2
          refine ⟨fun k_ => ?_, fun k_ => ?_⟩
          · replace h := h.1 k_
            refine ⟨h.1, ?_⟩
            replace h := h.2
            exact h
          · replace h := h.2 k_
            refine ⟨h.1, ?_⟩
            replace h := h.2
            refine ⟨h.1, ?_⟩
            replace h := h.2
            refine ⟨h.1, ?_⟩
            replace h := h.2
            refine ⟨h.1, ?_⟩
            replace h := h.2
            refine ⟨h.1, ?_⟩
            replace h := h.2
            exact h

theorem s_94 {X : Int × (Int → Int)} {d : Nat} {Q : Int → XH → Prop} (hd : 4 ≤ d) (f : Int) (H : XH) (hg : GOk (H 67 0) (H 67 1) (H 68)) (pf : 0 ≤ f ∧ f < H 67 1) (hQ : ∀ h1 : XH, lfH H h1 f ∧ DS (H 67 0) (H 67 1) (fun e => H 68 (20 + e)) f (fun c => h1 80 (64 * f + c)) → Q 0 h1) : xc X d 94 [(2, 67), (0, f)] H Q := by
  cases d with
  | zero => omega
  | succ d =>
  have nn := hg.nn
  have ww := hg.ww
  have keyL : ∀ (F : Nat) (N : Int) (h : XH), 0 ≤ N → lfH H h f → LI (H 67 0) (H 67 1) (fun e => H 68 (20 + e)) f (fun c => h 80 (64 * f + c)) N → H 67 1 - cnA (H 67 1) (fun c => h 80 (64 * f + c)) ≤ F → xq X d 94 Q 53 [(0, (2, 67)), (1, (0, f)), (2, (0, 1)), (3, (0, N))] [] h := by
    intro F
    induction F using Nat.strongRecOn with
    | _ F ihF =>
    intro N h N0 hf hL hF
    have cr := cnA_rng (n := H 67 1) (by omega) (fun c => h 80 (64 * f + c))
    have lct := hL.ct
    have p0 := PI_0 hL N0
    obtain ⟨K, hK⟩ : ∃ K, cnA (H 67 1) (fun c => h 80 (64 * f + c)) = K := ⟨_, rfl⟩
    rw [hK] at p0 cr lct hF
    have keyC : ∀ (k : Nat) (c m : Int) (h' : XH), c + k = H 67 1 → 0 ≤ c → lfH H h' f → PI (H 67 0) (H 67 1) (fun e => H 68 (20 + e)) f (fun c => h' 80 (64 * f + c)) N K c 0 m → xq X d 94 Q 62 [(0, (2, 67)), (1, (0, f)), (2, (0, m)), (3, (0, N)), (4, (0, c))] [] h' := by
      intro k
      induction k with
      | zero =>
        intro c m h' hc c0 hf' hP
        have a67 := hf'.1 67 (by decide)
        refine U_94_62 (by omega) f m N c h' ?_
        rw [a67]
        refine ⟨fun c1 => ?_, fun c1 => ?_⟩
        · skip
          refine ⟨?_, ?_⟩
          · first | omega | (unfold xI; omega) | (exfalso; omega)
          by_cases hm : m = 0
          · have e := PI_end (by omega) hP (by omega) (by omega) hm
            refine U_94_53 (by omega) f m (N + 1) h' ?_
            exact ⟨fun _ => hQ h' ⟨hf', e⟩, fun q => absurd hm q⟩
          · have e := PI_more hP (by omega) (by omega) hm
            have m1 : m = 1 := by
              have := hP.mo
              omega
            rw [m1]
            have cr' := cnA_rng (n := H 67 1) (by omega) (fun c => h' 80 (64 * f + c))
            exact ihF (H 67 1 - cnA (H 67 1) (fun c => h' 80 (64 * f + c))).toNat (by omega) (N + 1) h' (by omega) hf' e.1 (by omega)
        · skip
          exfalso
          omega
      | succ k ih =>
        intro c m h' hc c0 hf' hP
        have a67 := hf'.1 67 (by decide)
        have keyD : ∀ (k' : Nat) (e m' : Int) (h2 : XH), e + k' = H 67 1 → 0 ≤ e → lfH H h2 f → PI (H 67 0) (H 67 1) (fun e => H 68 (20 + e)) f (fun c => h2 80 (64 * f + c)) N K c e m' → xq X d 94 Q 74 [(0, (2, 67)), (1, (0, f)), (2, (0, m')), (3, (0, N)), (4, (0, c)), (5, (0, e))] [] h2 := by
          intro k'
          induction k' with
          | zero =>
            intro e m' h2 he e0 hf2 hP2
            have b67 := hf2.1 67 (by decide)
            refine U_94_74 (by omega) f m' N c e h2 ?_
            rw [b67]
            refine ⟨fun c1 => ?_, fun c1 => ?_⟩
            · skip
              refine ⟨?_, ?_⟩
              · first | omega | (unfold xI; omega) | (exfalso; omega)
              exact ih (c + 1) m' h2 (by omega) (by omega) hf2 (PI_row hP2 (Or.inl (by omega)))
            · skip
              refine ⟨?_, ?_⟩
              · first | omega | (unfold xI; omega) | (exfalso; omega)
              refine ⟨?_, ?_⟩
              · first | omega | (unfold xI; omega) | (exfalso; omega)
              refine ⟨?_, ?_⟩
              · first | omega | (unfold xI; omega) | (exfalso; omega)
              refine ⟨fun c2 => ?_, fun c2 => ?_⟩
              · skip
                refine ⟨?_, ?_⟩
                · first | omega | (unfold xI; omega) | (exfalso; omega)
                exfalso
                omega
              · skip
                refine ⟨?_, ?_⟩
                · first | omega | (unfold xI; omega) | (exfalso; omega)
                refine ⟨?_, ?_⟩
                · first | omega | (unfold xI; omega) | (exfalso; omega)
                refine ⟨?_, ?_⟩
                · first | omega | (unfold xI; omega) | (exfalso; omega)
                refine ⟨fun c3 => ?_, fun c3 => ?_⟩
                · skip
                  refine ⟨?_, ?_⟩
                  · first | omega | (unfold xI; omega) | (exfalso; omega)
                  refine ⟨?_, ?_⟩
                  · first | omega | (unfold xI; omega) | (exfalso; omega)
                  refine ⟨fun c4 => ?_, fun c4 => ?_⟩
                  · skip
                    refine ⟨?_, ?_⟩
                    · first | omega | (unfold xI; omega) | (exfalso; omega)
                    exfalso
                    omega
                  · skip
                    refine ⟨?_, ?_⟩
                    · first | omega | (unfold xI; omega) | (exfalso; omega)
                    refine ⟨?_, ?_⟩
                    · first | omega | (unfold xI; omega) | (exfalso; omega)
                    refine ⟨?_, ?_⟩
                    · first | omega | (unfold xI; omega) | (exfalso; omega)
                    refine ⟨fun c5 => ?_, fun c5 => ?_⟩
                    · skip
                      refine ⟨?_, ?_⟩
                      · first | omega | (unfold xI; omega) | (exfalso; omega)
                      exfalso
                      omega
                    · skip
                      refine ⟨?_, ?_⟩
                      · first | omega | (unfold xI; omega) | (exfalso; omega)
                      refine ⟨?_, ?_⟩
                      · first | omega | (unfold xI; omega) | (exfalso; omega)
                      refine ⟨?_, ?_⟩
                      · first | omega | (unfold xI; omega) | (exfalso; omega)
                      refine ⟨?_, ?_⟩
                      · first | omega | (unfold xI; omega) | (exfalso; omega)
                      refine ⟨?_, ?_⟩
                      · first | omega | (unfold xI; omega) | (exfalso; omega)
                      exfalso
                      omega
                · skip
                  refine ⟨?_, ?_⟩
                  · first | omega | (unfold xI; omega) | (exfalso; omega)
                  exfalso
                  omega
          | succ k' ihd =>
            intro e m' h2 he e0 hf2 hP2
            have b67 := hf2.1 67 (by decide)
            have b68 := hf2.1 68 (by decide)
            have rg := hP2.rg e e0 (by omega)
            refine U_94_74 (by omega) f m' N c e h2 ?_
            rw [b67, b68]
            refine ⟨fun c1 => ?_, fun c1 => ?_⟩
            · skip
              refine ⟨?_, ?_⟩
              · first | omega | (unfold xI; omega) | (exfalso; omega)
              exfalso
              omega
            · skip
              refine ⟨?_, ?_⟩
              · first | omega | (unfold xI; omega) | (exfalso; omega)
              refine ⟨?_, ?_⟩
              · first | omega | (unfold xI; omega) | (exfalso; omega)
              refine ⟨?_, ?_⟩
              · first | omega | (unfold xI; omega) | (exfalso; omega)
              refine ⟨fun c2 => ?_, fun c2 => ?_⟩
              · skip
                refine ⟨?_, ?_⟩
                · first | omega | (unfold xI; omega) | (exfalso; omega)
                exact ih (c + 1) m' h2 (by omega) (by omega) hf2 (PI_row hP2 (Or.inr (by assumption)))
              · skip
                refine ⟨?_, ?_⟩
                · first | omega | (unfold xI; omega) | (exfalso; omega)
                refine ⟨?_, ?_⟩
                · first | omega | (unfold xI; omega) | (exfalso; omega)
                refine ⟨?_, ?_⟩
                · first | omega | (unfold xI; omega) | (exfalso; omega)
                refine ⟨fun c3 => ?_, fun c3 => ?_⟩
                · skip
                  refine ⟨?_, ?_⟩
                  · first | omega | (unfold xI; omega) | (exfalso; omega)
                  refine ⟨?_, ?_⟩
                  · first | omega | (unfold xI; omega) | (exfalso; omega)
                  refine ⟨fun c4 => ?_, fun c4 => ?_⟩
                  · skip
                    refine ⟨?_, ?_⟩
                    · first | omega | (unfold xI; omega) | (exfalso; omega)
                    exact ihd (e + 1) m' h2 (by omega) (by omega) hf2 (PI_skip hP2 (fun _ _ _ _ _ _ q => absurd q (by assumption)))
                  · skip
                    refine ⟨?_, ?_⟩
                    · first | omega | (unfold xI; omega) | (exfalso; omega)
                    refine ⟨?_, ?_⟩
                    · first | omega | (unfold xI; omega) | (exfalso; omega)
                    refine ⟨?_, ?_⟩
                    · first | omega | (unfold xI; omega) | (exfalso; omega)
                    refine ⟨fun c5 => ?_, fun c5 => ?_⟩
                    · skip
                      refine ⟨?_, ?_⟩
                      · first | omega | (unfold xI; omega) | (exfalso; omega)
                      exact ihd (e + 1) m' h2 (by omega) (by omega) hf2 (PI_skip hP2 (fun _ _ _ _ _ _ _ => ⟨by assumption, by omega⟩))
                    · skip
                      refine ⟨?_, ?_⟩
                      · first | omega | (unfold xI; omega) | (exfalso; omega)
                      refine ⟨?_, ?_⟩
                      · first | omega | (unfold xI; omega) | (exfalso; omega)
                      refine ⟨?_, ?_⟩
                      · first | omega | (unfold xI; omega) | (exfalso; omega)
                      refine ⟨?_, ?_⟩
                      · first | omega | (unfold xI; omega) | (exfalso; omega)
                      refine ⟨?_, ?_⟩
                      · first | omega | (unfold xI; omega) | (exfalso; omega)
                      refine ihd (e + 1) 1 _ (by omega) (by omega) ⟨fun o x => by rw [xup_ne x]; exact hf2.1 o x, fun k x => by rw [xup_k (by omega)]; exact hf2.2 k x⟩ ?_
                      exact PI_add hP2 N0 ⟨c0, by omega⟩ ⟨e0, by omega⟩ (Decidable.not_not.mp (by assumption)) (Decidable.not_not.mp (by assumption)) (Decidable.not_not.mp (by assumption)) (by assumption) (xup_self _ _ _ _) (fun x q => xup_k (by omega))
                · skip
                  refine ⟨?_, ?_⟩
                  · first | omega | (unfold xI; omega) | (exfalso; omega)
                  exact ihd (e + 1) m' h2 (by omega) (by omega) hf2 (PI_skip hP2 (fun _ _ _ _ _ q _ => absurd q (by assumption)))
        refine U_94_62 (by omega) f m N c h' ?_
        rw [a67]
        refine ⟨fun c1 => ?_, fun c1 => ?_⟩
        · skip
          refine ⟨?_, ?_⟩
          · first | omega | (unfold xI; omega) | (exfalso; omega)
          exfalso
          omega
        · skip
          exact keyD (H 67 1).toNat 0 m h' (by omega) (by decide) hf' hP
    refine U_94_53 (by omega) f 1 N h ?_
    refine ⟨fun c1 => ?_, fun c1 => ?_⟩
    · skip
      exfalso
      omega
    · skip
      exact keyC (H 67 1).toNat 0 0 h (by omega) (by decide) hf p0
  have keyN : ∀ (m : Nat) (i : Int) (h : XH), i + m = H 67 1 → 0 ≤ i → lfH H h f → (∀ c, 0 ≤ c → c < i → h 80 (64 * f + c) = if c = f ∧ H 68 (20 + c) = 0 then 0 else -1) → xq X d 94 Q 2 [(0, (2, 67)), (1, (0, f)), (2, (0, i))] [] h := by
    intro m
    induction m with
    | zero =>
      intro i h hm i0 hf k3
      have a67 := hf.1 67 (by decide)
      have k3' : ∀ c, 0 ≤ c → c < H 67 1 → h 80 (64 * f + c) = if c = f ∧ H 68 (20 + c) = 0 then 0 else -1 := fun c x y => k3 c x (by omega)
      refine U_94_2 (by omega) f i h ?_
      rw [a67]
      refine ⟨fun c1 => ?_, fun c1 => ?_⟩
      · skip
        refine keyL (H 67 1).toNat 0 h (by decide) hf ⟨fun c x y => ?_, fun c x y z => ?_, ?_, fun c x y z => ?_, fun c e x y _ _ z q => ?_, (cnA_rng (by omega) _).1⟩ (by have := cnA_rng (n := H 67 1) (by omega) (fun c => h 80 (64 * f + c)); omega)
        · dsimp only
          rw [k3' c x y]
          split
          · exact Or.inr ⟨by decide, by decide⟩
          · exact Or.inl rfl
        · dsimp only at z ⊢
          rw [k3' c x y, if_neg (fun q => z q.2)]
        · dsimp only
          rw [k3' f pf.1 pf.2]
          by_cases q : H 68 (20 + f) = 0
          · rw [if_pos ⟨rfl, q⟩, if_pos q]
          · rw [if_neg (fun z => q z.2), if_neg q]
        · dsimp only at z ⊢
          rw [k3' c x y] at z ⊢
          split at z
          · next q => exact Or.inl ⟨q.1, by rw [if_pos q]⟩
          · exact absurd rfl z
        · dsimp only at z q
          rw [k3' c x y] at z q
          split at z
          · next q2 =>
            rw [if_pos q2] at q
            exact absurd q (by decide)
          · exact absurd rfl z
      · skip
        refine ⟨?_, ?_⟩
        · first | omega | (unfold xI; omega) | (exfalso; omega)
        refine ⟨?_, ?_⟩
        · first | omega | (unfold xI; omega) | (exfalso; omega)
        refine ⟨fun c2 => ?_, fun c2 => ?_⟩
        · skip
          refine ⟨?_, ?_⟩
          · first | omega | (unfold xI; omega) | (exfalso; omega)
          refine ⟨?_, ?_⟩
          · first | omega | (unfold xI; omega) | (exfalso; omega)
          exfalso
          omega
        · skip
          refine ⟨?_, ?_⟩
          · first | omega | (unfold xI; omega) | (exfalso; omega)
          refine ⟨?_, ?_⟩
          · first | omega | (unfold xI; omega) | (exfalso; omega)
          refine ⟨fun c3 => ?_, fun c3 => ?_⟩
          · skip
            refine ⟨?_, ?_⟩
            · first | omega | (unfold xI; omega) | (exfalso; omega)
            refine ⟨?_, ?_⟩
            · first | omega | (unfold xI; omega) | (exfalso; omega)
            exfalso
            omega
          · skip
            refine ⟨?_, ?_⟩
            · first | omega | (unfold xI; omega) | (exfalso; omega)
            refine ⟨?_, ?_⟩
            · first | omega | (unfold xI; omega) | (exfalso; omega)
            exfalso
            omega
    | succ m ih =>
      intro i h hm i0 hf k3
      have a67 := hf.1 67 (by decide)
      have a68 := hf.1 68 (by decide)
      have nx : ∀ x, x = (if i = f ∧ H 68 (20 + i) = 0 then (0 : Int) else -1) → xq X d 94 Q 2 [(0, (2, 67)), (1, (0, f)), (2, (0, i + 1))] [] (xup h 80 (64 * f + i) x) := fun x hx => by
        refine ih (i + 1) _ (by omega) (by omega) ⟨fun o x => by rw [xup_ne x]; exact hf.1 o x, fun k x => by rw [xup_k (by omega)]; exact hf.2 k x⟩ (fun c x y => ?_)
        by_cases q : c = i
        · rw [q, xup_self]
          exact hx
        · rw [xup_k (by omega)]
          exact k3 c x (by omega)
      refine U_94_2 (by omega) f i h ?_
      rw [a67, a68]
      refine ⟨fun c1 => ?_, fun c1 => ?_⟩
      · skip
        exfalso
        omega
      · skip
        refine ⟨?_, ?_⟩
        · first | omega | (unfold xI; omega) | (exfalso; omega)
        refine ⟨?_, ?_⟩
        · first | omega | (unfold xI; omega) | (exfalso; omega)
        refine ⟨fun c2 => ?_, fun c2 => ?_⟩
        · skip
          refine ⟨?_, ?_⟩
          · first | omega | (unfold xI; omega) | (exfalso; omega)
          refine ⟨?_, ?_⟩
          · first | omega | (unfold xI; omega) | (exfalso; omega)
          exact nx _ (by rw [if_neg (by omega)])
        · skip
          refine ⟨?_, ?_⟩
          · first | omega | (unfold xI; omega) | (exfalso; omega)
          refine ⟨?_, ?_⟩
          · first | omega | (unfold xI; omega) | (exfalso; omega)
          refine ⟨fun c3 => ?_, fun c3 => ?_⟩
          · skip
            refine ⟨?_, ?_⟩
            · first | omega | (unfold xI; omega) | (exfalso; omega)
            refine ⟨?_, ?_⟩
            · first | omega | (unfold xI; omega) | (exfalso; omega)
            exact nx _ (by rw [if_neg (by omega)])
          · skip
            refine ⟨?_, ?_⟩
            · first | omega | (unfold xI; omega) | (exfalso; omega)
            refine ⟨?_, ?_⟩
            · first | omega | (unfold xI; omega) | (exfalso; omega)
            exact nx _ (by rw [if_pos (by omega)])
  refine U_94 (by omega) f H ?_
  exact keyN (H 67 1).toNat 0 H (by omega) (by decide) ⟨fun _ _ => rfl, fun _ _ => rfl⟩ (fun c x y => by omega)

theorem U_95 {X : Int × (Int → Int)} {d : Nat} {Q : Int → XH → Prop} (hd : 4 ≤ d) (a b : Int) (H : XH) (h : (-2147483648 < H 67 1 ∧ H 67 1 ≤ 2147483647) ∧ ((((0 ≤ a ∧ a < H 67 1)) → (-2147483648 < H 67 1 ∧ H 67 1 ≤ 2147483647) ∧ ((((0 ≤ b ∧ b < H 67 1)) → (GOk (H 67 0) (H 67 1) (H 68)) ∧ (0 ≤ a ∧ a < H 67 1) ∧ (∀ (h344 : XH), (lfH H h344 a ∧ DS (H 67 0) (H 67 1) (fun e => H 68 (20 + e)) a (fun c => h344 80 (64 * a + c))) → (xI (64 * a)) ∧ (xI ((64 * a) + b)) ∧ ((0 : Int) ≤ (64 * a) + b ∧ ((64 * a) + b : Int) < 4096) ∧ Q (h344 80 ((64 * a) + b)) h344)) ∧ (¬ ((0 ≤ b ∧ b < H 67 1)) → Q (-1) H))) ∧ (¬ ((0 ≤ a ∧ a < H 67 1)) → Q (-1) H))) : xc X (d + 1) 95 [(2, 67), (0, a), (0, b)] H Q := by
  refine ⟨rfl, ?_⟩
  show xq X d 95 Q 100000 [(0, (2, 67)), (1, (0, a)), (2, (0, b))] [] H
  refine xq_run [5, 13, 23] 300 ?_
  show xWM (xE X) xMC d 24 [(2, 67), (0, a)] xKZ H _
  refine xc_in (s_24 (by omega) a H (h.1) ?_)
  replace h := h.2
  show xq X d 95 Q 5 [(0, (2, 67)), (1, (0, a)), (2, (0, b))] [(0, xb (0 ≤ a ∧ a < H 67 1))] H
  refine xq_run [5, 13, 23] 300 ?_
  show ((xb (0 ≤ a ∧ a < H 67 1) = 0) → xfR 0 (-1) ∧ xKZ = xKZ ∧ Q (-1) H) ∧ (¬ (xb (0 ≤ a ∧ a < H 67 1) = 0) → xWM (xE X) xMC d 24 [(2, 67), (0, b)] xKZ H _)
  refine ⟨fun k_ => ?_, fun k_ => ?_⟩
  · replace h := h.2 (xbe_0.mp k_)
    exact ⟨trivial, rfl, h⟩
  · replace h := h.1 (xbe_1.mp k_)
    refine xc_in (s_24 (by omega) b H (h.1) ?_)
    replace h := h.2
    show xq X d 95 Q 13 [(0, (2, 67)), (1, (0, a)), (2, (0, b))] [(0, xb (0 ≤ b ∧ b < H 67 1))] H
    refine xq_run [5, 13, 23] 300 ?_
    show ((¬ xb (0 ≤ b ∧ b < H 67 1) = 0) → xWM (xE X) xMC d 94 [(2, 67), (0, a)] xKZ H _) ∧ (¬ (¬ xb (0 ≤ b ∧ b < H 67 1) = 0) → xfR 0 (-1) ∧ xKZ = xKZ ∧ Q (-1) H)
    refine ⟨fun k_ => ?_, fun k_ => ?_⟩
    · replace h := h.1 (xbe_1.mp k_)
      refine xc_in (s_94 (by omega) a H (h.1) (h.2.1) ?_)
      intro h344 q_0
      replace h := h.2.2 h344 q_0
      show xq X d 95 Q 23 [(0, (2, 67)), (1, (0, a)), (2, (0, b))] [] h344
      refine xq_run [5, 13, 23] 300 ?_
      show (xI (64 * a)) ∧ (xI ((64 * a) + b)) ∧ ((0 : Int) ≤ (64 * a) + b ∧ ((64 * a) + b : Int) < 4096) ∧ xfR 0 (h344 80 ((64 * a) + b)) ∧ xKZ = xKZ ∧ Q (h344 80 ((64 * a) + b)) h344
      refine ⟨h.1, ?_⟩
      replace h := h.2
      refine ⟨h.1, ?_⟩
      replace h := h.2
      refine ⟨h.1, ?_⟩
      replace h := h.2
      exact ⟨trivial, rfl, h⟩
    · replace h := h.2 (xbe_n.mp k_)
      exact ⟨trivial, rfl, h⟩

theorem s_95 {X : Int × (Int → Int)} {d : Nat} {Q : Int → XH → Prop} (hd : 8 ≤ d) (a b : Int) (H : XH) (hg : GOk (H 67 0) (H 67 1) (H 68)) (hQ : ∀ h1 : XH, frM H h1 → Q (vPc (H 67 0) (H 67 1) (H 68) a b) h1) : xc X d 95 [(2, 67), (0, a), (0, b)] H Q := by
  cases d with
  | zero => omega
  | succ d =>
  have nn := hg.nn
  have ww := hg.ww
  have lyb := hg.lyb
  have bnd := hg.bnd
  unfold vPc at hQ
  refine U_95 (by omega) a b H ?_
  refine ⟨?_, ?_⟩
  · first | omega | exact hg | (unfold xI; omega)
  refine ⟨fun c1 => ?_, fun c1 => ?_⟩
  · skip
    refine ⟨?_, ?_⟩
    · first | omega | exact hg | (unfold xI; omega)
    refine ⟨fun c2 => ?_, fun c2 => ?_⟩
    · skip
      refine ⟨?_, ?_⟩
      · first | omega | exact hg | (unfold xI; omega)
      refine ⟨?_, ?_⟩
      · first | omega | exact hg | (unfold xI; omega)
      intro h345 c3
      have uu := c3
      refine ⟨?_, ?_⟩
      · first | omega | exact hg | (unfold xI; omega)
      refine ⟨?_, ?_⟩
      · first | omega | exact hg | (unfold xI; omega)
      refine ⟨?_, ?_⟩
      · first | omega | exact hg | (unfold xI; omega)
      have k := hQ _ ⟨fun o x y => uu.1.1 o (by omega), fun k _ => by rw [uu.1.1 67 (by decide)]⟩
      rw [if_pos (by omega), ← DS_v uu.2 (by omega) (by omega)] at k
      exact k
    · skip
      have k := hQ _ (frM_refl H)
      rw [if_neg (by omega)] at k
      exact k
  · skip
    have k := hQ _ (frM_refl H)
    rw [if_neg (by omega)] at k
    exact k

theorem p_paces {X : Int × (Int → Int)} {d : Nat} (hd : 8 ≤ d) (a b : Int) (H : XH) (hi : InvS H) : xc X d 92 [(2, 0), (0, a), (0, b)] H (fun r H1 => xc X d 95 [(2, 67), (0, a), (0, b)] H1 (qOk H r)) :=
  s_92 (by omega) a b H hi (fun h1 f => s_95 (by omega) a b h1 (frC_S f hi).1 (fun h2 f' => ⟨by rw [f 67 (by decide) (by decide), f 68 (by decide) (by decide)], frQ_CM f f'⟩))
