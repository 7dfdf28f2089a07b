/-! THE PURE LAYER 43: the law is read, the class: sums -/
theorem gD_lt {a : List Int} {x : Int} {k : Nat} (h : k < a.length) : (a ++ [x]).getD k 0 = a.getD k 0 := by
  rw [List.getD_eq_getElem?_getD, List.getD_eq_getElem?_getD, List.getElem?_append_left h]
theorem gD_at (a : List Int) (x : Int) : (a ++ [x]).getD a.length 0 = x := by
  rw [List.getD_eq_getElem?_getD, List.getElem?_append_right (Nat.le_refl _), Nat.sub_self]
  rfl
/-- what is known of the tokens while they are read -/
def rTB (H0 : XH) : Prop := (0 ≤ H0 51 13 ∧ H0 51 13 ≤ 3) ∧ (0 ≤ H0 51 10 ∧ H0 51 10 ≤ 300) ∧ H0 55 (H0 51 10) = 21 ∧ (∀ i, 0 ≤ i → i ≤ H0 51 10 → 0 ≤ H0 55 i ∧ H0 55 i ≤ 42) ∧ ∀ i, 0 ≤ i → i < H0 51 10 → 0 ≤ H0 57 i ∧ H0 57 i ≤ 10000
/-- the reading stands at token i, the code is O -/
def rLS (H0 : XH) (ta lo i : Int) (O : List Int) (h : XH) : Prop := (∀ o, ¬ o = 51 → ¬ o = 53 → ¬ o = 54 → h o = H0 o) ∧ (∀ k, ¬ k = 11 → ¬ k = 12 → ¬ k = 14 → ¬ k = 15 → h 51 k = H0 51 k) ∧ h 51 11 = i ∧ h 51 12 = H0 55 i ∧ (h 51 14 = ta ∧ h 51 15 = lo) ∧ h 54 (H0 51 13) = (O.length : Int) ∧ (∀ k, ¬ k = H0 51 13 → h 54 k = H0 54 k) ∧ (∀ k : Nat, k < O.length → h 53 (300 * H0 51 13 + k) = O.getD k 0) ∧ (∀ k, ¬ (300 * H0 51 13 ≤ k ∧ k < 300 * H0 51 13 + 300) → h 53 k = H0 53 k)
/-- it has a fault f at token e -/
def rLF (H0 : XH) (f e : Int) (h : XH) : Prop := (∀ o, ¬ o = 51 → ¬ o = 53 → ¬ o = 54 → h o = H0 o) ∧ (∀ k, ¬ k = 5 → ¬ k = 6 → ¬ k = 11 → ¬ k = 12 → ¬ k = 14 → ¬ k = 15 → h 51 k = H0 51 k) ∧ h 51 5 = f ∧ h 51 6 = H0 56 e ∧ (∀ k, ¬ k = H0 51 13 → h 54 k = H0 54 k) ∧ (∀ k, ¬ (300 * H0 51 13 ≤ k ∧ k < 300 * H0 51 13 + 300) → h 53 k = H0 53 k)
theorem rLS_adv {H0 h : XH} {ta lo i : Int} {O : List Int} (L : rLS H0 ta lo i O h) : rLS H0 ta lo (i + 1) O (xup (xup h 51 11 (i + 1)) 51 12 (H0 55 (i + 1))) := by
  obtain ⟨a, b, c, e, f, g, k, l, m⟩ := L
  refine ⟨fun o p q r => by rw [xup_ne p, xup_ne p]; exact a o p q r, fun k p q r s => by rw [xup_k q, xup_k p]; exact b k p q r s, by rw [xup_k (by decide), xup_self], xup_self _ _ _ _, ⟨?_, ?_⟩, g, k, l, m⟩
  · rw [xup_k (by decide), xup_k (by decide)]
    exact f.1
  · rw [xup_k (by decide), xup_k (by decide)]
    exact f.2
theorem rLS_em {H0 h : XH} {ta lo i : Int} {O : List Int} (x : Int) (L : rLS H0 ta lo i O h) (hl : O.length < 300) : rLS H0 ta lo i (O ++ [x]) (xup (xup h 53 (H0 51 13 * 300 + (O.length : Int)) x) 54 (H0 51 13) ((O.length : Int) + 1)) := by
  obtain ⟨a, b, c, e, f, g, k, l, m⟩ := L
  refine ⟨fun o p q r => by rw [xup_ne r, xup_ne q]; exact a o p q r, b, c, e, f, ?_, fun j p => ?_, fun j p => ?_, fun j p => ?_⟩
  · rw [xup_self, List.length_append]
    rfl
  · rw [xup_k p, xup_ne (by decide)]
    exact k j p
  · rw [List.length_append] at p
    have p' : j < O.length + 1 := p
    rw [xup_ne (by decide)]
    by_cases q : j = O.length
    · rw [q, gD_at, show 300 * H0 51 13 + (O.length : Int) = H0 51 13 * 300 + (O.length : Int) by omega, xup_self]
    · rw [gD_lt (by omega), xup_k (by omega)]
      exact l j (by omega)
  · rw [xup_ne (by decide), xup_k (by omega)]
    exact m j p
theorem rLS_rf {H0 h : XH} {ta lo i : Int} {O : List Int} (f : Int) (L : rLS H0 ta lo i O h) : rLF H0 f i (xup (xup h 51 5 f) 51 6 (H0 56 i)) := by
  obtain ⟨a, b, c, e, g, l, k, m, n⟩ := L
  refine ⟨fun o p q r => by rw [xup_ne p, xup_ne p]; exact a o p q r, fun k p q r s t u => by rw [xup_k q, xup_k p]; exact b k r s t u, by rw [xup_k (by decide), xup_self], xup_self _ _ _ _, k, n⟩

theorem U_159 {X : Int × (Int → Int)} {d : Nat} {Q : Int → XH → Prop} (hd : 0 ≤ d) (f : Int) (H : XH) (h : ((0 : Int) ≤ H 51 11 ∧ (H 51 11 : Int) < 301) ∧ Q 0 (xup (xup H 51 5 f) 51 6 (H 56 (H 51 11)))) : xc X (d + 1) 159 [(2, 51), (0, f)] H Q := by
  refine ⟨rfl, ?_⟩
  show xq X d 159 Q 100000 [(0, (2, 51)), (1, (0, f))] [] H
  refine xq_run [] 300 ?_
  show ((0 : Int) ≤ H 51 11 ∧ (H 51 11 : Int) < 301) ∧ xfR 3 0 ∧ xKZ = xKZ ∧ Q 0 (xup (xup H 51 5 f) 51 6 (H 56 (H 51 11)))
  refine ⟨h.1, ?_⟩
  replace h := h.2
  exact ⟨xfR3_0, rfl, h⟩

theorem U_160 {X : Int × (Int → Int)} {d : Nat} {Q : Int → XH → Prop} (hd : 0 ≤ d) (H : XH) (h : ((H 51 10 ≤ H 51 11) → ((0 : Int) ≤ H 51 11 ∧ (H 51 11 : Int) < 301) ∧ Q 0 (xup H 51 12 (H 55 (H 51 11)))) ∧ (¬ (H 51 10 ≤ H 51 11) → (xI ((H 51 11) + 1)) ∧ ((0 : Int) ≤ (H 51 11) + 1 ∧ ((H 51 11) + 1 : Int) < 301) ∧ Q 0 (xup (xup H 51 11 ((H 51 11) + 1)) 51 12 (H 55 ((H 51 11) + 1))))) : xc X (d + 1) 160 [(2, 51)] H Q := by
  refine ⟨rfl, ?_⟩
  show xq X d 160 Q 100000 [(0, (2, 51))] [] H
  refine xq_run [] 300 ?_
  show ((H 51 10 ≤ H 51 11) → ((0 : Int) ≤ H 51 11 ∧ (H 51 11 : Int) < 301) ∧ xfR 2 0 ∧ xKZ = xKZ ∧ Q 0 (xup H 51 12 (H 55 (H 51 11)))) ∧ (¬ (H 51 10 ≤ H 51 11) → (xI ((H 51 11) + 1)) ∧ ((0 : Int) ≤ (H 51 11) + 1 ∧ ((H 51 11) + 1 : Int) < 301) ∧ xfR 2 0 ∧ xKZ = xKZ ∧ Q 0 (xup (xup H 51 11 ((H 51 11) + 1)) 51 12 (H 55 ((H 51 11) + 1))))
  refine ⟨fun k_ => ?_, fun k_ => ?_⟩
  · replace h := h.1 k_
    refine ⟨h.1, ?_⟩
    replace h := h.2
    exact ⟨trivial, rfl, h⟩
  · replace h := h.2 k_
    refine ⟨h.1, ?_⟩
    replace h := h.2
    refine ⟨h.1, ?_⟩
    replace h := h.2
    exact ⟨trivial, rfl, h⟩

theorem U_161 {X : Int × (Int → Int)} {d : Nat} {Q : Int → XH → Prop} (hd : 0 ≤ d) (x : Int) (H : XH) (h : ((0 : Int) ≤ H 51 13 ∧ (H 51 13 : Int) < 4) ∧ ((H 54 (H 51 13) < 300) → (xI ((H 51 13) * 300)) ∧ (xI (((H 51 13) * 300) + (H 54 (H 51 13)))) ∧ ((0 : Int) ≤ ((H 51 13) * 300) + (H 54 (H 51 13)) ∧ (((H 51 13) * 300) + (H 54 (H 51 13)) : Int) < 1200) ∧ (xI ((H 54 (H 51 13)) + 1)) ∧ ((0 : Int) ≤ H 51 13 ∧ (H 51 13 : Int) < 4) ∧ Q 0 (xup (xup H 53 (((H 51 13) * 300) + (H 54 (H 51 13))) x) 54 (H 51 13) ((H 54 (H 51 13)) + 1))) ∧ (¬ (H 54 (H 51 13) < 300) → Q 0 H)) : xc X (d + 1) 161 [(2, 51), (0, x)] H Q := by
  refine ⟨rfl, ?_⟩
  show xq X d 161 Q 100000 [(0, (2, 51)), (1, (0, x))] [] H
  refine xq_run [] 300 ?_
  show ((0 : Int) ≤ H 51 13 ∧ (H 51 13 : Int) < 4) ∧ ((H 54 (H 51 13) < 300) → (xI ((H 51 13) * 300)) ∧ (xI (((H 51 13) * 300) + (H 54 (H 51 13)))) ∧ ((0 : Int) ≤ ((H 51 13) * 300) + (H 54 (H 51 13)) ∧ (((H 51 13) * 300) + (H 54 (H 51 13)) : Int) < 1200) ∧ (xI ((H 54 (H 51 13)) + 1)) ∧ ((0 : Int) ≤ H 51 13 ∧ (H 51 13 : Int) < 4) ∧ xfR 2 0 ∧ xKZ = xKZ ∧ Q 0 (xup (xup H 53 (((H 51 13) * 300) + (H 54 (H 51 13))) x) 54 (H 51 13) ((H 54 (H 51 13)) + 1))) ∧ (¬ (H 54 (H 51 13) < 300) → xfR 2 0 ∧ xKZ = xKZ ∧ Q 0 H)
  refine ⟨h.1, ?_⟩
  replace h := h.2
  refine ⟨fun k_ => ?_, fun k_ => ?_⟩
  · replace h := h.1 k_
    refine ⟨h.1, ?_⟩
    replace h := h.2
    refine ⟨h.1, ?_⟩
    replace h := h.2
    refine ⟨h.1, ?_⟩
    replace h := h.2
    refine ⟨h.1, ?_⟩
    replace h := h.2
    refine ⟨h.1, ?_⟩
    replace h := h.2
    exact ⟨trivial, rfl, h⟩
  · replace h := h.2 k_
    exact ⟨trivial, rfl, h⟩

theorem s_159 {X : Int × (Int → Int)} {d : Nat} {Q : Int → XH → Prop} (hd : 1 ≤ d) (f : Int) {H0 H : XH} {ta lo i : Int} {O : List Int} (tb : rTB H0) (L : rLS H0 ta lo i O H) (pi : 0 ≤ i ∧ i ≤ H0 51 10) (hQ : ∀ h1, rLF H0 f i h1 → Q 0 h1) : xc X d 159 [(2, 51), (0, f)] H Q := by
  cases d with
  | zero => omega
  | succ d =>
  have z := hQ _ (rLS_rf f L)
  have t1 := tb.2.1
  have e56 := L.1 56 (by decide) (by decide) (by decide)
  have e11 := L.2.2.1
  rw [← e56] at z
  refine U_159 (by omega) f H ?_
  rw [e11]
  refine ⟨?_, ?_⟩
  · first | omega | (unfold xI; omega)
  exact z

theorem s_160 {X : Int × (Int → Int)} {d : Nat} {Q : Int → XH → Prop} (hd : 1 ≤ d) {H0 H : XH} {ta lo i : Int} {O : List Int} (tb : rTB H0) (L : rLS H0 ta lo i O H) (pi : 0 ≤ i ∧ i < H0 51 10) (hQ : ∀ h1, rLS H0 ta lo (i + 1) O h1 → Q 0 h1) : xc X d 160 [(2, 51)] H Q := by
  cases d with
  | zero => omega
  | succ d =>
  have z := hQ _ (rLS_adv L)
  have t1 := tb.2.1
  have e55 := L.1 55 (by decide) (by decide) (by decide)
  have e11 := L.2.2.1
  have e10 := L.2.1 10 (by decide) (by decide) (by decide) (by decide)
  rw [← e55] at z
  refine U_160 (by omega) H ?_
  rw [e11, e10]
  refine ⟨fun c1 => ?_, fun c1 => ?_⟩
  · skip
    refine ⟨?_, ?_⟩
    · first | omega | (unfold xI; omega)
    first | exact z | (exfalso; omega)
  · skip
    refine ⟨?_, ?_⟩
    · first | omega | (unfold xI; omega)
    refine ⟨?_, ?_⟩
    · first | omega | (unfold xI; omega)
    first | exact z | (exfalso; omega)

theorem s_161 {X : Int × (Int → Int)} {d : Nat} {Q : Int → XH → Prop} (hd : 1 ≤ d) {x : Int} {H0 H : XH} {ta lo i : Int} {O : List Int} (tb : rTB H0) (L : rLS H0 ta lo i O H) (hl : O.length < 300) (hQ : ∀ h1, rLS H0 ta lo i (O ++ [x]) h1 → Q 0 h1) : xc X d 161 [(2, 51), (0, x)] H Q := by
  cases d with
  | zero => omega
  | succ d =>
  have z := hQ _ (rLS_em x L hl)
  have t1 := tb.1
  have e13 := L.2.1 13 (by decide) (by decide) (by decide) (by decide)
  have e54 := L.2.2.2.2.2.1
  refine U_161 (by omega) x H ?_
  rw [e13, e54]
  refine ⟨?_, ?_⟩
  · first | omega | (unfold xI; omega)
  refine ⟨fun c1 => ?_, fun c1 => ?_⟩
  · skip
    refine ⟨?_, ?_⟩
    · first | omega | (unfold xI; omega)
    refine ⟨?_, ?_⟩
    · first | omega | (unfold xI; omega)
    refine ⟨?_, ?_⟩
    · first | omega | (unfold xI; omega)
    refine ⟨?_, ?_⟩
    · first | omega | (unfold xI; omega)
    refine ⟨?_, ?_⟩
    · first | omega | (unfold xI; omega)
    first | exact z | (exfalso; omega)
  · skip
    first | exact z | (exfalso; omega)

abbrev rMK (H0 : XH) : MS → MS → Prop := mR (H0 55) (H0 57) (H0 51 10)
/-- it failed, and so does the machine -/
def faP (H0 : XH) (s : MS) (h : XH) : Prop := ∃ (f e : Int) (s' : MS), (1 ≤ f ∧ f ≤ 5) ∧ (0 ≤ e ∧ e ≤ H0 51 10) ∧ rLF H0 f e h ∧ rMK H0 s s' ∧ s'.1 = 10 + f ∧ s'.2.1 = e
theorem faP_pre {H0 h : XH} {s s1 : MS} (m : rMK H0 s s1) (h1 : faP H0 s1 h) : faP H0 s h := by
  obtain ⟨f, e, s', a, b, c, k, l⟩ := h1
  exact ⟨f, e, s', a, b, c, mR_trans m k, l⟩
theorem faP_mk {H0 h : XH} {s s1 : MS} {f e o : Int} {F W : List (Int × Int)} {O : List Int} {C : List (Int × Int)} (hf : rLF H0 f e h) (f1 : 1 ≤ f ∧ f ≤ 5) (e1 : 0 ≤ e ∧ e ≤ H0 51 10) (m : rMK H0 s s1) (ok : mOk (H0 55) (H0 51 10) s1) (st : mStep (H0 55) (H0 57) s1 = mErr f e o F W O C) : faP H0 s h :=
  ⟨f, e, mErr f e o F W O C, f1, e1, hf, mR_trans m (mR_one ok st), rfl, rfl⟩
/-- frames that stand on one of a clause -/
def fP (F : List (Int × Int)) : Prop := ¬ F = [] ∧ ((F.getLastD (0, 0)).1 = 1 ∨ (F.getLastD (0, 0)).1 = 2)
theorem fP_rep {F : List (Int × Int)} (k : Int) (m : Nat) (h : fP F) : fP (mRep k m F) := by
  have z := mRep_last k m F h.1
  refine ⟨z.2, ?_⟩
  rw [z.1]
  exact h.2
theorem fP_cons {F : List (Int × Int)} (p : Int × Int) (h : fP F) : fP (p :: F) := by
  refine ⟨List.cons_ne_nil _ _, ?_⟩
  cases F with
  | nil => exact absurd rfl h.1
  | cons a b => exact h.2
theorem mOk_i {K : Int → Int} {T st i o : Int} {F W : List (Int × Int)} {O : List Int} {C : List (Int × Int)} (h1 : 0 ≤ st ∧ st ≤ 3) (h2 : 0 ≤ i ∧ i ≤ T) (h3 : 0 ≤ o ∧ o ≤ 8) (h4 : F.length ≤ 20) (h5 : W.length ≤ 40) (h6 : O.length ≤ 300) (h7 : 1 ≤ C.length ∧ C.length ≤ 10) (h8 : fP F) : mOk K T (st, i, o, F, W, O, C) :=
  ⟨⟨h1.1, by omega⟩, fun q => by omega, h2, h3, h4, h5, h6, h7.2, fun _ => h7.1, Or.inr h8⟩
/-- what holds where a one, a sum is read -/
def prO (H0 : XH) (i q : Int) (O : List Int) (F W C : List (Int × Int)) : Prop := (0 ≤ i ∧ i ≤ H0 51 10) ∧ (0 ≤ q ∧ q ≤ 8) ∧ (O.length : Int) ≤ i ∧ fP F ∧ (F.length : Int) ≤ q + 2 ∧ W.length ≤ 2 * F.length ∧ (1 ≤ C.length ∧ C.length ≤ 10) ∧ ¬ (mTop F).1 = 7 ∧ ∀ p ∈ W, p.2 ≤ (F.length : Int)
def prS (H0 : XH) (i q : Int) (O : List Int) (F W C : List (Int × Int)) : Prop := prO H0 i q O F W C ∧ W.length + 2 ≤ 2 * F.length ∧ ∀ p ∈ W, p.2 < (F.length : Int)
def okP (H0 : XH) (ta lo i : Int) (O : List Int) (D : Nat) (h : XH) (j : Int) (c : List Int) : Prop := rLS H0 ta lo j (O ++ c) h ∧ (i < j ∧ j ≤ H0 51 10) ∧ (c.length : Int) ≤ j - i ∧ suC D c
def onP (H0 : XH) (ta lo i q : Int) (O : List Int) (F W C : List (Int × Int)) (r : Int) (h : XH) : Prop := (r = 1 ∧ ∃ (j : Int) (c : List Int), okP H0 ta lo i O (17 - 2 * q).toNat h j c ∧ rMK H0 (1, i, q, F, W, O, C) (2, j, q, F, W, O ++ c, C)) ∨ (r = 0 ∧ faP H0 (1, i, q, F, W, O, C) h)
def suP (H0 : XH) (ta lo i q : Int) (O : List Int) (F W C : List (Int × Int)) (r : Int) (h : XH) : Prop := (r = 1 ∧ ∃ (j : Int) (c : List Int) (W' : List (Int × Int)) (Om : List Int), okP H0 ta lo i O (19 - 2 * q).toNat h j c ∧ ¬ (34 ≤ H0 55 j ∧ H0 55 j ≤ 37) ∧ mFl (mLen F) 3 W' Om = (W, O ++ c) ∧ W'.length ≤ W.length + 2 ∧ rMK H0 (1, i, q, F, W, O, C) (2, j, q, F, W', Om, C)) ∨ (r = 0 ∧ faP H0 (1, i, q, F, W, O, C) h)
def OnS (k : Nat) : Prop := ∀ (X : Int × (Int → Int)) (d : Nat) (Q : Int → XH → Prop), 2 * k + 7 ≤ d → ∀ (H0 : XH) (ta lo i q : Int) (O : List Int) (F W C : List (Int × Int)) (H : XH), rTB H0 → rLS H0 ta lo i O H → 8 - q ≤ k → prO H0 i q O F W C → (∀ r h1, onP H0 ta lo i q O F W C r h1 → Q r h1) → xc X d 162 [(2, 51), (0, q)] H Q
def SuS (k : Nat) : Prop := ∀ (X : Int × (Int → Int)) (d : Nat) (Q : Int → XH → Prop), 2 * k + 8 ≤ d → ∀ (H0 : XH) (ta lo i q : Int) (O : List Int) (F W C : List (Int × Int)) (H : XH), rTB H0 → rLS H0 ta lo i O H → 8 - q ≤ k → prS H0 i q O F W C → (∀ r h1, suP H0 ta lo i q O F W C r h1 → Q r h1) → xc X d 163 [(2, 51), (0, q)] H Q

theorem U_162 {X : Int × (Int → Int)} {d : Nat} {Q : Int → XH → Prop} (hd : 0 ≤ d) (q : Int) (H : XH) (h : xq X d 162 Q 2 [(0, (2, 51)), (1, (0, q)), (2, (0, q))] [] H) : xc X (d + 1) 162 [(2, 51), (0, q)] H Q := by
  refine ⟨rfl, ?_⟩
  show xq X d 162 Q 100000 [(0, (2, 51)), (1, (0, q))] [] H
  refine xq_run [2, 24, 41, 71, 85, 99, 114, 131, 143, 148, 155, 174, 179, 181, 193] 300 ?_
  show xq X d 162 Q 2 [(0, (2, 51)), (1, (0, q)), (2, (0, q))] [] H
  exact h
theorem U_162_2 {X : Int × (Int → Int)} {d : Nat} {Q : Int → XH → Prop} (hd : 1 ≤ d) (v1 v2 : Int) (H : XH) (h : ((¬ H 51 12 = 35) → ((¬ H 51 12 = 35) → ((¬ H 51 12 = 20) → ((((7 ≤ (H 51 12) ∧ (H 51 12) ≤ 17)) → (xI (10000 + (H 51 12))) ∧ (xc X d 161 [(2, 51), (0, 10000 + (H 51 12))] H (fun (J471 : Int) (h470 : XH) => (xc X d 160 [(2, 51)] h470 (fun (J473 : Int) (h472 : XH) => xq X d 162 Q 181 [(0, (2, 51)), (2, (0, v2)), (3, (0, v1))] [] h472))))) ∧ (¬ ((7 ≤ (H 51 12) ∧ (H 51 12) ≤ 17)) → ((H 51 12 = 38) → ((v2 < 8) → (xc X d 160 [(2, 51)] H (fun (J459 : Int) (h458 : XH) => (xI (v2 + 1)) ∧ (xc X d 163 [(2, 51), (0, v2 + 1)] h458 (fun (J461 : Int) (h460 : XH) => ((¬ J461 = 0) → ((h460 51 12 = 39) → (xc X d 160 [(2, 51)] h460 (fun (J463 : Int) (h462 : XH) => xq X d 162 Q 181 [(0, (2, 51)), (2, (0, v2)), (3, (0, v1))] [] h462))) ∧ (¬ (h460 51 12 = 39) → (xc X d 159 [(2, 51), (0, 1)] h460 (fun (J465 : Int) (h464 : XH) => (0 ≤ J465 ∧ J465 ≤ 1) ∧ Q J465 h464)))) ∧ (¬ (¬ J461 = 0) → Q 0 h460)))))) ∧ (¬ (v2 < 8) → (xc X d 159 [(2, 51), (0, 3)] H (fun (J467 : Int) (h466 : XH) => (0 ≤ J467 ∧ J467 ≤ 1) ∧ Q J467 h466)))) ∧ (¬ (H 51 12 = 38) → (xc X d 159 [(2, 51), (0, 1)] H (fun (J469 : Int) (h468 : XH) => (0 ≤ J469 ∧ J469 ≤ 1) ∧ Q J469 h468)))))) ∧ (¬ (¬ H 51 12 = 20) → ((0 : Int) ≤ H 51 11 ∧ (H 51 11 : Int) < 301) ∧ ((H 57 (H 51 11) ≤ 9999) → ((0 : Int) ≤ H 51 11 ∧ (H 51 11 : Int) < 301) ∧ (xc X d 161 [(2, 51), (0, H 57 (H 51 11))] H (fun (J475 : Int) (h474 : XH) => (xc X d 160 [(2, 51)] h474 (fun (J477 : Int) (h476 : XH) => xq X d 162 Q 181 [(0, (2, 51)), (2, (0, v2)), (3, (0, v1))] [] h476))))) ∧ (¬ (H 57 (H 51 11) ≤ 9999) → (xc X d 159 [(2, 51), (0, 2)] H (fun (J479 : Int) (h478 : XH) => (0 ≤ J479 ∧ J479 ≤ 1) ∧ Q J479 h478))))) ∧ (¬ (¬ H 51 12 = 35) → (xc X d 159 [(2, 51), (0, 3)] H (fun (J481 : Int) (h480 : XH) => (0 ≤ J481 ∧ J481 ≤ 1) ∧ Q J481 h480)))) ∧ (¬ (¬ H 51 12 = 35) → ((8 ≤ v2) → ((¬ H 51 12 = 35) → ((¬ H 51 12 = 20) → ((((7 ≤ (H 51 12) ∧ (H 51 12) ≤ 17)) → (xI (10000 + (H 51 12))) ∧ (xc X d 161 [(2, 51), (0, 10000 + (H 51 12))] H (fun (J495 : Int) (h494 : XH) => (xc X d 160 [(2, 51)] h494 (fun (J497 : Int) (h496 : XH) => xq X d 162 Q 181 [(0, (2, 51)), (2, (0, v2)), (3, (0, v1))] [] h496))))) ∧ (¬ ((7 ≤ (H 51 12) ∧ (H 51 12) ≤ 17)) → ((H 51 12 = 38) → ((v2 < 8) → (xc X d 160 [(2, 51)] H (fun (J483 : Int) (h482 : XH) => (xI (v2 + 1)) ∧ (xc X d 163 [(2, 51), (0, v2 + 1)] h482 (fun (J485 : Int) (h484 : XH) => ((¬ J485 = 0) → ((h484 51 12 = 39) → (xc X d 160 [(2, 51)] h484 (fun (J487 : Int) (h486 : XH) => xq X d 162 Q 181 [(0, (2, 51)), (2, (0, v2)), (3, (0, v1))] [] h486))) ∧ (¬ (h484 51 12 = 39) → (xc X d 159 [(2, 51), (0, 1)] h484 (fun (J489 : Int) (h488 : XH) => (0 ≤ J489 ∧ J489 ≤ 1) ∧ Q J489 h488)))) ∧ (¬ (¬ J485 = 0) → Q 0 h484)))))) ∧ (¬ (v2 < 8) → (xc X d 159 [(2, 51), (0, 3)] H (fun (J491 : Int) (h490 : XH) => (0 ≤ J491 ∧ J491 ≤ 1) ∧ Q J491 h490)))) ∧ (¬ (H 51 12 = 38) → (xc X d 159 [(2, 51), (0, 1)] H (fun (J493 : Int) (h492 : XH) => (0 ≤ J493 ∧ J493 ≤ 1) ∧ Q J493 h492)))))) ∧ (¬ (¬ H 51 12 = 20) → ((0 : Int) ≤ H 51 11 ∧ (H 51 11 : Int) < 301) ∧ ((H 57 (H 51 11) ≤ 9999) → ((0 : Int) ≤ H 51 11 ∧ (H 51 11 : Int) < 301) ∧ (xc X d 161 [(2, 51), (0, H 57 (H 51 11))] H (fun (J499 : Int) (h498 : XH) => (xc X d 160 [(2, 51)] h498 (fun (J501 : Int) (h500 : XH) => xq X d 162 Q 181 [(0, (2, 51)), (2, (0, v2)), (3, (0, v1))] [] h500))))) ∧ (¬ (H 57 (H 51 11) ≤ 9999) → (xc X d 159 [(2, 51), (0, 2)] H (fun (J503 : Int) (h502 : XH) => (0 ≤ J503 ∧ J503 ≤ 1) ∧ Q J503 h502))))) ∧ (¬ (¬ H 51 12 = 35) → (xc X d 159 [(2, 51), (0, 3)] H (fun (J505 : Int) (h504 : XH) => (0 ≤ J505 ∧ J505 ≤ 1) ∧ Q J505 h504)))) ∧ (¬ (8 ≤ v2) → (xI (v2 + 1)) ∧ (xc X d 160 [(2, 51)] H (fun (J507 : Int) (h506 : XH) => xq X d 162 Q 2 [(0, (2, 51)), (1, (0, v1)), (2, (0, v2 + 1))] [] h506))))) : xq X d 162 Q 2 [(0, (2, 51)), (1, (0, v1)), (2, (0, v2))] [] H := by
  show xq X d 162 Q 2 [(0, (2, 51)), (1, (0, v1)), (2, (0, v2))] [] H
  refine xq_run [2, 24, 41, 71, 85, 99, 114, 131, 143, 148, 155, 174, 179, 181, 193] 300 ?_
  show ((¬ H 51 12 = 35) → ((¬ H 51 12 = 35) → ((¬ H 51 12 = 20) → xWM (xE X) xMC d 19 [(0, H 51 12), (0, 7), (0, 17)] xKZ H _) ∧ (¬ (¬ H 51 12 = 20) → ((0 : Int) ≤ H 51 11 ∧ (H 51 11 : Int) < 301) ∧ ((H 57 (H 51 11) ≤ 9999) → ((0 : Int) ≤ H 51 11 ∧ (H 51 11 : Int) < 301) ∧ xWM (xE X) xMC d 161 [(2, 51), (0, H 57 (H 51 11))] xKZ H _) ∧ (¬ (H 57 (H 51 11) ≤ 9999) → xWM (xE X) xMC d 159 [(2, 51), (0, 2)] xKZ H _))) ∧ (¬ (¬ H 51 12 = 35) → xWM (xE X) xMC d 159 [(2, 51), (0, 3)] xKZ H _)) ∧ (¬ (¬ H 51 12 = 35) → ((8 ≤ v2) → ((¬ H 51 12 = 35) → ((¬ H 51 12 = 20) → xWM (xE X) xMC d 19 [(0, H 51 12), (0, 7), (0, 17)] xKZ H _) ∧ (¬ (¬ H 51 12 = 20) → ((0 : Int) ≤ H 51 11 ∧ (H 51 11 : Int) < 301) ∧ ((H 57 (H 51 11) ≤ 9999) → ((0 : Int) ≤ H 51 11 ∧ (H 51 11 : Int) < 301) ∧ xWM (xE X) xMC d 161 [(2, 51), (0, H 57 (H 51 11))] xKZ H _) ∧ (¬ (H 57 (H 51 11) ≤ 9999) → xWM (xE X) xMC d 159 [(2, 51), (0, 2)] xKZ H _))) ∧ (¬ (¬ H 51 12 = 35) → xWM (xE X) xMC d 159 [(2, 51), (0, 3)] xKZ H _)) ∧ (¬ (8 ≤ v2) → (xI (v2 + 1)) ∧ xWM (xE X) xMC d 160 [(2, 51)] xKZ H _))
  refine ⟨fun k_ => ?_, fun k_ => ?_⟩
  · replace h := h.1 k_
    refine ⟨fun k_ => ?_, fun k_ => ?_⟩
    · replace h := h.1 k_
      refine ⟨fun k_ => ?_, fun k_ => ?_⟩
      · replace h := h.1 k_
        refine xc_in (s_19 (by omega) (H 51 12) 7 17 H  ?_)
        replace h := h
        show xq X d 162 Q 99 [(0, (2, 51)), (1, (0, v1)), (2, (0, v2))] [(0, xb (7 ≤ (H 51 12) ∧ (H 51 12) ≤ 17))] H
        refine xq_run [2, 24, 41, 71, 85, 99, 114, 131, 143, 148, 155, 174, 179, 181, 193] 300 ?_
        show ((xb (7 ≤ (H 51 12) ∧ (H 51 12) ≤ 17) = 0) → ((H 51 12 = 38) → ((v2 < 8) → xWM (xE X) xMC d 160 [(2, 51)] xKZ H _) ∧ (¬ (v2 < 8) → xWM (xE X) xMC d 159 [(2, 51), (0, 3)] xKZ H _)) ∧ (¬ (H 51 12 = 38) → xWM (xE X) xMC d 159 [(2, 51), (0, 1)] xKZ H _)) ∧ (¬ (xb (7 ≤ (H 51 12) ∧ (H 51 12) ≤ 17) = 0) → (xI (10000 + (H 51 12))) ∧ xWM (xE X) xMC d 161 [(2, 51), (0, 10000 + (H 51 12))] xKZ H _)
        refine ⟨fun k_ => ?_, fun k_ => ?_⟩
        · replace h := h.2 (xbe_0.mp k_)
          refine ⟨fun k_ => ?_, fun k_ => ?_⟩
          · replace h := h.1 k_
            refine ⟨fun k_ => ?_, fun k_ => ?_⟩
            · replace h := h.1 k_
              refine xc_in (xc_mono (fun J459 h458 q_ => ?_) h)
              replace h := q_
              show xq X d 162 Q 148 [(0, (2, 51)), (1, (0, v1)), (2, (0, v2))] [] h458
              refine xq_run [2, 24, 41, 71, 85, 99, 114, 131, 143, 148, 155, 174, 179, 181, 193] 300 ?_
              show (xI (v2 + 1)) ∧ xWM (xE X) xMC d 163 [(2, 51), (0, v2 + 1)] xKZ h458 _
              refine ⟨h.1, ?_⟩
              replace h := h.2
              refine xc_in (xc_mono (fun J461 h460 q_ => ?_) h)
              replace h := q_
              show xq X d 162 Q 155 [(0, (2, 51)), (1, (0, v1)), (2, (0, v2))] [(0, J461)] h460
              refine xq_run [2, 24, 41, 71, 85, 99, 114, 131, 143, 148, 155, 174, 179, 181, 193] 300 ?_
              show ((¬ J461 = 0) → ((h460 51 12 = 39) → xWM (xE X) xMC d 160 [(2, 51)] xKZ h460 _) ∧ (¬ (h460 51 12 = 39) → xWM (xE X) xMC d 159 [(2, 51), (0, 1)] xKZ h460 _)) ∧ (¬ (¬ J461 = 0) → xfR 3 0 ∧ xKZ = xKZ ∧ Q 0 h460)
              refine ⟨fun k_ => ?_, fun k_ => ?_⟩
              · replace h := h.1 k_
                refine ⟨fun k_ => ?_, fun k_ => ?_⟩
                · replace h := h.1 k_
                  refine xc_in (xc_mono (fun J463 h462 q_ => ?_) h)
                  replace h := q_
                  show xq X d 162 Q 179 [(0, (2, 51)), (1, (0, v1)), (2, (0, v2))] [] h462
                  refine xq_run [2, 24, 41, 71, 85, 99, 114, 131, 143, 148, 155, 174, 179, 181, 193] 300 ?_
                  show xq X d 162 Q 181 [(0, (2, 51)), (2, (0, v2)), (3, (0, v1))] [] h462
                  exact h
                · replace h := h.2 k_
                  refine xc_in (xc_mono (fun J465 h464 q_ => ?_) h)
                  replace h := q_
                  show xq X d 162 Q 174 [(0, (2, 51)), (1, (0, v1)), (2, (0, v2))] [(0, J465)] h464
                  refine xq_run [2, 24, 41, 71, 85, 99, 114, 131, 143, 148, 155, 174, 179, 181, 193] 300 ?_
                  show xfR 3 J465 ∧ xKZ = xKZ ∧ Q J465 h464
                  exact ⟨h.1, rfl, h.2⟩
              · replace h := h.2 k_
                exact ⟨xfR3_0, rfl, h⟩
            · replace h := h.2 k_
              refine xc_in (xc_mono (fun J467 h466 q_ => ?_) h)
              replace h := q_
              show xq X d 162 Q 143 [(0, (2, 51)), (1, (0, v1)), (2, (0, v2))] [(0, J467)] h466
              refine xq_run [2, 24, 41, 71, 85, 99, 114, 131, 143, 148, 155, 174, 179, 181, 193] 300 ?_
              show xfR 3 J467 ∧ xKZ = xKZ ∧ Q J467 h466
              exact ⟨h.1, rfl, h.2⟩
          · replace h := h.2 k_
            refine xc_in (xc_mono (fun J469 h468 q_ => ?_) h)
            replace h := q_
            show xq X d 162 Q 131 [(0, (2, 51)), (1, (0, v1)), (2, (0, v2))] [(0, J469)] h468
            refine xq_run [2, 24, 41, 71, 85, 99, 114, 131, 143, 148, 155, 174, 179, 181, 193] 300 ?_
            show xfR 3 J469 ∧ xKZ = xKZ ∧ Q J469 h468
            exact ⟨h.1, rfl, h.2⟩
        · replace h := h.1 (xbe_1.mp k_)
          refine ⟨h.1, ?_⟩
          replace h := h.2
          refine xc_in (xc_mono (fun J471 h470 q_ => ?_) h)
          replace h := q_
          show xq X d 162 Q 114 [(0, (2, 51)), (1, (0, v1)), (2, (0, v2))] [] h470
          refine xq_run [2, 24, 41, 71, 85, 99, 114, 131, 143, 148, 155, 174, 179, 181, 193] 300 ?_
          show xWM (xE X) xMC d 160 [(2, 51)] xKZ h470 _
          refine xc_in (xc_mono (fun J473 h472 q_ => ?_) h)
          replace h := q_
          show xq X d 162 Q 179 [(0, (2, 51)), (1, (0, v1)), (2, (0, v2))] [] h472
          refine xq_run [2, 24, 41, 71, 85, 99, 114, 131, 143, 148, 155, 174, 179, 181, 193] 300 ?_
          show xq X d 162 Q 181 [(0, (2, 51)), (2, (0, v2)), (3, (0, v1))] [] h472
          exact h
      · replace h := h.2 k_
        refine ⟨h.1, ?_⟩
        replace h := h.2
        refine ⟨fun k_ => ?_, fun k_ => ?_⟩
        · replace h := h.1 k_
          refine ⟨h.1, ?_⟩
          replace h := h.2
          refine xc_in (xc_mono (fun J475 h474 q_ => ?_) h)
          replace h := q_
          show xq X d 162 Q 85 [(0, (2, 51)), (1, (0, v1)), (2, (0, v2))] [] h474
          refine xq_run [2, 24, 41, 71, 85, 99, 114, 131, 143, 148, 155, 174, 179, 181, 193] 300 ?_
          show xWM (xE X) xMC d 160 [(2, 51)] xKZ h474 _
          refine xc_in (xc_mono (fun J477 h476 q_ => ?_) h)
          replace h := q_
          show xq X d 162 Q 179 [(0, (2, 51)), (1, (0, v1)), (2, (0, v2))] [] h476
          refine xq_run [2, 24, 41, 71, 85, 99, 114, 131, 143, 148, 155, 174, 179, 181, 193] 300 ?_
          show xq X d 162 Q 181 [(0, (2, 51)), (2, (0, v2)), (3, (0, v1))] [] h476
          exact h
        · replace h := h.2 k_
          refine xc_in (xc_mono (fun J479 h478 q_ => ?_) h)
          replace h := q_
          show xq X d 162 Q 71 [(0, (2, 51)), (1, (0, v1)), (2, (0, v2))] [(0, J479)] h478
          refine xq_run [2, 24, 41, 71, 85, 99, 114, 131, 143, 148, 155, 174, 179, 181, 193] 300 ?_
          show xfR 3 J479 ∧ xKZ = xKZ ∧ Q J479 h478
          exact ⟨h.1, rfl, h.2⟩
    · replace h := h.2 k_
      refine xc_in (xc_mono (fun J481 h480 q_ => ?_) h)
      replace h := q_
      show xq X d 162 Q 41 [(0, (2, 51)), (1, (0, v1)), (2, (0, v2))] [(0, J481)] h480
      refine xq_run [2, 24, 41, 71, 85, 99, 114, 131, 143, 148, 155, 174, 179, 181, 193] 300 ?_
      show xfR 3 J481 ∧ xKZ = xKZ ∧ Q J481 h480
      exact ⟨h.1, rfl, h.2⟩
  · replace h := h.2 k_
    refine ⟨fun k_ => ?_, fun k_ => ?_⟩
    · replace h := h.1 k_
      refine ⟨fun k_ => ?_, fun k_ => ?_⟩
      · replace h := h.1 k_
        refine ⟨fun k_ => ?_, fun k_ => ?_⟩
        · replace h := h.1 k_
          refine xc_in (s_19 (by omega) (H 51 12) 7 17 H  ?_)
          replace h := h
          show xq X d 162 Q 99 [(0, (2, 51)), (1, (0, v1)), (2, (0, v2))] [(0, xb (7 ≤ (H 51 12) ∧ (H 51 12) ≤ 17))] H
          refine xq_run [2, 24, 41, 71, 85, 99, 114, 131, 143, 148, 155, 174, 179, 181, 193] 300 ?_
          show ((xb (7 ≤ (H 51 12) ∧ (H 51 12) ≤ 17) = 0) → ((H 51 12 = 38) → ((v2 < 8) → xWM (xE X) xMC d 160 [(2, 51)] xKZ H _) ∧ (¬ (v2 < 8) → xWM (xE X) xMC d 159 [(2, 51), (0, 3)] xKZ H _)) ∧ (¬ (H 51 12 = 38) → xWM (xE X) xMC d 159 [(2, 51), (0, 1)] xKZ H _)) ∧ (¬ (xb (7 ≤ (H 51 12) ∧ (H 51 12) ≤ 17) = 0) → (xI (10000 + (H 51 12))) ∧ xWM (xE X) xMC d 161 [(2, 51), (0, 10000 + (H 51 12))] xKZ H _)
          refine ⟨fun k_ => ?_, fun k_ => ?_⟩
          · replace h := h.2 (xbe_0.mp k_)
            refine ⟨fun k_ => ?_, fun k_ => ?_⟩
            · replace h := h.1 k_
              refine ⟨fun k_ => ?_, fun k_ => ?_⟩
              · replace h := h.1 k_
                refine xc_in (xc_mono (fun J483 h482 q_ => ?_) h)
                replace h := q_
                show xq X d 162 Q 148 [(0, (2, 51)), (1, (0, v1)), (2, (0, v2))] [] h482
                refine xq_run [2, 24, 41, 71, 85, 99, 114, 131, 143, 148, 155, 174, 179, 181, 193] 300 ?_
                show (xI (v2 + 1)) ∧ xWM (xE X) xMC d 163 [(2, 51), (0, v2 + 1)] xKZ h482 _
                refine ⟨h.1, ?_⟩
                replace h := h.2
                refine xc_in (xc_mono (fun J485 h484 q_ => ?_) h)
                replace h := q_
                show xq X d 162 Q 155 [(0, (2, 51)), (1, (0, v1)), (2, (0, v2))] [(0, J485)] h484
                refine xq_run [2, 24, 41, 71, 85, 99, 114, 131, 143, 148, 155, 174, 179, 181, 193] 300 ?_
                show ((¬ J485 = 0) → ((h484 51 12 = 39) → xWM (xE X) xMC d 160 [(2, 51)] xKZ h484 _) ∧ (¬ (h484 51 12 = 39) → xWM (xE X) xMC d 159 [(2, 51), (0, 1)] xKZ h484 _)) ∧ (¬ (¬ J485 = 0) → xfR 3 0 ∧ xKZ = xKZ ∧ Q 0 h484)
                refine ⟨fun k_ => ?_, fun k_ => ?_⟩
                · replace h := h.1 k_
                  refine ⟨fun k_ => ?_, fun k_ => ?_⟩
                  · replace h := h.1 k_
                    refine xc_in (xc_mono (fun J487 h486 q_ => ?_) h)
                    replace h := q_
                    show xq X d 162 Q 179 [(0, (2, 51)), (1, (0, v1)), (2, (0, v2))] [] h486
                    refine xq_run [2, 24, 41, 71, 85, 99, 114, 131, 143, 148, 155, 174, 179, 181, 193] 300 ?_
                    show xq X d 162 Q 181 [(0, (2, 51)), (2, (0, v2)), (3, (0, v1))] [] h486
                    exact h
                  · replace h := h.2 k_
                    refine xc_in (xc_mono (fun J489 h488 q_ => ?_) h)
                    replace h := q_
                    show xq X d 162 Q 174 [(0, (2, 51)), (1, (0, v1)), (2, (0, v2))] [(0, J489)] h488
                    refine xq_run [2, 24, 41, 71, 85, 99, 114, 131, 143, 148, 155, 174, 179, 181, 193] 300 ?_
                    show xfR 3 J489 ∧ xKZ = xKZ ∧ Q J489 h488
                    exact ⟨h.1, rfl, h.2⟩
                · replace h := h.2 k_
                  exact ⟨xfR3_0, rfl, h⟩
              · replace h := h.2 k_
                refine xc_in (xc_mono (fun J491 h490 q_ => ?_) h)
                replace h := q_
                show xq X d 162 Q 143 [(0, (2, 51)), (1, (0, v1)), (2, (0, v2))] [(0, J491)] h490
                refine xq_run [2, 24, 41, 71, 85, 99, 114, 131, 143, 148, 155, 174, 179, 181, 193] 300 ?_
                show xfR 3 J491 ∧ xKZ = xKZ ∧ Q J491 h490
                exact ⟨h.1, rfl, h.2⟩
            · replace h := h.2 k_
              refine xc_in (xc_mono (fun J493 h492 q_ => ?_) h)
              replace h := q_
              show xq X d 162 Q 131 [(0, (2, 51)), (1, (0, v1)), (2, (0, v2))] [(0, J493)] h492
              refine xq_run [2, 24, 41, 71, 85, 99, 114, 131, 143, 148, 155, 174, 179, 181, 193] 300 ?_
              show xfR 3 J493 ∧ xKZ = xKZ ∧ Q J493 h492
              exact ⟨h.1, rfl, h.2⟩
          · replace h := h.1 (xbe_1.mp k_)
            refine ⟨h.1, ?_⟩
            replace h := h.2
            refine xc_in (xc_mono (fun J495 h494 q_ => ?_) h)
            replace h := q_
            show xq X d 162 Q 114 [(0, (2, 51)), (1, (0, v1)), (2, (0, v2))] [] h494
            refine xq_run [2, 24, 41, 71, 85, 99, 114, 131, 143, 148, 155, 174, 179, 181, 193] 300 ?_
            show xWM (xE X) xMC d 160 [(2, 51)] xKZ h494 _
            refine xc_in (xc_mono (fun J497 h496 q_ => ?_) h)
            replace h := q_
            show xq X d 162 Q 179 [(0, (2, 51)), (1, (0, v1)), (2, (0, v2))] [] h496
            refine xq_run [2, 24, 41, 71, 85, 99, 114, 131, 143, 148, 155, 174, 179, 181, 193] 300 ?_
            show xq X d 162 Q 181 [(0, (2, 51)), (2, (0, v2)), (3, (0, v1))] [] h496
            exact h
        · replace h := h.2 k_
          refine ⟨h.1, ?_⟩
          replace h := h.2
          refine ⟨fun k_ => ?_, fun k_ => ?_⟩
          · replace h := h.1 k_
            refine ⟨h.1, ?_⟩
            replace h := h.2
            refine xc_in (xc_mono (fun J499 h498 q_ => ?_) h)
            replace h := q_
            show xq X d 162 Q 85 [(0, (2, 51)), (1, (0, v1)), (2, (0, v2))] [] h498
            refine xq_run [2, 24, 41, 71, 85, 99, 114, 131, 143, 148, 155, 174, 179, 181, 193] 300 ?_
            show xWM (xE X) xMC d 160 [(2, 51)] xKZ h498 _
            refine xc_in (xc_mono (fun J501 h500 q_ => ?_) h)
            replace h := q_
            show xq X d 162 Q 179 [(0, (2, 51)), (1, (0, v1)), (2, (0, v2))] [] h500
            refine xq_run [2, 24, 41, 71, 85, 99, 114, 131, 143, 148, 155, 174, 179, 181, 193] 300 ?_
            show xq X d 162 Q 181 [(0, (2, 51)), (2, (0, v2)), (3, (0, v1))] [] h500
            exact h
          · replace h := h.2 k_
            refine xc_in (xc_mono (fun J503 h502 q_ => ?_) h)
            replace h := q_
            show xq X d 162 Q 71 [(0, (2, 51)), (1, (0, v1)), (2, (0, v2))] [(0, J503)] h502
            refine xq_run [2, 24, 41, 71, 85, 99, 114, 131, 143, 148, 155, 174, 179, 181, 193] 300 ?_
            show xfR 3 J503 ∧ xKZ = xKZ ∧ Q J503 h502
            exact ⟨h.1, rfl, h.2⟩
      · replace h := h.2 k_
        refine xc_in (xc_mono (fun J505 h504 q_ => ?_) h)
        replace h := q_
        show xq X d 162 Q 41 [(0, (2, 51)), (1, (0, v1)), (2, (0, v2))] [(0, J505)] h504
        refine xq_run [2, 24, 41, 71, 85, 99, 114, 131, 143, 148, 155, 174, 179, 181, 193] 300 ?_
        show xfR 3 J505 ∧ xKZ = xKZ ∧ Q J505 h504
        exact ⟨h.1, rfl, h.2⟩
    · replace h := h.2 k_
      refine ⟨h.1, ?_⟩
      replace h := h.2
      refine xc_in (xc_mono (fun J507 h506 q_ => ?_) h)
      replace h := q_
      show xq X d 162 Q 24 [(2, (0, v2 + 1)), (0, (2, 51)), (1, (0, v1))] [] h506
      refine xq_run [2, 24, 41, 71, 85, 99, 114, 131, 143, 148, 155, 174, 179, 181, 193] 300 ?_
      show xq X d 162 Q 2 [(0, (2, 51)), (1, (0, v1)), (2, (0, v2 + 1))] [] h506
      exact h
theorem U_162_181 {X : Int × (Int → Int)} {d : Nat} {Q : Int → XH → Prop} (hd : 0 ≤ d) (v2 v3 : Int) (H : XH) (h : ((v2 ≤ v3) → Q 1 H) ∧ (¬ (v2 ≤ v3) → (xc X d 161 [(2, 51), (0, 10043)] H (fun (J509 : Int) (h508 : XH) => (xI (v3 + 1)) ∧ xq X d 162 Q 181 [(0, (2, 51)), (2, (0, v2)), (3, (0, v3 + 1))] [] h508)))) : xq X d 162 Q 181 [(0, (2, 51)), (2, (0, v2)), (3, (0, v3))] [] H := by
  show xq X d 162 Q 181 [(0, (2, 51)), (2, (0, v2)), (3, (0, v3))] [] H
  refine xq_run [2, 24, 41, 71, 85, 99, 114, 131, 143, 148, 155, 174, 179, 181, 193] 300 ?_
  show ((v2 ≤ v3) → xfR 3 1 ∧ xKZ = xKZ ∧ Q 1 H) ∧ (¬ (v2 ≤ v3) → xWM (xE X) xMC d 161 [(2, 51), (0, 10043)] xKZ H _)
  refine ⟨fun k_ => ?_, fun k_ => ?_⟩
  · replace h := h.1 k_
    exact ⟨xfR3_1, rfl, h⟩
  · replace h := h.2 k_
    refine xc_in (xc_mono (fun J509 h508 q_ => ?_) h)
    replace h := q_
    show xq X d 162 Q 193 [(0, (2, 51)), (2, (0, v2)), (3, (0, v3))] [] h508
    refine xq_run [2, 24, 41, 71, 85, 99, 114, 131, 143, 148, 155, 174, 179, 181, 193] 300 ?_
    show (xI (v3 + 1)) ∧ xq X d 162 Q 181 [(0, (2, 51)), (2, (0, v2)), (3, (0, v3 + 1))] [] h508
    refine ⟨h.1, ?_⟩
    replace h := h.2
    exact h

theorem On_of (k : Nat) (hS : ∀ k', k' + 1 = k → SuS k') : OnS k := by
  intro X d Q hd H0 ta lo i q O F W C H tb L0 hk pr hQ
  cases d with
  | zero => omega
  | succ d =>
  obtain ⟨i1, q1, O1, f1, f2, w1, cC, f7, wF⟩ := pr
  have t1 := tb.1
  have t2 := tb.2.1
  -- minus signs behind it
  refine U_162 (by omega) q H ?_
  have key : ∀ (n m : Nat), q + m + n = 8 → ∀ h, rLS H0 ta lo (i + m) O h → i + m ≤ H0 51 10 → rMK H0 (1, i, q, F, W, O, C) (1, i + m, q + m, mRep 7 m F, W, O, C) → xq X d 162 Q 2 [(0, (2, 51)), (1, (0, q)), (2, (0, q + m))] [] h := by
    intro n
    induction n with
    | zero =>
      intro m hm h L_H im ms
      have k12 : h 51 12 = H0 55 (i + m) := L_H.2.2.2.1
      have k11 : h 51 11 = i + m := L_H.2.2.1
      have k57 : h 57 = H0 57 := L_H.1 57 (by decide) (by decide) (by decide)
      have fm := fP_rep 7 m f1
      have ml := mRep_len 7 m F
      have iT : ¬ H0 55 (i + m) = 21 → i + m < H0 51 10 := fun z => by
        by_cases y : i + m = H0 51 10
        · exact absurd (by rw [y]; exact tb.2.2.1) z
        · omega
      have ok1 : mOk (H0 55) (H0 51 10) (1, i + m, q + m, mRep 7 m F, W, O, C) := mOk_i (by decide) (by omega) (by omega) (by omega) (by omega) (by omega) cC fm
      have tk := tb.2.2.2.1 (i + m) (by omega) (by omega)
      have tn := tb.2.2.2.2 (i + m) (by omega)
      have keyN : ∀ (j : Int) (O1 : List Int) (h : XH), rLS H0 ta lo j O1 h → ((O1.length : Int) + m ≤ j ∧ j ≤ H0 51 10) → (∀ h1, rLS H0 ta lo j (O1 ++ mYs 10043 m) h1 → Q 1 h1) → xq X d 162 Q 181 [(0, (2, 51)), (2, (0, q + m)), (3, (0, q))] [] h := by
        intro j O1 h Lh jl hq
        have inn : ∀ (n n' : Nat), n' + n = m → ∀ h, rLS H0 ta lo j (O1 ++ mYs 10043 n') h → xq X d 162 Q 181 [(0, (2, 51)), (2, (0, q + m)), (3, (0, q + n'))] [] h := by
          intro n
          induction n with
          | zero =>
            intro n' hn h L_H
            have e : n' = m := by omega
            refine U_162_181 (by omega) (q + m) (q + n') h ?_
            refine ⟨fun c1 => ?_, fun c1 => ?_⟩
            · skip
              rw [e] at L_H
              exact hq h L_H
            · skip
              exfalso
              omega
          | succ n ihn =>
            intro n' hn h L_H
            have yl := mYs_len 10043 n'
            have lt : (O1 ++ mYs 10043 n').length < 300 := by
              rw [List.length_append, yl]
              omega
            refine U_162_181 (by omega) (q + m) (q + n') h ?_
            refine ⟨fun c1 => ?_, fun c1 => ?_⟩
            · skip
              exfalso
              omega
            · skip
              refine s_161 (by omega) tb L_H lt (fun h612 L_h612 => ?_)
              refine ⟨?_, ?_⟩
              · first | omega | (unfold xI; omega) | (exfalso; omega)
              have nx := ihn (n' + 1) (by omega) _ (by rw [← mYs_s, ← List.append_assoc]; exact L_h612)
              rw [show q + ((n' + 1 : Nat) : Int) = q + n' + 1 by omega] at nx
              exact nx
        have z := inn m 0 (by omega) h (by show rLS H0 ta lo j (O1 ++ []) h; rw [List.append_nil]; exact Lh)
        rw [show q + ((0 : Nat) : Int) = q by omega] at z
        exact z
      refine U_162_2 (by omega) q (q + m) h ?_
      rw [k12, k11, k57]
      refine ⟨fun c1 => ?_, fun c1 => ?_⟩
      · skip
        refine ⟨fun c2 => ?_, fun c2 => ?_⟩
        · skip
          refine ⟨fun c3 => ?_, fun c3 => ?_⟩
          · skip
            refine ⟨fun c4 => ?_, fun c4 => ?_⟩
            · skip
              refine ⟨?_, ?_⟩
              · first | omega | (unfold xI; omega) | (exfalso; omega)
              refine s_161 (by omega) tb L_H (by omega) (fun h626 L_h626 => ?_)
              refine s_160 (by omega) tb L_h626 (by omega) (fun h628 L_h628 => ?_)
              have nx := keyN (i + m + 1) (O ++ [(10000 + H0 55 (i + m))]) h628 L_h628 (by rw [List.length_append]; simp only [List.length_cons, List.length_nil]; omega) (fun h1 L1 => hQ 1 h1 (Or.inl ⟨rfl, i + m + 1, [(10000 + H0 55 (i + m))] ++ mYs 10043 m, ⟨by rw [List.append_assoc] at L1; exact L1, by omega, by rw [List.length_append, mYs_len]; simp only [List.length_cons, List.length_nil]; omega, suC_negs (suC_le (suC_num (by omega)) (by omega)) m⟩, ?_⟩))
              · exact nx
              · refine mR_trans ms (mR_one ok1 ?_)
                rw [mS_1]
                unfold mS1
                simp (disch := omega) only [if_pos, if_neg]
                unfold mOne
                rw [mPop_rep f1.1 f7]
                dsimp only
                rw [List.append_assoc, show q + m - (m : Int) = q by omega]
            · skip
              refine ⟨fun c5 => ?_, fun c5 => ?_⟩
              · skip
                refine ⟨fun c6 => ?_, fun c6 => ?_⟩
                · skip
                  exfalso
                  omega
                · skip
                  refine s_159 (by omega) _ tb L_H (by omega) (fun h622 L_h622 => ?_)
                  refine ⟨?_, ?_⟩
                  · first | omega | (unfold xI; omega) | (exfalso; omega)
                  exact hQ 0 _ (Or.inr ⟨rfl, faP_mk L_h622 (by decide) (by omega) ms ok1 (by rw [mS_1]; unfold mS1; simp (disch := omega) only [if_pos, if_neg]; rfl)⟩)
              · skip
                refine s_159 (by omega) _ tb L_H (by omega) (fun h624 L_h624 => ?_)
                refine ⟨?_, ?_⟩
                · first | omega | (unfold xI; omega) | (exfalso; omega)
                exact hQ 0 _ (Or.inr ⟨rfl, faP_mk L_h624 (by decide) (by omega) ms ok1 (by rw [mS_1]; unfold mS1; simp (disch := omega) only [if_pos, if_neg]; rfl)⟩)
          · skip
            refine ⟨?_, ?_⟩
            · first | omega | (unfold xI; omega) | (exfalso; omega)
            refine ⟨fun c9 => ?_, fun c9 => ?_⟩
            · skip
              refine ⟨?_, ?_⟩
              · first | omega | (unfold xI; omega) | (exfalso; omega)
              refine s_161 (by omega) tb L_H (by omega) (fun h630 L_h630 => ?_)
              refine s_160 (by omega) tb L_h630 (by omega) (fun h632 L_h632 => ?_)
              have nx := keyN (i + m + 1) (O ++ [(H0 57 (i + m))]) h632 L_h632 (by rw [List.length_append]; simp only [List.length_cons, List.length_nil]; omega) (fun h1 L1 => hQ 1 h1 (Or.inl ⟨rfl, i + m + 1, [(H0 57 (i + m))] ++ mYs 10043 m, ⟨by rw [List.append_assoc] at L1; exact L1, by omega, by rw [List.length_append, mYs_len]; simp only [List.length_cons, List.length_nil]; omega, suC_negs (suC_le (suC_num (by omega)) (by omega)) m⟩, ?_⟩))
              · exact nx
              · refine mR_trans ms (mR_one ok1 ?_)
                rw [mS_1]
                unfold mS1
                simp (disch := omega) only [if_pos, if_neg]
                unfold mOne
                rw [mPop_rep f1.1 f7]
                dsimp only
                rw [List.append_assoc, show q + m - (m : Int) = q by omega]
            · skip
              refine s_159 (by omega) _ tb L_H (by omega) (fun h634 L_h634 => ?_)
              refine ⟨?_, ?_⟩
              · first | omega | (unfold xI; omega) | (exfalso; omega)
              exact hQ 0 _ (Or.inr ⟨rfl, faP_mk L_h634 (by decide) (by omega) ms ok1 (by rw [mS_1]; unfold mS1; simp (disch := omega) only [if_pos, if_neg]; rfl)⟩)
        · skip
          refine s_159 (by omega) _ tb L_H (by omega) (fun h636 L_h636 => ?_)
          refine ⟨?_, ?_⟩
          · first | omega | (unfold xI; omega) | (exfalso; omega)
          exfalso
          omega
      · skip
        refine ⟨fun c10 => ?_, fun c10 => ?_⟩
        · skip
          refine ⟨fun c11 => ?_, fun c11 => ?_⟩
          · skip
            refine ⟨fun c12 => ?_, fun c12 => ?_⟩
            · skip
              refine ⟨fun c13 => ?_, fun c13 => ?_⟩
              · skip
                refine ⟨?_, ?_⟩
                · first | omega | (unfold xI; omega) | (exfalso; omega)
                refine s_161 (by omega) tb L_H (by omega) (fun h650 L_h650 => ?_)
                refine s_160 (by omega) tb L_h650 (by omega) (fun h652 L_h652 => ?_)
                exfalso
                omega
              · skip
                refine ⟨fun c14 => ?_, fun c14 => ?_⟩
                · skip
                  refine ⟨fun c15 => ?_, fun c15 => ?_⟩
                  · skip
                    exfalso
                    omega
                  · skip
                    refine s_159 (by omega) _ tb L_H (by omega) (fun h646 L_h646 => ?_)
                    refine ⟨?_, ?_⟩
                    · first | omega | (unfold xI; omega) | (exfalso; omega)
                    exfalso
                    omega
                · skip
                  refine s_159 (by omega) _ tb L_H (by omega) (fun h648 L_h648 => ?_)
                  refine ⟨?_, ?_⟩
                  · first | omega | (unfold xI; omega) | (exfalso; omega)
                  exfalso
                  omega
            · skip
              refine ⟨?_, ?_⟩
              · first | omega | (unfold xI; omega) | (exfalso; omega)
              refine ⟨fun c18 => ?_, fun c18 => ?_⟩
              · skip
                refine ⟨?_, ?_⟩
                · first | omega | (unfold xI; omega) | (exfalso; omega)
                refine s_161 (by omega) tb L_H (by omega) (fun h654 L_h654 => ?_)
                refine s_160 (by omega) tb L_h654 (by omega) (fun h656 L_h656 => ?_)
                exfalso
                omega
              · skip
                refine s_159 (by omega) _ tb L_H (by omega) (fun h658 L_h658 => ?_)
                refine ⟨?_, ?_⟩
                · first | omega | (unfold xI; omega) | (exfalso; omega)
                exfalso
                omega
          · skip
            refine s_159 (by omega) _ tb L_H (by omega) (fun h660 L_h660 => ?_)
            refine ⟨?_, ?_⟩
            · first | omega | (unfold xI; omega) | (exfalso; omega)
            exact hQ 0 _ (Or.inr ⟨rfl, faP_mk L_h660 (by decide) (by omega) ms ok1 (by rw [mS_1]; unfold mS1; simp (disch := omega) only [if_pos, if_neg]; rfl)⟩)
        · skip
          refine ⟨?_, ?_⟩
          · first | omega | (unfold xI; omega) | (exfalso; omega)
          refine s_160 (by omega) tb L_H (by omega) (fun h662 L_h662 => ?_)
          exfalso
          omega
    | succ n ih =>
      intro m hm h L_H im ms
      have k12 : h 51 12 = H0 55 (i + m) := L_H.2.2.2.1
      have k11 : h 51 11 = i + m := L_H.2.2.1
      have k57 : h 57 = H0 57 := L_H.1 57 (by decide) (by decide) (by decide)
      have fm := fP_rep 7 m f1
      have ml := mRep_len 7 m F
      have iT : ¬ H0 55 (i + m) = 21 → i + m < H0 51 10 := fun z => by
        by_cases y : i + m = H0 51 10
        · exact absurd (by rw [y]; exact tb.2.2.1) z
        · omega
      have ok1 : mOk (H0 55) (H0 51 10) (1, i + m, q + m, mRep 7 m F, W, O, C) := mOk_i (by decide) (by omega) (by omega) (by omega) (by omega) (by omega) cC fm
      have tk := tb.2.2.2.1 (i + m) (by omega) (by omega)
      have tn := tb.2.2.2.2 (i + m) (by omega)
      have keyN : ∀ (j : Int) (O1 : List Int) (h : XH), rLS H0 ta lo j O1 h → ((O1.length : Int) + m ≤ j ∧ j ≤ H0 51 10) → (∀ h1, rLS H0 ta lo j (O1 ++ mYs 10043 m) h1 → Q 1 h1) → xq X d 162 Q 181 [(0, (2, 51)), (2, (0, q + m)), (3, (0, q))] [] h := by
        intro j O1 h Lh jl hq
        have inn : ∀ (n n' : Nat), n' + n = m → ∀ h, rLS H0 ta lo j (O1 ++ mYs 10043 n') h → xq X d 162 Q 181 [(0, (2, 51)), (2, (0, q + m)), (3, (0, q + n'))] [] h := by
          intro n
          induction n with
          | zero =>
            intro n' hn h L_H
            have e : n' = m := by omega
            refine U_162_181 (by omega) (q + m) (q + n') h ?_
            refine ⟨fun c1 => ?_, fun c1 => ?_⟩
            · skip
              rw [e] at L_H
              exact hq h L_H
            · skip
              exfalso
              omega
          | succ n ihn =>
            intro n' hn h L_H
            have yl := mYs_len 10043 n'
            have lt : (O1 ++ mYs 10043 n').length < 300 := by
              rw [List.length_append, yl]
              omega
            refine U_162_181 (by omega) (q + m) (q + n') h ?_
            refine ⟨fun c1 => ?_, fun c1 => ?_⟩
            · skip
              exfalso
              omega
            · skip
              refine s_161 (by omega) tb L_H lt (fun h612 L_h612 => ?_)
              refine ⟨?_, ?_⟩
              · first | omega | (unfold xI; omega) | (exfalso; omega)
              have nx := ihn (n' + 1) (by omega) _ (by rw [← mYs_s, ← List.append_assoc]; exact L_h612)
              rw [show q + ((n' + 1 : Nat) : Int) = q + n' + 1 by omega] at nx
              exact nx
        have z := inn m 0 (by omega) h (by show rLS H0 ta lo j (O1 ++ []) h; rw [List.append_nil]; exact Lh)
        rw [show q + ((0 : Nat) : Int) = q by omega] at z
        exact z
      refine U_162_2 (by omega) q (q + m) h ?_
      rw [k12, k11, k57]
      refine ⟨fun c1 => ?_, fun c1 => ?_⟩
      · skip
        refine ⟨fun c2 => ?_, fun c2 => ?_⟩
        · skip
          refine ⟨fun c3 => ?_, fun c3 => ?_⟩
          · skip
            refine ⟨fun c4 => ?_, fun c4 => ?_⟩
            · skip
              refine ⟨?_, ?_⟩
              · first | omega | (unfold xI; omega) | (exfalso; omega)
              refine s_161 (by omega) tb L_H (by omega) (fun h676 L_h676 => ?_)
              refine s_160 (by omega) tb L_h676 (by omega) (fun h678 L_h678 => ?_)
              have nx := keyN (i + m + 1) (O ++ [(10000 + H0 55 (i + m))]) h678 L_h678 (by rw [List.length_append]; simp only [List.length_cons, List.length_nil]; omega) (fun h1 L1 => hQ 1 h1 (Or.inl ⟨rfl, i + m + 1, [(10000 + H0 55 (i + m))] ++ mYs 10043 m, ⟨by rw [List.append_assoc] at L1; exact L1, by omega, by rw [List.length_append, mYs_len]; simp only [List.length_cons, List.length_nil]; omega, suC_negs (suC_le (suC_num (by omega)) (by omega)) m⟩, ?_⟩))
              · exact nx
              · refine mR_trans ms (mR_one ok1 ?_)
                rw [mS_1]
                unfold mS1
                simp (disch := omega) only [if_pos, if_neg]
                unfold mOne
                rw [mPop_rep f1.1 f7]
                dsimp only
                rw [List.append_assoc, show q + m - (m : Int) = q by omega]
            · skip
              refine ⟨fun c5 => ?_, fun c5 => ?_⟩
              · skip
                refine ⟨fun c6 => ?_, fun c6 => ?_⟩
                · skip
                  refine s_160 (by omega) tb L_H (by omega) (fun h664 L_h664 => ?_)
                  refine ⟨?_, ?_⟩
                  · first | omega | (unfold xI; omega) | (exfalso; omega)
                  obtain ⟨k', hk'⟩ : ∃ k', k' + 1 = k := ⟨k - 1, by omega⟩
                  have st1 : rMK H0 (1, i, q, F, W, O, C) (1, i + m + 1, q + m + 1, (6, 0) :: mRep 7 m F, W, O, C) := mR_trans ms (mR_one ok1 (by rw [mS_1]; unfold mS1; simp (disch := omega) only [if_pos, if_neg]))
                  refine hS k' hk' X d _ (by omega) H0 ta lo (i + m + 1) (q + m + 1) O ((6, 0) :: mRep 7 m F) W C _ tb L_h664 (by omega) ⟨⟨by omega, by omega, by omega, fP_cons _ fm, ?_, ?_, cC, (by decide : ¬ (6 : Int) = 7), ?_⟩, ?_, ?_⟩ (fun J667 h666 P => P.elim (fun ok => ?_) (fun fa => ⟨fun c => absurd fa.1 c, fun _ => hQ 0 h666 (Or.inr ⟨rfl, faP_pre st1 fa.2⟩)⟩))
                  · show ((mRep 7 m F).length + 1 : Int) ≤ _
                    omega
                  · show W.length ≤ 2 * ((mRep 7 m F).length + 1)
                    omega
                  · intro p hp
                    have := wF p hp
                    show p.2 ≤ (((mRep 7 m F).length + 1 : Nat) : Int)
                    omega
                  · show W.length + 2 ≤ 2 * ((mRep 7 m F).length + 1)
                    omega
                  · intro p hp
                    have := wF p hp
                    show p.2 < (((mRep 7 m F).length + 1 : Nat) : Int)
                    omega
                  obtain ⟨hr, j, c, W', Om, ⟨L_h666, lj, lc, sc⟩, nk, fl, wl, mr⟩ := ok
                  have ej : h666 51 12 = H0 55 j := L_h666.2.2.2.1
                  have jT : ¬ H0 55 j = 21 → j < H0 51 10 := fun z => by
                    by_cases y : j = H0 51 10
                    · exact absurd (by rw [y]; exact tb.2.2.1) z
                    · omega
                  have lO := mFl_len (d := mLen ((6, 0) :: mRep 7 m F)) (r := 3) W' Om
                  rw [fl, List.length_append] at lO
                  have lO : Om.length ≤ O.length + c.length := lO.1
                  have ok2 : mOk (H0 55) (H0 51 10) (2, j, q + m + 1, (6, 0) :: mRep 7 m F, W', Om, C) := mOk_i (by decide) (by omega) (by omega) (by show (mRep 7 m F).length + 1 ≤ 20; omega) (by omega) (by omega) cC (fP_cons _ fm)
                  refine ⟨fun c7 => ?_, fun c7 => ?_⟩
                  · skip
                    refine ⟨fun c8 => ?_, fun c8 => ?_⟩
                    · skip
                      refine s_160 (by omega) tb L_h666 (by omega) (fun h668 L_h668 => ?_)
                      have nx := keyN (j + 1) (O ++ c) h668 L_h668 (by rw [List.length_append]; omega) (fun h1 L1 => hQ 1 h1 (Or.inl ⟨rfl, j + 1, c ++ mYs 10043 m, ⟨by rw [List.append_assoc] at L1; exact L1, by omega, by rw [List.length_append, mYs_len]; omega, suC_negs (suC_le sc (by omega)) m⟩, ?_⟩))
                      · exact nx
                      · refine mR_trans st1 (mR_trans mr (mR_one ok2 ?_))
                        rw [mS_2]
                        unfold mS2
                        rw [if_neg (by omega), if_pos ⟨rfl, by omega⟩]
                        show mOne (j + 1) (q + m + 1 - 1) (mRep 7 m F) _ _ C = _
                        rw [fl]
                        unfold mOne
                        rw [mPop_rep f1.1 f7]
                        dsimp only
                        rw [List.append_assoc, show q + m + 1 - 1 - (m : Int) = q by omega]
                    · skip
                      refine s_159 (by omega) _ tb L_h666 (by omega) (fun h670 L_h670 => ?_)
                      refine ⟨?_, ?_⟩
                      · first | omega | (unfold xI; omega) | (exfalso; omega)
                      refine hQ 0 _ (Or.inr ⟨rfl, faP_mk (o := q + m + 1) (F := (6, 0) :: mRep 7 m F) (W := W') (O := Om) (C := C) L_h670 (by decide) (by omega) (mR_trans st1 mr) ok2 ?_⟩)
                      rw [mS_2]
                      unfold mS2
                      rw [if_neg nk, if_neg (fun z => absurd z.2 (by omega)), if_neg (fun z => absurd z.1 (by decide : ¬ (6 : Int) = 4)), if_neg (show ¬ (mTop ((6, 0) :: mRep 7 m F)).1 = 5 from (by decide : ¬ (6 : Int) = 5)), if_neg (fun z => absurd z.1 (by decide : ¬ (6 : Int) = 1))]
                  · skip
                    exfalso
                    omega
                · skip
                  refine s_159 (by omega) _ tb L_H (by omega) (fun h672 L_h672 => ?_)
                  refine ⟨?_, ?_⟩
                  · first | omega | (unfold xI; omega) | (exfalso; omega)
                  exfalso
                  omega
              · skip
                refine s_159 (by omega) _ tb L_H (by omega) (fun h674 L_h674 => ?_)
                refine ⟨?_, ?_⟩
                · first | omega | (unfold xI; omega) | (exfalso; omega)
                exact hQ 0 _ (Or.inr ⟨rfl, faP_mk L_h674 (by decide) (by omega) ms ok1 (by rw [mS_1]; unfold mS1; simp (disch := omega) only [if_pos, if_neg]; rfl)⟩)
          · skip
            refine ⟨?_, ?_⟩
            · first | omega | (unfold xI; omega) | (exfalso; omega)
            refine ⟨fun c9 => ?_, fun c9 => ?_⟩
            · skip
              refine ⟨?_, ?_⟩
              · first | omega | (unfold xI; omega) | (exfalso; omega)
              refine s_161 (by omega) tb L_H (by omega) (fun h680 L_h680 => ?_)
              refine s_160 (by omega) tb L_h680 (by omega) (fun h682 L_h682 => ?_)
              have nx := keyN (i + m + 1) (O ++ [(H0 57 (i + m))]) h682 L_h682 (by rw [List.length_append]; simp only [List.length_cons, List.length_nil]; omega) (fun h1 L1 => hQ 1 h1 (Or.inl ⟨rfl, i + m + 1, [(H0 57 (i + m))] ++ mYs 10043 m, ⟨by rw [List.append_assoc] at L1; exact L1, by omega, by rw [List.length_append, mYs_len]; simp only [List.length_cons, List.length_nil]; omega, suC_negs (suC_le (suC_num (by omega)) (by omega)) m⟩, ?_⟩))
              · exact nx
              · refine mR_trans ms (mR_one ok1 ?_)
                rw [mS_1]
                unfold mS1
                simp (disch := omega) only [if_pos, if_neg]
                unfold mOne
                rw [mPop_rep f1.1 f7]
                dsimp only
                rw [List.append_assoc, show q + m - (m : Int) = q by omega]
            · skip
              refine s_159 (by omega) _ tb L_H (by omega) (fun h684 L_h684 => ?_)
              refine ⟨?_, ?_⟩
              · first | omega | (unfold xI; omega) | (exfalso; omega)
              exact hQ 0 _ (Or.inr ⟨rfl, faP_mk L_h684 (by decide) (by omega) ms ok1 (by rw [mS_1]; unfold mS1; simp (disch := omega) only [if_pos, if_neg]; rfl)⟩)
        · skip
          refine s_159 (by omega) _ tb L_H (by omega) (fun h686 L_h686 => ?_)
          refine ⟨?_, ?_⟩
          · first | omega | (unfold xI; omega) | (exfalso; omega)
          exfalso
          omega
      · skip
        refine ⟨fun c10 => ?_, fun c10 => ?_⟩
        · skip
          refine ⟨fun c11 => ?_, fun c11 => ?_⟩
          · skip
            refine ⟨fun c12 => ?_, fun c12 => ?_⟩
            · skip
              refine ⟨fun c13 => ?_, fun c13 => ?_⟩
              · skip
                refine ⟨?_, ?_⟩
                · first | omega | (unfold xI; omega) | (exfalso; omega)
                exfalso
                omega
              · skip
                refine ⟨fun c14 => ?_, fun c14 => ?_⟩
                · skip
                  refine ⟨fun c15 => ?_, fun c15 => ?_⟩
                  · skip
                    exfalso
                    omega
                  · skip
                    exfalso
                    omega
                · skip
                  exfalso
                  omega
            · skip
              refine ⟨?_, ?_⟩
              · first | omega | (unfold xI; omega) | (exfalso; omega)
              refine ⟨fun c18 => ?_, fun c18 => ?_⟩
              · skip
                refine ⟨?_, ?_⟩
                · first | omega | (unfold xI; omega) | (exfalso; omega)
                exfalso
                omega
              · skip
                exfalso
                omega
          · skip
            exfalso
            omega
        · skip
          refine ⟨?_, ?_⟩
          · first | omega | (unfold xI; omega) | (exfalso; omega)
          refine s_160 (by omega) tb L_H (by omega) (fun h712 L_h712 => ?_)
          have nx := ih (m + 1) (by omega) h712 (by rw [show i + ((m + 1 : Nat) : Int) = i + m + 1 by omega]; exact L_h712) (by omega) (by
            rw [show i + ((m + 1 : Nat) : Int) = i + m + 1 by omega, show q + ((m + 1 : Nat) : Int) = q + m + 1 by omega]
            exact mR_trans ms (mR_one ok1 (by rw [mS_1]; unfold mS1; simp (disch := omega) only [if_pos, if_neg]; rfl)))
          rw [show q + ((m + 1 : Nat) : Int) = q + m + 1 by omega] at nx
          exact nx
  have z := key (8 - q).toNat 0 (by omega) H (by rw [show i + ((0 : Nat) : Int) = i by omega]; exact L0) (by omega) (by
    rw [show i + ((0 : Nat) : Int) = i by omega, show q + ((0 : Nat) : Int) = q by omega]
    exact mR_refl _ _ _ _)
  rw [show q + ((0 : Nat) : Int) = q by omega] at z
  exact z
