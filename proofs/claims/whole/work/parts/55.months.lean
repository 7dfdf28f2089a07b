/-! THE PURE LAYER 25: months -/
def flI (f t m : Int) : Int := if f ≤ t then (if f ≤ m ∧ m ≤ t then 1 else 0) else (if f ≤ m ∨ m ≤ t then 1 else 0)
def dR (f : Int → Int) : Nat → Int → Int
  | 0, _ => 0
  | k + 1, a => if ¬ f a = 0 then 1 else dR f k (a + 1)
theorem dR_01 (f : Int → Int) : ∀ (k : Nat) (a : Int), dR f k a = 0 ∨ dR f k a = 1
  | 0, _ => Or.inl rfl
  | k + 1, a => by
    unfold dR
    split
    · exact Or.inr rfl
    · exact dR_01 f k (a + 1)
/-- a sort is dust of a month -/
def duV (g : Int → Int) (s m : Int) : Int := dR (fun a => flI (g (600 + 2 * s)) (g (601 + 2 * s)) ((m - a) % 12)) (g 8 + 1).toNat 0
def cR (am ff du : Int → Int) : Nat → Int → Int
  | 0, _ => 1
  | k + 1, s => if am s ≤ 0 ∨ ff s = -1 then cR am ff du k (s + 1) else if du s = 0 then 0 else cR am ff du k (s + 1)
theorem cR_01 (am ff du : Int → Int) : ∀ (k : Nat) (s : Int), cR am ff du k s = 0 ∨ cR am ff du k s = 1
  | 0, _ => Or.inr rfl
  | k + 1, s => by
    unfold cR
    split
    · exact cR_01 am ff du k (s + 1)
    · split
      · exact Or.inl rfl
      · exact cR_01 am ff du k (s + 1)
/-- layer l can be of month m -/
def cbV (g : Int → Int) (l m : Int) : Int := cR (fun s => g (560 + 5 * l + s)) (fun s => g (600 + 2 * s)) (fun s => duV g s m) 5 0
theorem xx12 : ∀ k : Nat, k < 23 → (0 ≤ xxor ((k : Int) - 11) 12 ↔ 0 ≤ (k : Int) - 11) := by decide +kernel
theorem xx12' {x : Int} (h : -12 < x ∧ x < 12) : 0 ≤ xxor x 12 ↔ 0 ≤ x := by
  have k := xx12 (x + 11).toNat (by omega)
  rw [show ((x + 11).toNat : Int) - 11 = x by omega] at k
  exact k

theorem U_113 {X : Int × (Int → Int)} {d : Nat} {Q : Int → XH → Prop} (hd : 0 ≤ d) (x : Int) (H : XH) (h : (¬ (12 : Int) = 0 ∧ xI (Int.tdiv x 12)) ∧ ((0 ≤ xxor x 12) → Q (Int.tmod x 12) H) ∧ (¬ (0 ≤ xxor x 12) → ((Int.tmod x 12 = 0) → Q (Int.tmod x 12) H) ∧ (¬ (Int.tmod x 12 = 0) → (xI ((Int.tmod x 12) + 12)) ∧ Q ((Int.tmod x 12) + 12) H))) : xc X (d + 1) 113 [(0, x), (0, 12)] H Q := by
  refine ⟨rfl, ?_⟩
  show xq X d 113 Q 100000 [(0, (0, x)), (1, (0, 12))] [] H
  refine xq_run [] 300 ?_
  show (¬ (12 : Int) = 0 ∧ xI (Int.tdiv x 12)) ∧ ((0 ≤ xxor x 12) → xfR 0 (Int.tmod x 12) ∧ xKZ = xKZ ∧ Q (Int.tmod x 12) H) ∧ (¬ (0 ≤ xxor x 12) → ((Int.tmod x 12 = 0) → xfR 0 (Int.tmod x 12) ∧ xKZ = xKZ ∧ Q (Int.tmod x 12) H) ∧ (¬ (Int.tmod x 12 = 0) → (xI ((Int.tmod x 12) + 12)) ∧ xfR 0 ((Int.tmod x 12) + 12) ∧ xKZ = xKZ ∧ Q ((Int.tmod x 12) + 12) H))
  refine ⟨h.1, ?_⟩
  replace h := h.2
  refine ⟨fun k_ => ?_, fun k_ => ?_⟩
  · replace h := h.1 k_
    exact ⟨trivial, rfl, h⟩
  · replace h := h.2 k_
    refine ⟨fun k_ => ?_, fun k_ => ?_⟩
    · replace h := h.1 k_
      exact ⟨trivial, rfl, h⟩
    · replace h := h.2 k_
      refine ⟨h.1, ?_⟩
      replace h := h.2
      exact ⟨trivial, rfl, h⟩

theorem s_113 {X : Int × (Int → Int)} {d : Nat} {Q : Int → XH → Prop} (hd : 1 ≤ d) (x : Int) (H : XH) (p : -12 < x ∧ x < 12) (hQ : Q (x % 12) H) : xc X d 113 [(0, x), (0, 12)] H Q := by
  cases d with
  | zero => omega
  | succ d =>
  have hx := xx12' p
  refine U_113 (by omega) x H ?_
  by_cases h : 0 ≤ x
  · rw [Int.tmod_eq_emod_of_nonneg h]
    refine ⟨?_, ?_⟩
    · first | omega | exact ⟨by decide, by rw [Int.tdiv_eq_ediv_of_nonneg h]; unfold xI; omega⟩ | (unfold xI; omega)
    refine ⟨fun c1 => ?_, fun c1 => ?_⟩
    · skip
      first | exact hQ | (exfalso; omega)
    · skip
      refine ⟨fun c2 => ?_, fun c2 => ?_⟩
      · skip
        first | exact hQ | (exfalso; omega)
      · skip
        refine ⟨?_, ?_⟩
        · first | omega | exact ⟨by decide, by rw [Int.tdiv_eq_ediv_of_nonneg h]; unfold xI; omega⟩ | (unfold xI; omega)
        first | exact hQ | (exfalso; omega)
  · have e : x.tmod 12 = - ((-x) % 12) := by
      rw [← Int.tmod_eq_emod_of_nonneg (a := -x) (by omega), Int.neg_tmod, Int.neg_neg]
    have e2 : x.tdiv 12 = - ((-x) / 12) := by
      rw [← Int.tdiv_eq_ediv_of_nonneg (a := -x) (by omega), Int.neg_tdiv, Int.neg_neg]
    rw [e, e2]
    refine ⟨?_, ?_⟩
    · first | omega | exact ⟨by decide, by unfold xI; omega⟩ | (unfold xI; omega)
    refine ⟨fun c1 => ?_, fun c1 => ?_⟩
    · skip
      first | exact xQr hQ (by omega) | (exfalso; omega)
    · skip
      refine ⟨fun c2 => ?_, fun c2 => ?_⟩
      · skip
        first | exact xQr hQ (by omega) | (exfalso; omega)
      · skip
        refine ⟨?_, ?_⟩
        · first | omega | exact ⟨by decide, by unfold xI; omega⟩ | (unfold xI; omega)
        first | exact xQr hQ (by omega) | (exfalso; omega)

theorem U_114 {X : Int × (Int → Int)} {d : Nat} {Q : Int → XH → Prop} (hd : 0 ≤ d) (s m : Int) (H : XH) (h : ((0 : Int) ≤ s ∧ (s : Int) < 5) ∧ ((0 : Int) ≤ s ∧ (s : Int) < 5) ∧ ((H 11 s < H 10 s) → ((H 10 s ≤ m) → Q 1 H) ∧ (¬ (H 10 s ≤ m) → ((H 11 s < m) → Q 0 H) ∧ (¬ (H 11 s < m) → Q 1 H))) ∧ (¬ (H 11 s < H 10 s) → ((m < H 10 s) → Q 0 H) ∧ (¬ (m < H 10 s) → ((H 11 s < m) → Q 0 H) ∧ (¬ (H 11 s < m) → Q 1 H)))) : xc X (d + 1) 114 [(2, 9), (0, s), (0, m)] H Q := by
  refine ⟨rfl, ?_⟩
  show xq X d 114 Q 100000 [(0, (2, 9)), (1, (0, s)), (2, (0, m))] [] H
  refine xq_run [] 300 ?_
  show ((0 : Int) ≤ s ∧ (s : Int) < 5) ∧ ((0 : Int) ≤ s ∧ (s : Int) < 5) ∧ ((H 11 s < H 10 s) → ((H 10 s ≤ m) → xfR 3 1 ∧ xKZ = xKZ ∧ Q 1 H) ∧ (¬ (H 10 s ≤ m) → ((H 11 s < m) → xfR 3 0 ∧ xKZ = xKZ ∧ Q 0 H) ∧ (¬ (H 11 s < m) → xfR 3 1 ∧ xKZ = xKZ ∧ Q 1 H))) ∧ (¬ (H 11 s < H 10 s) → ((m < H 10 s) → xfR 3 0 ∧ xKZ = xKZ ∧ Q 0 H) ∧ (¬ (m < H 10 s) → ((H 11 s < m) → xfR 3 0 ∧ xKZ = xKZ ∧ Q 0 H) ∧ (¬ (H 11 s < m) → xfR 3 1 ∧ xKZ = xKZ ∧ Q 1 H)))
  refine ⟨h.1, ?_⟩
  replace h := h.2
  refine ⟨h.1, ?_⟩
  replace h := h.2
  refine ⟨fun k_ => ?_, fun k_ => ?_⟩
  · replace h := h.1 k_
    refine ⟨fun k_ => ?_, fun k_ => ?_⟩
    · replace h := h.1 k_
      exact ⟨xfR3_1, rfl, h⟩
    · replace h := h.2 k_
      refine ⟨fun k_ => ?_, fun k_ => ?_⟩
      · replace h := h.1 k_
        exact ⟨xfR3_0, rfl, h⟩
      · replace h := h.2 k_
        exact ⟨xfR3_1, rfl, h⟩
  · replace h := h.2 k_
    refine ⟨fun k_ => ?_, fun k_ => ?_⟩
    · replace h := h.1 k_
      exact ⟨xfR3_0, rfl, h⟩
    · replace h := h.2 k_
      refine ⟨fun k_ => ?_, fun k_ => ?_⟩
      · replace h := h.1 k_
        exact ⟨xfR3_0, rfl, h⟩
      · replace h := h.2 k_
        exact ⟨xfR3_1, rfl, h⟩

theorem s_114 {X : Int × (Int → Int)} {d : Nat} {Q : Int → XH → Prop} (hd : 1 ≤ d) (s m : Int) (H : XH) (p0 : 0 ≤ s ∧ s < 5) (hQ : Q (flI (H 10 s) (H 11 s) m) H) : xc X d 114 [(2, 9), (0, s), (0, m)] H Q := by
  cases d with
  | zero => omega
  | succ d =>
  unfold flI at hQ
  refine U_114 (by omega) s m H ?_
  refine ⟨?_, ?_⟩
  · omega
  refine ⟨?_, ?_⟩
  · omega
  refine ⟨fun c1 => ?_, fun c1 => ?_⟩
  · skip
    refine ⟨fun c2 => ?_, fun c2 => ?_⟩
    · skip
      first | (rw [if_pos (by omega), if_pos (by omega)] at hQ; exact hQ) | (rw [if_pos (by omega), if_neg (by omega)] at hQ; exact hQ) | (rw [if_neg (by omega), if_pos (by omega)] at hQ; exact hQ) | (rw [if_neg (by omega), if_neg (by omega)] at hQ; exact hQ)
    · skip
      refine ⟨fun c3 => ?_, fun c3 => ?_⟩
      · skip
        first | (rw [if_pos (by omega), if_pos (by omega)] at hQ; exact hQ) | (rw [if_pos (by omega), if_neg (by omega)] at hQ; exact hQ) | (rw [if_neg (by omega), if_pos (by omega)] at hQ; exact hQ) | (rw [if_neg (by omega), if_neg (by omega)] at hQ; exact hQ)
      · skip
        first | (rw [if_pos (by omega), if_pos (by omega)] at hQ; exact hQ) | (rw [if_pos (by omega), if_neg (by omega)] at hQ; exact hQ) | (rw [if_neg (by omega), if_pos (by omega)] at hQ; exact hQ) | (rw [if_neg (by omega), if_neg (by omega)] at hQ; exact hQ)
  · skip
    refine ⟨fun c2 => ?_, fun c2 => ?_⟩
    · skip
      first | (rw [if_pos (by omega), if_pos (by omega)] at hQ; exact hQ) | (rw [if_pos (by omega), if_neg (by omega)] at hQ; exact hQ) | (rw [if_neg (by omega), if_pos (by omega)] at hQ; exact hQ) | (rw [if_neg (by omega), if_neg (by omega)] at hQ; exact hQ)
    · skip
      refine ⟨fun c3 => ?_, fun c3 => ?_⟩
      · skip
        first | (rw [if_pos (by omega), if_pos (by omega)] at hQ; exact hQ) | (rw [if_pos (by omega), if_neg (by omega)] at hQ; exact hQ) | (rw [if_neg (by omega), if_pos (by omega)] at hQ; exact hQ) | (rw [if_neg (by omega), if_neg (by omega)] at hQ; exact hQ)
      · skip
        first | (rw [if_pos (by omega), if_pos (by omega)] at hQ; exact hQ) | (rw [if_pos (by omega), if_neg (by omega)] at hQ; exact hQ) | (rw [if_neg (by omega), if_pos (by omega)] at hQ; exact hQ) | (rw [if_neg (by omega), if_neg (by omega)] at hQ; exact hQ)

theorem U_115 {X : Int × (Int → Int)} {d : Nat} {Q : Int → XH → Prop} (hd : 0 ≤ d) (s m : Int) (H : XH) (h : xq X d 115 Q 2 [(0, (2, 9)), (1, (0, s)), (2, (0, m)), (3, (0, 0))] [] H) : xc X (d + 1) 115 [(2, 9), (0, s), (0, m)] H Q := by
  refine ⟨rfl, ?_⟩
  show xq X d 115 Q 100000 [(0, (2, 9)), (1, (0, s)), (2, (0, m))] [] H
  refine xq_run [2, 20, 23] 300 ?_
  show xq X d 115 Q 2 [(0, (2, 9)), (1, (0, s)), (2, (0, m)), (3, (0, 0))] [] H
  exact h
theorem U_115_2 {X : Int × (Int → Int)} {d : Nat} {Q : Int → XH → Prop} (hd : 1 ≤ d) (v1 v2 v3 : Int) (H : XH) (h : ((H 9 2 < v3) → Q 0 H) ∧ (¬ (H 9 2 < v3) → (xI (v2 - v3)) ∧ (-12 < v2 - v3 ∧ v2 - v3 < 12) ∧ ((0 ≤ v1 ∧ v1 < 5) ∧ (((flI (H 10 v1) (H 11 v1) ((v2 - v3) % 12) = 0) → (xI (v3 + 1)) ∧ xq X d 115 Q 2 [(0, (2, 9)), (1, (0, v1)), (2, (0, v2)), (3, (0, v3 + 1))] [] H) ∧ (¬ (flI (H 10 v1) (H 11 v1) ((v2 - v3) % 12) = 0) → Q 1 H))))) : xq X d 115 Q 2 [(0, (2, 9)), (1, (0, v1)), (2, (0, v2)), (3, (0, v3))] [] H := by
  show xq X d 115 Q 2 [(0, (2, 9)), (1, (0, v1)), (2, (0, v2)), (3, (0, v3))] [] H
  refine xq_run [2, 20, 23] 300 ?_
  show ((H 9 2 < v3) → xfR 3 0 ∧ xKZ = xKZ ∧ Q 0 H) ∧ (¬ (H 9 2 < v3) → (xI (v2 - v3)) ∧ xWM (xE X) xMC d 113 [(0, v2 - v3), (0, 12)] xKZ H _)
  refine ⟨fun k_ => ?_, fun k_ => ?_⟩
  · replace h := h.1 k_
    exact ⟨xfR3_0, rfl, h⟩
  · replace h := h.2 k_
    refine ⟨h.1, ?_⟩
    replace h := h.2
    refine xc_in (s_113 (by omega) (v2 - v3) H (h.1) ?_)
    replace h := h.2
    show xq X d 115 Q 20 [(0, (2, 9)), (1, (0, v1)), (2, (0, v2)), (3, (0, v3))] [(0, (v2 - v3) % 12), (0, v1), (2, 9)] H
    refine xq_run [2, 20, 23] 300 ?_
    show xWM (xE X) xMC d 114 [(2, 9), (0, v1), (0, (v2 - v3) % 12)] xKZ H _
    refine xc_in (s_114 (by omega) v1 ((v2 - v3) % 12) H (h.1) ?_)
    replace h := h.2
    show xq X d 115 Q 23 [(0, (2, 9)), (1, (0, v1)), (2, (0, v2)), (3, (0, v3))] [(0, flI (H 10 v1) (H 11 v1) ((v2 - v3) % 12))] H
    refine xq_run [2, 20, 23] 300 ?_
    show ((flI (H 10 v1) (H 11 v1) ((v2 - v3) % 12) = 0) → (xI (v3 + 1)) ∧ xq X d 115 Q 2 [(0, (2, 9)), (1, (0, v1)), (2, (0, v2)), (3, (0, v3 + 1))] [] H) ∧ (¬ (flI (H 10 v1) (H 11 v1) ((v2 - v3) % 12) = 0) → xfR 3 1 ∧ xKZ = xKZ ∧ Q 1 H)
    refine ⟨fun k_ => ?_, fun k_ => ?_⟩
    · replace h := h.1 k_
      refine ⟨h.1, ?_⟩
      replace h := h.2
      exact h
    · replace h := h.2 k_
      exact ⟨xfR3_1, rfl, h⟩

theorem s_115 {X : Int × (Int → Int)} {d : Nat} {Q : Int → XH → Prop} (hd : 4 ≤ d) (s m : Int) (H : XH) (hi : InvS H) (ps : 0 ≤ s ∧ s < 5) (pm : 0 ≤ m ∧ m < 12) (pf : ¬ H 68 (600 + 2 * s) = -1) (hQ : Q (duV (H 68) s m) H) : xc X d 115 [(2, 9), (0, s), (0, m)] H Q := by
  cases d with
  | zero => omega
  | succ d =>
  have hg := hi.1
  have hs := hi.2
  have kp := hg.kep
  have r2 := hs.r2
  have ff := hs.ff s ps.1 ps.2
  have ft := hs.ft s ps.1 ps.2 pf
  have key : ∀ (k : Nat) (a : Int), 0 ≤ a → a + k = H 68 8 + 1 → dR (fun a => flI (H 68 (600 + 2 * s)) (H 68 (601 + 2 * s)) ((m - a) % 12)) k a = duV (H 68) s m → xq X d 115 Q 2 [(0, (2, 9)), (1, (0, s)), (2, (0, m)), (3, (0, a))] [] H := by
    intro k
    induction k with
    | zero =>
      intro a h0 hn hq
      unfold dR at hq
      rw [← hq] at hQ
      refine U_115_2 (by omega) s m a H ?_
      refine ⟨fun c1 => ?_, fun c1 => ?_⟩
      · skip
        first | exact hQ | (exfalso; omega)
      · skip
        refine ⟨?_, ?_⟩
        · first | omega | (unfold xI; omega) | (unfold xJ; omega) | assumption | (exfalso; omega)
        refine ⟨?_, ?_⟩
        · first | omega | (unfold xI; omega) | (unfold xJ; omega) | assumption | (exfalso; omega)
        refine ⟨?_, ?_⟩
        · first | omega | (unfold xI; omega) | (unfold xJ; omega) | assumption | (exfalso; omega)
        refine ⟨fun c2 => ?_, fun c2 => ?_⟩
        · skip
          refine ⟨?_, ?_⟩
          · first | omega | (unfold xI; omega) | (unfold xJ; omega) | assumption | (exfalso; omega)
          first | exact hQ | (exfalso; omega)
        · skip
          first | exact hQ | (exfalso; omega)
    | succ k ih =>
      intro a h0 hn hq
      unfold dR at hq
      refine U_115_2 (by omega) s m a H ?_
      rw [ff, ft]
      refine ⟨fun c1 => ?_, fun c1 => ?_⟩
      · skip
        exfalso
        omega
      · skip
        refine ⟨?_, ?_⟩
        · first | omega | (unfold xI; omega) | (unfold xJ; omega) | assumption | (exfalso; omega)
        refine ⟨?_, ?_⟩
        · first | omega | (unfold xI; omega) | (unfold xJ; omega) | assumption | (exfalso; omega)
        refine ⟨?_, ?_⟩
        · first | omega | (unfold xI; omega) | (unfold xJ; omega) | assumption | (exfalso; omega)
        refine ⟨fun c2 => ?_, fun c2 => ?_⟩
        · skip
          refine ⟨?_, ?_⟩
          · first | omega | (unfold xI; omega) | (unfold xJ; omega) | assumption | (exfalso; omega)
          rw [if_neg (by omega)] at hq
          exact ih (a + 1) (by omega) (by omega) hq
        · skip
          rw [if_pos (by assumption)] at hq
          rw [← hq] at hQ
          exact hQ
  refine U_115 (by omega) s m H ?_
  exact key (H 68 8 + 1).toNat 0 (by omega) (by omega) rfl

theorem U_80_o7 {X : Int × (Int → Int)} {d : Nat} {Q : Int → XH → Prop} (hd : 1 ≤ d) (l s : Int) (H : XH) (h : ((((0 ≤ l ∧ l < H 7 1)) → ((((0 ≤ s ∧ s ≤ 4)) → (xI (l * 5)) ∧ (xI ((l * 5) + s)) ∧ ((0 : Int) ≤ (l * 5) + s ∧ ((l * 5) + s : Int) < 40) ∧ Q (H 8 ((l * 5) + s)) H) ∧ (¬ ((0 ≤ s ∧ s ≤ 4)) → Q 0 H))) ∧ (¬ ((0 ≤ l ∧ l < H 7 1)) → Q 0 H))) : xc X (d + 1) 80 [(2, 7), (0, l), (0, s)] H Q := by
  refine ⟨rfl, ?_⟩
  show xq X d 80 Q 100000 [(0, (2, 7)), (1, (0, l)), (2, (0, s))] [] H
  refine xq_run [5, 12] 300 ?_
  show xWM (xE X) xMC d 49 [(2, 7), (0, l)] xKZ H _
  refine xc_in (s_49_o7 (by omega) l H  ?_)
  replace h := h
  show xq X d 80 Q 5 [(0, (2, 7)), (1, (0, l)), (2, (0, s))] [(0, xb (0 ≤ l ∧ l < H 7 1))] H
  refine xq_run [5, 12] 300 ?_
  show ((xb (0 ≤ l ∧ l < H 7 1) = 0) → xfR 0 0 ∧ xKZ = xKZ ∧ Q 0 H) ∧ (¬ (xb (0 ≤ l ∧ l < H 7 1) = 0) → xWM (xE X) xMC d 31 [(0, s)] xKZ H _)
  refine ⟨fun k_ => ?_, fun k_ => ?_⟩
  · replace h := h.2 (xbe_0.mp k_)
    exact ⟨trivial, rfl, h⟩
  · replace h := h.1 (xbe_1.mp k_)
    refine xc_in (s_31 (by omega) s H  ?_)
    replace h := h
    show xq X d 80 Q 12 [(0, (2, 7)), (1, (0, l)), (2, (0, s))] [(0, xb (0 ≤ s ∧ s ≤ 4))] H
    refine xq_run [5, 12] 300 ?_
    show ((xb (0 ≤ s ∧ s ≤ 4) = 0) → xfR 0 0 ∧ xKZ = xKZ ∧ Q 0 H) ∧ (¬ (xb (0 ≤ s ∧ s ≤ 4) = 0) → (xI (l * 5)) ∧ (xI ((l * 5) + s)) ∧ ((0 : Int) ≤ (l * 5) + s ∧ ((l * 5) + s : Int) < 40) ∧ xfR 0 (H 8 ((l * 5) + s)) ∧ xKZ = xKZ ∧ Q (H 8 ((l * 5) + s)) H)
    refine ⟨fun k_ => ?_, fun k_ => ?_⟩
    · replace h := h.2 (xbe_0.mp k_)
      exact ⟨trivial, rfl, h⟩
    · replace h := h.1 (xbe_1.mp k_)
      refine ⟨h.1, ?_⟩
      replace h := h.2
      refine ⟨h.1, ?_⟩
      replace h := h.2
      refine ⟨h.1, ?_⟩
      replace h := h.2
      exact ⟨trivial, rfl, h⟩

theorem s_80_o7 {X : Int × (Int → Int)} {d : Nat} {Q : Int → XH → Prop} (hd : 2 ≤ d) (l s : Int) (H : XH) (p0 : 0 ≤ l ∧ l < H 7 1) (p1 : 0 ≤ s ∧ s < 5) (p2 : H 7 1 ≤ 8) (hQ : Q (H 8 (l * 5 + s)) H) : xc X d 80 [(2, 7), (0, l), (0, s)] H Q := by
  cases d with
  | zero => omega
  | succ d =>
  refine U_80_o7 (by omega) l s H ?_
  refine ⟨fun c1 => ?_, fun c1 => ?_⟩
  · skip
    refine ⟨fun c2 => ?_, fun c2 => ?_⟩
    · skip
      refine ⟨?_, ?_⟩
      · first | omega | (unfold xI; omega) | (unfold xJ; omega) | assumption | (exfalso; omega)
      refine ⟨?_, ?_⟩
      · first | omega | (unfold xI; omega) | (unfold xJ; omega) | assumption | (exfalso; omega)
      refine ⟨?_, ?_⟩
      · first | omega | (unfold xI; omega) | (unfold xJ; omega) | assumption | (exfalso; omega)
      first | exact hQ | (exfalso; omega)
    · skip
      first | exact hQ | (exfalso; omega)
  · skip
    first | exact hQ | (exfalso; omega)

theorem U_80_o59 {X : Int × (Int → Int)} {d : Nat} {Q : Int → XH → Prop} (hd : 1 ≤ d) (l s : Int) (H : XH) (h : ((((0 ≤ l ∧ l < H 59 1)) → ((((0 ≤ s ∧ s ≤ 4)) → (xI (l * 5)) ∧ (xI ((l * 5) + s)) ∧ ((0 : Int) ≤ (l * 5) + s ∧ ((l * 5) + s : Int) < 40) ∧ Q (H 60 ((l * 5) + s)) H) ∧ (¬ ((0 ≤ s ∧ s ≤ 4)) → Q 0 H))) ∧ (¬ ((0 ≤ l ∧ l < H 59 1)) → Q 0 H))) : xc X (d + 1) 80 [(2, 59), (0, l), (0, s)] H Q := by
  refine ⟨rfl, ?_⟩
  show xq X d 80 Q 100000 [(0, (2, 59)), (1, (0, l)), (2, (0, s))] [] H
  refine xq_run [5, 12] 300 ?_
  show xWM (xE X) xMC d 49 [(2, 59), (0, l)] xKZ H _
  refine xc_in (s_49_o59 (by omega) l H  ?_)
  replace h := h
  show xq X d 80 Q 5 [(0, (2, 59)), (1, (0, l)), (2, (0, s))] [(0, xb (0 ≤ l ∧ l < H 59 1))] H
  refine xq_run [5, 12] 300 ?_
  show ((xb (0 ≤ l ∧ l < H 59 1) = 0) → xfR 0 0 ∧ xKZ = xKZ ∧ Q 0 H) ∧ (¬ (xb (0 ≤ l ∧ l < H 59 1) = 0) → xWM (xE X) xMC d 31 [(0, s)] xKZ H _)
  refine ⟨fun k_ => ?_, fun k_ => ?_⟩
  · replace h := h.2 (xbe_0.mp k_)
    exact ⟨trivial, rfl, h⟩
  · replace h := h.1 (xbe_1.mp k_)
    refine xc_in (s_31 (by omega) s H  ?_)
    replace h := h
    show xq X d 80 Q 12 [(0, (2, 59)), (1, (0, l)), (2, (0, s))] [(0, xb (0 ≤ s ∧ s ≤ 4))] H
    refine xq_run [5, 12] 300 ?_
    show ((xb (0 ≤ s ∧ s ≤ 4) = 0) → xfR 0 0 ∧ xKZ = xKZ ∧ Q 0 H) ∧ (¬ (xb (0 ≤ s ∧ s ≤ 4) = 0) → (xI (l * 5)) ∧ (xI ((l * 5) + s)) ∧ ((0 : Int) ≤ (l * 5) + s ∧ ((l * 5) + s : Int) < 40) ∧ xfR 0 (H 60 ((l * 5) + s)) ∧ xKZ = xKZ ∧ Q (H 60 ((l * 5) + s)) H)
    refine ⟨fun k_ => ?_, fun k_ => ?_⟩
    · replace h := h.2 (xbe_0.mp k_)
      exact ⟨trivial, rfl, h⟩
    · replace h := h.1 (xbe_1.mp k_)
      refine ⟨h.1, ?_⟩
      replace h := h.2
      refine ⟨h.1, ?_⟩
      replace h := h.2
      refine ⟨h.1, ?_⟩
      replace h := h.2
      exact ⟨trivial, rfl, h⟩

theorem s_80_o59 {X : Int × (Int → Int)} {d : Nat} {Q : Int → XH → Prop} (hd : 2 ≤ d) (l s : Int) (H : XH) (p0 : 0 ≤ l ∧ l < H 59 1) (p1 : 0 ≤ s ∧ s < 5) (p2 : H 59 1 ≤ 8) (hQ : Q (H 60 (l * 5 + s)) H) : xc X d 80 [(2, 59), (0, l), (0, s)] H Q := by
  cases d with
  | zero => omega
  | succ d =>
  refine U_80_o59 (by omega) l s H ?_
  refine ⟨fun c1 => ?_, fun c1 => ?_⟩
  · skip
    refine ⟨fun c2 => ?_, fun c2 => ?_⟩
    · skip
      refine ⟨?_, ?_⟩
      · first | omega | (unfold xI; omega) | (unfold xJ; omega) | assumption | (exfalso; omega)
      refine ⟨?_, ?_⟩
      · first | omega | (unfold xI; omega) | (unfold xJ; omega) | assumption | (exfalso; omega)
      refine ⟨?_, ?_⟩
      · first | omega | (unfold xI; omega) | (unfold xJ; omega) | assumption | (exfalso; omega)
      first | exact hQ | (exfalso; omega)
    · skip
      first | exact hQ | (exfalso; omega)
  · skip
    first | exact hQ | (exfalso; omega)

theorem U_116 {X : Int × (Int → Int)} {d : Nat} {Q : Int → XH → Prop} (hd : 0 ≤ d) (l m : Int) (H : XH) (h : xq X d 116 Q 3 [(0, (2, 9)), (1, (2, 7)), (2, (0, l)), (3, (0, m)), (4, (0, 0))] [] H) : xc X (d + 1) 116 [(2, 9), (2, 7), (0, l), (0, m)] H Q := by
  refine ⟨rfl, ?_⟩
  show xq X d 116 Q 100000 [(0, (2, 9)), (1, (2, 7)), (2, (0, l)), (3, (0, m))] [] H
  refine xq_run [3, 16, 49] 300 ?_
  show xq X d 116 Q 3 [(0, (2, 9)), (1, (2, 7)), (2, (0, l)), (3, (0, m)), (4, (0, 0))] [] H
  exact h
theorem U_116_3 {X : Int × (Int → Int)} {d : Nat} {Q : Int → XH → Prop} (hd : 4 ≤ d) (v2 v3 v4 : Int) (H : XH) (h : ((5 ≤ v4) → Q 1 H) ∧ (¬ (5 ≤ v4) → (0 ≤ v2 ∧ v2 < H 7 1) ∧ (0 ≤ v4 ∧ v4 < 5) ∧ (H 7 1 ≤ 8) ∧ (((H 8 (v2 * 5 + v4) ≤ 0) → (xI (v4 + 1)) ∧ xq X d 116 Q 3 [(0, (2, 9)), (1, (2, 7)), (2, (0, v2)), (3, (0, v3)), (4, (0, v4 + 1))] [] H) ∧ (¬ (H 8 (v2 * 5 + v4) ≤ 0) → ((0 : Int) ≤ v4 ∧ (v4 : Int) < 5) ∧ ((H 10 v4 = (-1)) → (xI (v4 + 1)) ∧ xq X d 116 Q 3 [(0, (2, 9)), (1, (2, 7)), (2, (0, v2)), (3, (0, v3)), (4, (0, v4 + 1))] [] H) ∧ (¬ (H 10 v4 = (-1)) → (InvS H) ∧ (0 ≤ v4 ∧ v4 < 5) ∧ (0 ≤ v3 ∧ v3 < 12) ∧ (¬ H 68 (600 + 2 * v4) = -1) ∧ (((¬ duV (H 68) v4 v3 = 0) → (xI (v4 + 1)) ∧ xq X d 116 Q 3 [(0, (2, 9)), (1, (2, 7)), (2, (0, v2)), (3, (0, v3)), (4, (0, v4 + 1))] [] H) ∧ (¬ (¬ duV (H 68) v4 v3 = 0) → Q 0 H))))))) : xq X d 116 Q 3 [(0, (2, 9)), (1, (2, 7)), (2, (0, v2)), (3, (0, v3)), (4, (0, v4))] [] H := by
  show xq X d 116 Q 3 [(0, (2, 9)), (1, (2, 7)), (2, (0, v2)), (3, (0, v3)), (4, (0, v4))] [] H
  refine xq_run [3, 16, 49] 300 ?_
  show ((5 ≤ v4) → xfR 3 1 ∧ xKZ = xKZ ∧ Q 1 H) ∧ (¬ (5 ≤ v4) → xWM (xE X) xMC d 80 [(2, 7), (0, v2), (0, v4)] xKZ H _)
  refine ⟨fun k_ => ?_, fun k_ => ?_⟩
  · replace h := h.1 k_
    exact ⟨xfR3_1, rfl, h⟩
  · replace h := h.2 k_
    refine xc_in (s_80_o7 (by omega) v2 v4 H (h.1) (h.2.1) (h.2.2.1) ?_)
    replace h := h.2.2.2
    show xq X d 116 Q 16 [(0, (2, 9)), (1, (2, 7)), (2, (0, v2)), (3, (0, v3)), (4, (0, v4))] [(0, H 8 (v2 * 5 + v4))] H
    refine xq_run [3, 16, 49] 300 ?_
    show ((H 8 (v2 * 5 + v4) ≤ 0) → ((0 = 0) → (xI (v4 + 1)) ∧ xq X d 116 Q 3 [(0, (2, 9)), (1, (2, 7)), (2, (0, v2)), (3, (0, v3)), (4, (0, v4 + 1))] [] H) ∧ (¬ (0 = 0) → _)) ∧ (¬ (H 8 (v2 * 5 + v4) ≤ 0) → ((0 : Int) ≤ v4 ∧ (v4 : Int) < 5) ∧ ((H 10 v4 = (-1)) → ((0 = 0) → (xI (v4 + 1)) ∧ xq X d 116 Q 3 [(0, (2, 9)), (1, (2, 7)), (2, (0, v2)), (3, (0, v3)), (4, (0, v4 + 1))] [] H) ∧ (¬ (0 = 0) → _)) ∧ (¬ (H 10 v4 = (-1)) → ((1 = 0) → _) ∧ (¬ (1 = 0) → xWM (xE X) xMC d 115 [(2, 9), (0, v4), (0, v3)] xKZ H _)))
    refine ⟨fun k_ => ?_, fun k_ => ?_⟩
    · replace h := h.1 k_
      refine ⟨fun k_ => ?_, fun k_ => absurd (by decide) k_⟩
      refine ⟨h.1, ?_⟩
      replace h := h.2
      exact h
    · replace h := h.2 k_
      refine ⟨h.1, ?_⟩
      replace h := h.2
      refine ⟨fun k_ => ?_, fun k_ => ?_⟩
      · replace h := h.1 k_
        refine ⟨fun k_ => ?_, fun k_ => absurd (by decide) k_⟩
        refine ⟨h.1, ?_⟩
        replace h := h.2
        exact h
      · replace h := h.2 k_
        refine ⟨fun k_ => absurd k_ (by decide), fun k_ => ?_⟩
        refine xc_in (s_115 (by omega) v4 v3 H (h.1) (h.2.1) (h.2.2.1) (h.2.2.2.1) ?_)
        replace h := h.2.2.2.2
        show xq X d 116 Q 49 [(5, (0, 1)), (0, (2, 9)), (1, (2, 7)), (2, (0, v2)), (3, (0, v3)), (4, (0, v4))] [(0, duV (H 68) v4 v3)] H
        refine xq_run [3, 16, 49] 300 ?_
        show ((¬ duV (H 68) v4 v3 = 0) → (xI (v4 + 1)) ∧ xq X d 116 Q 3 [(0, (2, 9)), (1, (2, 7)), (2, (0, v2)), (3, (0, v3)), (4, (0, v4 + 1))] [] H) ∧ (¬ (¬ duV (H 68) v4 v3 = 0) → xfR 3 0 ∧ xKZ = xKZ ∧ Q 0 H)
        refine ⟨fun k_ => ?_, fun k_ => ?_⟩
        · replace h := h.1 k_
          refine ⟨h.1, ?_⟩
          replace h := h.2
          exact h
        · replace h := h.2 k_
          exact ⟨xfR3_0, rfl, h⟩

theorem s_116 {X : Int × (Int → Int)} {d : Nat} {Q : Int → XH → Prop} (hd : 5 ≤ d) (l m : Int) (H : XH) (hi : InvS H) (pl : 0 ≤ l ∧ l < H 68 1) (pm : 0 ≤ m ∧ m < 12) (hQ : Q (cbV (H 68) l m) H) : xc X d 116 [(2, 9), (2, 7), (0, l), (0, m)] H Q := by
  cases d with
  | zero => omega
  | succ d =>
  have hg := hi.1
  have hs := hi.2
  have lyb := hg.lyb
  have hc := hs.c
  have key : ∀ (k : Nat) (s : Int), 0 ≤ s → s + k = 5 → cR (fun s => H 68 (560 + 5 * l + s)) (fun s => H 68 (600 + 2 * s)) (fun s => duV (H 68) s m) k s = cbV (H 68) l m → xq X d 116 Q 3 [(0, (2, 9)), (1, (2, 7)), (2, (0, l)), (3, (0, m)), (4, (0, s))] [] H := by
    intro k
    induction k with
    | zero =>
      intro s h0 hn hq
      unfold cR at hq
      rw [← hq] at hQ
      refine U_116_3 (by omega) l m s H ?_
      refine ⟨fun c1 => ?_, fun c1 => ?_⟩
      · skip
        first | exact hQ | (exfalso; omega)
      · skip
        refine ⟨?_, ?_⟩
        · first | omega | (unfold xI; omega) | (unfold xJ; omega) | assumption | (exfalso; omega) | exact hi
        refine ⟨?_, ?_⟩
        · first | omega | (unfold xI; omega) | (unfold xJ; omega) | assumption | (exfalso; omega) | exact hi
        refine ⟨?_, ?_⟩
        · first | omega | (unfold xI; omega) | (unfold xJ; omega) | assumption | (exfalso; omega) | exact hi
        refine ⟨fun c2 => ?_, fun c2 => ?_⟩
        · skip
          refine ⟨?_, ?_⟩
          · first | omega | (unfold xI; omega) | (unfold xJ; omega) | assumption | (exfalso; omega) | exact hi
          first | exact hQ | (exfalso; omega)
        · skip
          refine ⟨?_, ?_⟩
          · first | omega | (unfold xI; omega) | (unfold xJ; omega) | assumption | (exfalso; omega) | exact hi
          refine ⟨fun c3 => ?_, fun c3 => ?_⟩
          · skip
            refine ⟨?_, ?_⟩
            · first | omega | (unfold xI; omega) | (unfold xJ; omega) | assumption | (exfalso; omega) | exact hi
            first | exact hQ | (exfalso; omega)
          · skip
            refine ⟨?_, ?_⟩
            · first | omega | (unfold xI; omega) | (unfold xJ; omega) | assumption | (exfalso; omega) | exact hi
            refine ⟨?_, ?_⟩
            · first | omega | (unfold xI; omega) | (unfold xJ; omega) | assumption | (exfalso; omega) | exact hi
            refine ⟨?_, ?_⟩
            · first | omega | (unfold xI; omega) | (unfold xJ; omega) | assumption | (exfalso; omega) | exact hi
            refine ⟨?_, ?_⟩
            · first | omega | (unfold xI; omega) | (unfold xJ; omega) | assumption | (exfalso; omega) | exact hi
            refine ⟨fun c4 => ?_, fun c4 => ?_⟩
            · skip
              refine ⟨?_, ?_⟩
              · first | omega | (unfold xI; omega) | (unfold xJ; omega) | assumption | (exfalso; omega) | exact hi
              first | exact hQ | (exfalso; omega)
            · skip
              first | exact hQ | (exfalso; omega)
    | succ k ih =>
      intro s h0 hn hq
      unfold cR at hq
      have ff := hs.ff s h0 (by omega)
      have am := hs.am (l * 5 + s) (by omega) (by omega)
      rw [show 560 + (l * 5 + s) = 560 + 5 * l + s by omega] at am
      refine U_116_3 (by omega) l m s H ?_
      refine ⟨fun c1 => ?_, fun c1 => ?_⟩
      · skip
        exfalso
        omega
      · skip
        refine ⟨?_, ?_⟩
        · first | omega | exact hi | (unfold xI; omega)
        refine ⟨?_, ?_⟩
        · first | omega | exact hi | (unfold xI; omega)
        refine ⟨?_, ?_⟩
        · first | omega | exact hi | (unfold xI; omega)
        refine ⟨fun c2 => ?_, fun c2 => ?_⟩
        · skip
          refine ⟨?_, ?_⟩
          · first | omega | exact hi | (unfold xI; omega)
          rw [if_pos (by omega)] at hq
          exact ih (s + 1) (by omega) (by omega) hq
        · skip
          refine ⟨?_, ?_⟩
          · first | omega | exact hi | (unfold xI; omega)
          refine ⟨fun c3 => ?_, fun c3 => ?_⟩
          · skip
            refine ⟨?_, ?_⟩
            · first | omega | exact hi | (unfold xI; omega)
            rw [if_pos (by omega)] at hq
            exact ih (s + 1) (by omega) (by omega) hq
          · skip
            refine ⟨?_, ?_⟩
            · first | omega | exact hi | (unfold xI; omega)
            refine ⟨?_, ?_⟩
            · first | omega | exact hi | (unfold xI; omega)
            refine ⟨?_, ?_⟩
            · first | omega | exact hi | (unfold xI; omega)
            refine ⟨?_, ?_⟩
            · first | omega | exact hi | (unfold xI; omega)
            refine ⟨fun c4 => ?_, fun c4 => ?_⟩
            · skip
              refine ⟨?_, ?_⟩
              · first | omega | exact hi | (unfold xI; omega)
              rw [if_neg (by omega), if_neg (by assumption)] at hq
              exact ih (s + 1) (by omega) (by omega) hq
            · skip
              rw [if_neg (by omega), if_pos (by omega)] at hq
              rw [← hq] at hQ
              exact hQ
  refine U_116 (by omega) l m H ?_
  exact key 5 0 (by omega) (by omega) rfl

theorem mask_bit (f : Int → Int) : ∀ (k j : Nat) (c : Int), j < k → (maskR f k c / 2 ^ j) % 2 = if f (c + j) = 0 then 0 else 1
  | 0, j, c, h => by omega
  | k + 1, 0, c, _ => by
    unfold maskR
    rw [Nat.pow_zero, Nat.div_one, Int.natCast_zero, Int.add_zero]
    split <;> omega
  | k + 1, j + 1, c, h => by
    have ih := mask_bit f k j (c + 1) (by omega)
    unfold maskR
    have e : ∀ x : Nat, x / 2 ^ (j + 1) = x / 2 / 2 ^ j := fun x => by rw [Nat.pow_succ, Nat.mul_comm (2 ^ j) 2, Nat.div_div_eq_div_mul]
    rw [e, show ((if f c = 0 then 0 else 1) + 2 * maskR f k (c + 1)) / 2 = maskR f k (c + 1) by split <;> omega, ih]
    rw [show c + 1 + (j : Int) = c + ((j + 1 : Nat) : Int) by omega]
theorem bit_test (f : Int → Int) {m : Int} (hm : 0 ≤ m ∧ m < 12) : xand (xshr (maskR f 12 0 : Nat) m) 1 = 0 ↔ f m = 0 := by
  have h1 := maskR_lt f 12 0
  have h2 : (2 : Nat) ^ 12 = 4096 := rfl
  obtain ⟨j, rfl⟩ : ∃ j : Nat, m = j := ⟨m.toNat, by omega⟩
  have h3 := mask_bit f 12 j 0 (by omega)
  rw [Int.zero_add] at h3
  rw [xshr_div (by unfold xI; omega) (by omega)]
  have e : ((maskR f 12 0 : Nat) : Int) / ((2 ^ j : Nat) : Int) = ((maskR f 12 0 / 2 ^ j : Nat) : Int) := rfl
  rw [e]
  have hle : maskR f 12 0 / 2 ^ j ≤ maskR f 12 0 := Nat.div_le_self _ _
  clear e
  generalize maskR f 12 0 / 2 ^ j = D at *
  rw [xand_1 (by unfold xI; omega)]
  constructor
  · intro k
    by_cases hf : f j = 0
    · exact hf
    · rw [if_neg hf] at h3
      omega
  · intro k
    rw [if_pos k] at h3
    omega
theorem bit_or {f : Int → Int} {k j v M : Nat} (hj : j + (k + 1) = 12) (hv : v < 2 ^ j) (hm : v + 2 ^ j * maskR f (k + 1) (j : Int) = M) : (f j = 0 → v < 2 ^ (j + 1) ∧ v + 2 ^ (j + 1) * maskR f k ((j + 1 : Nat) : Int) = M) ∧ (¬ f j = 0 → xor_ (v : Int) (xshl 1 (j : Int)) = ((v + 2 ^ j : Nat) : Int) ∧ v + 2 ^ j < 2 ^ (j + 1) ∧ (v + 2 ^ j) + 2 ^ (j + 1) * maskR f k ((j + 1 : Nat) : Int) = M) := by
  have hp : 2 ^ (j + 1) = 2 ^ j * 2 := Nat.pow_succ 2 j
  have hp2 : 2 ^ (j + 1) ≤ 2 ^ 12 := Nat.pow_le_pow_right (by decide) (by omega)
  have h2 : (2 : Nat) ^ 12 = 4096 := rfl
  unfold maskR at hm
  rw [show ((j : Int) + 1) = ((j + 1 : Nat) : Int) from rfl] at hm
  refine ⟨fun q => ?_, fun q => ?_⟩
  · rw [if_pos q, Nat.zero_add, ← Nat.mul_assoc, ← hp] at hm
    exact ⟨by omega, hm⟩
  · rw [if_neg q, Nat.mul_add, Nat.mul_one, ← Nat.mul_assoc, ← hp, ← Nat.add_assoc] at hm
    refine ⟨?_, by omega, hm⟩
    rw [xshl_1 j (by omega), xor_nat (by omega) (by omega)]
    congr 1
    have := Nat.two_pow_add_eq_or_of_lt hv 1
    rw [Nat.mul_one] at this
    rw [Nat.or_comm, ← this]
    omega

theorem U_117 {X : Int × (Int → Int)} {d : Nat} {Q : Int → XH → Prop} (hd : 0 ≤ d) (l : Int) (H : XH) (h : xq X d 117 Q 5 [(0, (2, 9)), (1, (2, 7)), (2, (0, l)), (3, (0, 0)), (4, (0, 0))] [] H) : xc X (d + 1) 117 [(2, 9), (2, 7), (0, l)] H Q := by
  refine ⟨rfl, ?_⟩
  show xq X d 117 Q 100000 [(0, (2, 9)), (1, (2, 7)), (2, (0, l))] [] H
  refine xq_run [5, 20] 300 ?_
  show xq X d 117 Q 5 [(0, (2, 9)), (1, (2, 7)), (2, (0, l)), (3, (0, 0)), (4, (0, 0))] [] H
  exact h
theorem U_117_5 {X : Int × (Int → Int)} {d : Nat} {Q : Int → XH → Prop} (hd : 5 ≤ d) (v2 v3 v4 : Int) (H : XH) (h : ((12 ≤ v4) → Q v3 H) ∧ (¬ (12 ≤ v4) → (InvS H) ∧ (0 ≤ v2 ∧ v2 < H 68 1) ∧ (0 ≤ v4 ∧ v4 < 12) ∧ (((cbV (H 68) v2 v4 = 0) → (xI (v4 + 1)) ∧ xq X d 117 Q 5 [(0, (2, 9)), (1, (2, 7)), (2, (0, v2)), (3, (0, v3)), (4, (0, v4 + 1))] [] H) ∧ (¬ (cbV (H 68) v2 v4 = 0) → (xI (v4 + 1)) ∧ xq X d 117 Q 5 [(0, (2, 9)), (1, (2, 7)), (2, (0, v2)), (3, (0, xor_ v3 (xshl 1 v4))), (4, (0, v4 + 1))] [] H)))) : xq X d 117 Q 5 [(0, (2, 9)), (1, (2, 7)), (2, (0, v2)), (3, (0, v3)), (4, (0, v4))] [] H := by
  show xq X d 117 Q 5 [(0, (2, 9)), (1, (2, 7)), (2, (0, v2)), (3, (0, v3)), (4, (0, v4))] [] H
  refine xq_run [5, 20] 300 ?_
  show ((12 ≤ v4) → xfR 0 v3 ∧ xKZ = xKZ ∧ Q v3 H) ∧ (¬ (12 ≤ v4) → xWM (xE X) xMC d 116 [(2, 9), (2, 7), (0, v2), (0, v4)] xKZ H _)
  refine ⟨fun k_ => ?_, fun k_ => ?_⟩
  · replace h := h.1 k_
    exact ⟨trivial, rfl, h⟩
  · replace h := h.2 k_
    refine xc_in (s_116 (by omega) v2 v4 H (h.1) (h.2.1) (h.2.2.1) ?_)
    replace h := h.2.2.2
    show xq X d 117 Q 20 [(0, (2, 9)), (1, (2, 7)), (2, (0, v2)), (3, (0, v3)), (4, (0, v4))] [(0, cbV (H 68) v2 v4)] H
    refine xq_run [5, 20] 300 ?_
    show ((cbV (H 68) v2 v4 = 0) → (xI (v4 + 1)) ∧ xq X d 117 Q 5 [(0, (2, 9)), (1, (2, 7)), (2, (0, v2)), (3, (0, v3)), (4, (0, v4 + 1))] [] H) ∧ (¬ (cbV (H 68) v2 v4 = 0) → (xI (v4 + 1)) ∧ xq X d 117 Q 5 [(0, (2, 9)), (1, (2, 7)), (2, (0, v2)), (3, (0, xor_ v3 (xshl 1 v4))), (4, (0, v4 + 1))] [] H)
    refine ⟨fun k_ => ?_, fun k_ => ?_⟩
    · replace h := h.1 k_
      refine ⟨h.1, ?_⟩
      replace h := h.2
      exact h
    · replace h := h.2 k_
      refine ⟨h.1, ?_⟩
      replace h := h.2
      exact h

theorem s_117 {X : Int × (Int → Int)} {d : Nat} {Q : Int → XH → Prop} (hd : 6 ≤ d) (l : Int) (H : XH) (hi : InvS H) (pl : 0 ≤ l ∧ l < H 68 1) (hQ : Q (maskR (cbV (H 68) l) 12 0 : Nat) H) : xc X d 117 [(2, 9), (2, 7), (0, l)] H Q := by
  cases d with
  | zero => omega
  | succ d =>
  obtain ⟨M, hM⟩ : ∃ M, maskR (cbV (H 68) l) 12 0 = M := ⟨_, rfl⟩
  rw [hM] at hQ
  have key : ∀ (k j v : Nat), j + k = 12 → v < 2 ^ j → v + 2 ^ j * maskR (cbV (H 68) l) k (j : Int) = M → xq X d 117 Q 5 [(0, (2, 9)), (1, (2, 7)), (2, (0, l)), (3, (0, (v : Int))), (4, (0, (j : Int)))] [] H := by
    intro k
    induction k with
    | zero =>
      intro j v hj hv hm
      unfold maskR at hm
      rw [Nat.mul_zero, Nat.add_zero] at hm
      rw [← hm] at hQ
      refine U_117_5 (by omega) l (v : Int) (j : Int) H ?_
      refine ⟨fun c1 => ?_, fun c1 => ?_⟩
      · skip
        first | exact hQ | (exfalso; omega)
      · skip
        refine ⟨?_, ?_⟩
        · first | omega | exact hi | (exfalso; omega) | (unfold xI; omega)
        refine ⟨?_, ?_⟩
        · first | omega | exact hi | (exfalso; omega) | (unfold xI; omega)
        refine ⟨?_, ?_⟩
        · first | omega | exact hi | (exfalso; omega) | (unfold xI; omega)
        refine ⟨fun c2 => ?_, fun c2 => ?_⟩
        · skip
          refine ⟨?_, ?_⟩
          · first | omega | exact hi | (exfalso; omega) | (unfold xI; omega)
          first | exact hQ | (exfalso; omega)
        · skip
          refine ⟨?_, ?_⟩
          · first | omega | exact hi | (exfalso; omega) | (unfold xI; omega)
          first | exact hQ | (exfalso; omega)
    | succ k ih =>
      intro j v hj hv hm
      obtain ⟨b1, b2⟩ := bit_or hj hv hm
      refine U_117_5 (by omega) l (v : Int) (j : Int) H ?_
      refine ⟨fun c1 => ?_, fun c1 => ?_⟩
      · skip
        exfalso
        omega
      · skip
        refine ⟨?_, ?_⟩
        · first | omega | exact hi | (unfold xI; omega)
        refine ⟨?_, ?_⟩
        · first | omega | exact hi | (unfold xI; omega)
        refine ⟨?_, ?_⟩
        · first | omega | exact hi | (unfold xI; omega)
        refine ⟨fun c2 => ?_, fun c2 => ?_⟩
        · skip
          refine ⟨?_, ?_⟩
          · first | omega | exact hi | (unfold xI; omega)
          obtain ⟨z1, z2⟩ := b1 (by assumption)
          exact ih (j + 1) v (by omega) z1 z2
        · skip
          refine ⟨?_, ?_⟩
          · first | omega | exact hi | (unfold xI; omega)
          obtain ⟨z0, z1, z2⟩ := b2 (by assumption)
          rw [z0]
          exact ih (j + 1) (v + 2 ^ j) (by omega) z1 z2
  refine U_117 (by omega) l H ?_
  have z := key 12 0 0 (by omega) (by decide) (by rw [Nat.zero_add, Nat.pow_zero, Nat.one_mul]; exact hM)
  exact z

theorem U_119 {X : Int × (Int → Int)} {d : Nat} {Q : Int → XH → Prop} (hd : 1 ≤ d) (s m : Int) (H : XH) (h : (xI (2 * s)) ∧ (xI (600 + (2 * s))) ∧ ((0 : Int) ≤ 600 + (2 * s) ∧ (600 + (2 * s) : Int) < 1180) ∧ (xI (2 * s)) ∧ (xI (600 + (2 * s))) ∧ (xI ((600 + (2 * s)) + 1)) ∧ ((0 : Int) ≤ (600 + (2 * s)) + 1 ∧ ((600 + (2 * s)) + 1 : Int) < 1180) ∧ ((H 68 ((600 + (2 * s)) + 1) < H 68 (600 + (2 * s))) → ((H 68 (600 + (2 * s)) ≤ m) → Q 1 H) ∧ (¬ (H 68 (600 + (2 * s)) ≤ m) → ((H 68 ((600 + (2 * s)) + 1) < m) → Q 0 H) ∧ (¬ (H 68 ((600 + (2 * s)) + 1) < m) → Q 1 H))) ∧ (¬ (H 68 ((600 + (2 * s)) + 1) < H 68 (600 + (2 * s))) → (Q (xb ((H 68 (600 + (2 * s))) ≤ m ∧ m ≤ (H 68 ((600 + (2 * s)) + 1)))) H))) : xc X (d + 1) 119 [(2, 67), (0, s), (0, m)] H Q := by
  refine ⟨rfl, ?_⟩
  show xq X d 119 Q 100000 [(0, (2, 67)), (1, (0, s)), (2, (0, m))] [] H
  refine xq_run [42] 300 ?_
  show (xI (2 * s)) ∧ (xI (600 + (2 * s))) ∧ ((0 : Int) ≤ 600 + (2 * s) ∧ (600 + (2 * s) : Int) < 1180) ∧ (xI (2 * s)) ∧ (xI (600 + (2 * s))) ∧ (xI ((600 + (2 * s)) + 1)) ∧ ((0 : Int) ≤ (600 + (2 * s)) + 1 ∧ ((600 + (2 * s)) + 1 : Int) < 1180) ∧ ((H 68 ((600 + (2 * s)) + 1) < H 68 (600 + (2 * s))) → ((H 68 (600 + (2 * s)) ≤ m) → xfR 3 1 ∧ xKZ = xKZ ∧ Q 1 H) ∧ (¬ (H 68 (600 + (2 * s)) ≤ m) → ((H 68 ((600 + (2 * s)) + 1) < m) → xfR 3 0 ∧ xKZ = xKZ ∧ Q 0 H) ∧ (¬ (H 68 ((600 + (2 * s)) + 1) < m) → xfR 3 1 ∧ xKZ = xKZ ∧ Q 1 H))) ∧ (¬ (H 68 ((600 + (2 * s)) + 1) < H 68 (600 + (2 * s))) → xWM (xE X) xMC d 23 [(0, m), (0, H 68 (600 + (2 * s))), (0, H 68 ((600 + (2 * s)) + 1))] xKZ H _)
  refine ⟨h.1, ?_⟩
  replace h := h.2
  refine ⟨h.1, ?_⟩
  replace h := h.2
  refine ⟨h.1, ?_⟩
  replace h := h.2
  refine ⟨h.1, ?_⟩
  replace h := h.2
  refine ⟨h.1, ?_⟩
  replace h := h.2
  refine ⟨h.1, ?_⟩
  replace h := h.2
  refine ⟨h.1, ?_⟩
  replace h := h.2
  refine ⟨fun k_ => ?_, fun k_ => ?_⟩
  · replace h := h.1 k_
    refine ⟨fun k_ => ?_, fun k_ => ?_⟩
    · replace h := h.1 k_
      exact ⟨xfR3_1, rfl, h⟩
    · replace h := h.2 k_
      refine ⟨fun k_ => ?_, fun k_ => ?_⟩
      · replace h := h.1 k_
        exact ⟨xfR3_0, rfl, h⟩
      · replace h := h.2 k_
        exact ⟨xfR3_1, rfl, h⟩
  · replace h := h.2 k_
    refine xc_in (s_23 (by omega) m (H 68 (600 + (2 * s))) (H 68 ((600 + (2 * s)) + 1)) H  ?_)
    replace h := h
    show xq X d 119 Q 42 [(4, (0, H 68 ((600 + (2 * s)) + 1))), (3, (0, H 68 (600 + (2 * s)))), (0, (2, 67)), (1, (0, s)), (2, (0, m))] [(0, xb ((H 68 (600 + (2 * s))) ≤ m ∧ m ≤ (H 68 ((600 + (2 * s)) + 1))))] H
    refine xq_run [42] 300 ?_
    show xfR 3 (xb ((H 68 (600 + (2 * s))) ≤ m ∧ m ≤ (H 68 ((600 + (2 * s)) + 1)))) ∧ xKZ = xKZ ∧ Q (xb ((H 68 (600 + (2 * s))) ≤ m ∧ m ≤ (H 68 ((600 + (2 * s)) + 1)))) H
    exact ⟨xfR3_b, rfl, h⟩

theorem s_119 {X : Int × (Int → Int)} {d : Nat} {Q : Int → XH → Prop} (hd : 2 ≤ d) (s m : Int) (H : XH) (p0 : 0 ≤ s ∧ s < 5) (hQ : Q (flI (H 68 (600 + 2 * s)) (H 68 (601 + 2 * s)) m) H) : xc X d 119 [(2, 67), (0, s), (0, m)] H Q := by
  cases d with
  | zero => omega
  | succ d =>
  unfold flI at hQ
  have e : 600 + 2 * s + 1 = 601 + 2 * s := by omega
  have e2 : ∀ c : Prop, [Decidable c] → xb c = if c then 1 else 0 := fun c _ => rfl
  refine U_119 (by omega) s m H ?_
  refine ⟨?_, ?_⟩
  · first | omega | (unfold xI; omega) | (unfold xJ; omega) | assumption | (exfalso; omega)
  refine ⟨?_, ?_⟩
  · first | omega | (unfold xI; omega) | (unfold xJ; omega) | assumption | (exfalso; omega)
  refine ⟨?_, ?_⟩
  · first | omega | (unfold xI; omega) | (unfold xJ; omega) | assumption | (exfalso; omega)
  refine ⟨?_, ?_⟩
  · first | omega | (unfold xI; omega) | (unfold xJ; omega) | assumption | (exfalso; omega)
  refine ⟨?_, ?_⟩
  · first | omega | (unfold xI; omega) | (unfold xJ; omega) | assumption | (exfalso; omega)
  refine ⟨?_, ?_⟩
  · first | omega | (unfold xI; omega) | (unfold xJ; omega) | assumption | (exfalso; omega)
  refine ⟨?_, ?_⟩
  · first | omega | (unfold xI; omega) | (unfold xJ; omega) | assumption | (exfalso; omega)
  refine ⟨fun c1 => ?_, fun c1 => ?_⟩
  · skip
    refine ⟨fun c2 => ?_, fun c2 => ?_⟩
    · skip
      first | (rw [if_pos (by omega)] at hQ; rw [e]; exact hQ) | (rw [if_neg (by rw [← e]; omega), if_pos (by rw [← e]; omega)] at hQ; exact hQ) | (rw [if_neg (by rw [← e]; omega), if_neg (by rw [← e]; omega)] at hQ; exact hQ) | (rw [e] at *; rw [if_pos (by omega)] at hQ; exact hQ)
    · skip
      refine ⟨fun c3 => ?_, fun c3 => ?_⟩
      · skip
        first | (rw [if_pos (by omega)] at hQ; rw [e]; exact hQ) | (rw [if_neg (by rw [← e]; omega), if_pos (by rw [← e]; omega)] at hQ; exact hQ) | (rw [if_neg (by rw [← e]; omega), if_neg (by rw [← e]; omega)] at hQ; exact hQ) | (rw [e] at *; rw [if_pos (by omega)] at hQ; exact hQ)
      · skip
        first | (rw [if_pos (by omega)] at hQ; rw [e]; exact hQ) | (rw [if_neg (by rw [← e]; omega), if_pos (by rw [← e]; omega)] at hQ; exact hQ) | (rw [if_neg (by rw [← e]; omega), if_neg (by rw [← e]; omega)] at hQ; exact hQ) | (rw [e] at *; rw [if_pos (by omega)] at hQ; exact hQ)
  · skip
    first | (rw [if_pos (by omega)] at hQ; rw [e]; exact hQ) | (rw [if_neg (by rw [← e]; omega), if_pos (by rw [← e]; omega)] at hQ; exact hQ) | (rw [if_neg (by rw [← e]; omega), if_neg (by rw [← e]; omega)] at hQ; exact hQ) | (rw [e] at *; rw [if_pos (by omega)] at hQ; exact hQ)

theorem U_120 {X : Int × (Int → Int)} {d : Nat} {Q : Int → XH → Prop} (hd : 0 ≤ d) (l m : Int) (H : XH) (h : xq X d 120 Q 5 [(0, (2, 67)), (1, (0, l)), (2, (0, m)), (3, (0, 1)), (4, (0, 0))] [] H) : xc X (d + 1) 120 [(2, 67), (0, l), (0, m)] H Q := by
  refine ⟨rfl, ?_⟩
  show xq X d 120 Q 100000 [(0, (2, 67)), (1, (0, l)), (2, (0, m))] [] H
  refine xq_run [5, 52, 85] 300 ?_
  show xq X d 120 Q 5 [(0, (2, 67)), (1, (0, l)), (2, (0, m)), (3, (0, 1)), (4, (0, 0))] [] H
  exact h
theorem U_120_5 {X : Int × (Int → Int)} {d : Nat} {Q : Int → XH → Prop} (hd : 0 ≤ d) (v1 v2 v3 v4 : Int) (H : XH) (h : ((5 ≤ v4) → (0 ≤ v3 ∧ v3 ≤ 1) ∧ Q v3 H) ∧ (¬ (5 ≤ v4) → (xI (5 * v1)) ∧ (xI (560 + (5 * v1))) ∧ (xI ((560 + (5 * v1)) + v4)) ∧ ((0 : Int) ≤ (560 + (5 * v1)) + v4 ∧ ((560 + (5 * v1)) + v4 : Int) < 1180) ∧ ((H 68 ((560 + (5 * v1)) + v4) ≤ 0) → (xI (v4 + 1)) ∧ xq X d 120 Q 5 [(0, (2, 67)), (1, (0, v1)), (2, (0, v2)), (3, (0, v3)), (4, (0, v4 + 1))] [] H) ∧ (¬ (H 68 ((560 + (5 * v1)) + v4) ≤ 0) → (xI (2 * v4)) ∧ (xI (600 + (2 * v4))) ∧ ((0 : Int) ≤ 600 + (2 * v4) ∧ (600 + (2 * v4) : Int) < 1180) ∧ ((H 68 (600 + (2 * v4)) = (-1)) → (xI (v4 + 1)) ∧ xq X d 120 Q 5 [(0, (2, 67)), (1, (0, v1)), (2, (0, v2)), (3, (0, v3)), (4, (0, v4 + 1))] [] H) ∧ (¬ (H 68 (600 + (2 * v4)) = (-1)) → xq X d 120 Q 52 [(0, (2, 67)), (1, (0, v1)), (2, (0, v2)), (3, (0, v3)), (4, (0, v4)), (5, (0, 0)), (6, (0, 0))] [] H)))) : xq X d 120 Q 5 [(0, (2, 67)), (1, (0, v1)), (2, (0, v2)), (3, (0, v3)), (4, (0, v4))] [] H := by
  show xq X d 120 Q 5 [(0, (2, 67)), (1, (0, v1)), (2, (0, v2)), (3, (0, v3)), (4, (0, v4))] [] H
  refine xq_run [5, 52, 85] 300 ?_
  show ((5 ≤ v4) → xfR 3 v3 ∧ xKZ = xKZ ∧ Q v3 H) ∧ (¬ (5 ≤ v4) → (xI (5 * v1)) ∧ (xI (560 + (5 * v1))) ∧ (xI ((560 + (5 * v1)) + v4)) ∧ ((0 : Int) ≤ (560 + (5 * v1)) + v4 ∧ ((560 + (5 * v1)) + v4 : Int) < 1180) ∧ ((H 68 ((560 + (5 * v1)) + v4) ≤ 0) → (xI (v4 + 1)) ∧ xq X d 120 Q 5 [(0, (2, 67)), (1, (0, v1)), (2, (0, v2)), (3, (0, v3)), (4, (0, v4 + 1))] [] H) ∧ (¬ (H 68 ((560 + (5 * v1)) + v4) ≤ 0) → (xI (2 * v4)) ∧ (xI (600 + (2 * v4))) ∧ ((0 : Int) ≤ 600 + (2 * v4) ∧ (600 + (2 * v4) : Int) < 1180) ∧ ((H 68 (600 + (2 * v4)) = (-1)) → (xI (v4 + 1)) ∧ xq X d 120 Q 5 [(0, (2, 67)), (1, (0, v1)), (2, (0, v2)), (3, (0, v3)), (4, (0, v4 + 1))] [] H) ∧ (¬ (H 68 (600 + (2 * v4)) = (-1)) → xq X d 120 Q 52 [(0, (2, 67)), (1, (0, v1)), (2, (0, v2)), (3, (0, v3)), (4, (0, v4)), (5, (0, 0)), (6, (0, 0))] [] H)))
  refine ⟨fun k_ => ?_, fun k_ => ?_⟩
  · replace h := h.1 k_
    exact ⟨h.1, rfl, h.2⟩
  · replace h := h.2 k_
    refine ⟨h.1, ?_⟩
    replace h := h.2
    refine ⟨h.1, ?_⟩
    replace h := h.2
    refine ⟨h.1, ?_⟩
    replace h := h.2
    refine ⟨h.1, ?_⟩
    replace h := h.2
    refine ⟨fun k_ => ?_, fun k_ => ?_⟩
    · replace h := h.1 k_
      refine ⟨h.1, ?_⟩
      replace h := h.2
      exact h
    · replace h := h.2 k_
      refine ⟨h.1, ?_⟩
      replace h := h.2
      refine ⟨h.1, ?_⟩
      replace h := h.2
      refine ⟨h.1, ?_⟩
      replace h := h.2
      refine ⟨fun k_ => ?_, fun k_ => ?_⟩
      · replace h := h.1 k_
        refine ⟨h.1, ?_⟩
        replace h := h.2
        exact h
      · replace h := h.2 k_
        exact h
theorem U_120_52 {X : Int × (Int → Int)} {d : Nat} {Q : Int → XH → Prop} (hd : 2 ≤ d) (v1 v2 v3 v4 v5 v6 : Int) (H : XH) (h : ((H 68 8 < v6) → ((v3 = 0) → (xI (v4 + 1)) ∧ xq X d 120 Q 5 [(0, (2, 67)), (1, (0, v1)), (2, (0, v2)), (3, (0, 0)), (4, (0, v4 + 1))] [] H) ∧ (¬ (v3 = 0) → ((v5 = 0) → (xI (v4 + 1)) ∧ xq X d 120 Q 5 [(0, (2, 67)), (1, (0, v1)), (2, (0, v2)), (3, (0, 0)), (4, (0, v4 + 1))] [] H) ∧ (¬ (v5 = 0) → (xI (v4 + 1)) ∧ xq X d 120 Q 5 [(0, (2, 67)), (1, (0, v1)), (2, (0, v2)), (3, (0, 1)), (4, (0, v4 + 1))] [] H))) ∧ (¬ (H 68 8 < v6) → ((¬ v5 = 0) → (xI (v6 + 1)) ∧ xq X d 120 Q 52 [(0, (2, 67)), (1, (0, v1)), (2, (0, v2)), (3, (0, v3)), (4, (0, v4)), (5, (0, 1)), (6, (0, v6 + 1))] [] H) ∧ (¬ (¬ v5 = 0) → (xI (v2 + 12)) ∧ (xI ((v2 + 12) - v6)) ∧ (¬ (12 : Int) = 0 ∧ xI (Int.tdiv ((v2 + 12) - v6) 12)) ∧ (0 ≤ v4 ∧ v4 < 5) ∧ (((flI (H 68 (600 + 2 * v4)) (H 68 (601 + 2 * v4)) (Int.tmod ((v2 + 12) - v6) 12) = 0) → (xI (v6 + 1)) ∧ xq X d 120 Q 52 [(0, (2, 67)), (1, (0, v1)), (2, (0, v2)), (3, (0, v3)), (4, (0, v4)), (5, (0, 0)), (6, (0, v6 + 1))] [] H) ∧ (¬ (flI (H 68 (600 + 2 * v4)) (H 68 (601 + 2 * v4)) (Int.tmod ((v2 + 12) - v6) 12) = 0) → (xI (v6 + 1)) ∧ xq X d 120 Q 52 [(0, (2, 67)), (1, (0, v1)), (2, (0, v2)), (3, (0, v3)), (4, (0, v4)), (5, (0, 1)), (6, (0, v6 + 1))] [] H))))) : xq X d 120 Q 52 [(0, (2, 67)), (1, (0, v1)), (2, (0, v2)), (3, (0, v3)), (4, (0, v4)), (5, (0, v5)), (6, (0, v6))] [] H := by
  show xq X d 120 Q 52 [(0, (2, 67)), (1, (0, v1)), (2, (0, v2)), (3, (0, v3)), (4, (0, v4)), (5, (0, v5)), (6, (0, v6))] [] H
  refine xq_run [5, 52, 85] 300 ?_
  show ((0 : Int) ≤ 8 ∧ (8 : Int) < 1180) ∧ ((H 68 8 < v6) → ((v3 = 0) → (xI (v4 + 1)) ∧ xq X d 120 Q 5 [(0, (2, 67)), (1, (0, v1)), (2, (0, v2)), (3, (0, 0)), (4, (0, v4 + 1))] [] H) ∧ (¬ (v3 = 0) → ((v5 = 0) → (xI (v4 + 1)) ∧ xq X d 120 Q 5 [(0, (2, 67)), (1, (0, v1)), (2, (0, v2)), (3, (0, 0)), (4, (0, v4 + 1))] [] H) ∧ (¬ (v5 = 0) → (xI (v4 + 1)) ∧ xq X d 120 Q 5 [(0, (2, 67)), (1, (0, v1)), (2, (0, v2)), (3, (0, 1)), (4, (0, v4 + 1))] [] H))) ∧ (¬ (H 68 8 < v6) → ((¬ v5 = 0) → (xI (v6 + 1)) ∧ xq X d 120 Q 52 [(0, (2, 67)), (1, (0, v1)), (2, (0, v2)), (3, (0, v3)), (4, (0, v4)), (5, (0, 1)), (6, (0, v6 + 1))] [] H) ∧ (¬ (¬ v5 = 0) → (xI (v2 + 12)) ∧ (xI ((v2 + 12) - v6)) ∧ (¬ (12 : Int) = 0 ∧ xI (Int.tdiv ((v2 + 12) - v6) 12)) ∧ xWM (xE X) xMC d 119 [(2, 67), (0, v4), (0, Int.tmod ((v2 + 12) - v6) 12)] xKZ H _))
  refine ⟨⟨by decide, by decide⟩, ?_⟩
  refine ⟨fun k_ => ?_, fun k_ => ?_⟩
  · replace h := h.1 k_
    refine ⟨fun k_ => ?_, fun k_ => ?_⟩
    · replace h := h.1 k_
      refine ⟨h.1, ?_⟩
      replace h := h.2
      exact h
    · replace h := h.2 k_
      refine ⟨fun k_ => ?_, fun k_ => ?_⟩
      · replace h := h.1 k_
        refine ⟨h.1, ?_⟩
        replace h := h.2
        exact h
      · replace h := h.2 k_
        refine ⟨h.1, ?_⟩
        replace h := h.2
        exact h
  · replace h := h.2 k_
    refine ⟨fun k_ => ?_, fun k_ => ?_⟩
    · replace h := h.1 k_
      refine ⟨h.1, ?_⟩
      replace h := h.2
      exact h
    · replace h := h.2 k_
      refine ⟨h.1, ?_⟩
      replace h := h.2
      refine ⟨h.1, ?_⟩
      replace h := h.2
      refine ⟨h.1, ?_⟩
      replace h := h.2
      refine xc_in (s_119 (by omega) v4 (Int.tmod ((v2 + 12) - v6) 12) H (h.1) ?_)
      replace h := h.2
      show xq X d 120 Q 85 [(0, (2, 67)), (1, (0, v1)), (2, (0, v2)), (3, (0, v3)), (4, (0, v4)), (5, (0, v5)), (6, (0, v6))] [(0, flI (H 68 (600 + 2 * v4)) (H 68 (601 + 2 * v4)) (Int.tmod ((v2 + 12) - v6) 12))] H
      refine xq_run [5, 52, 85] 300 ?_
      show ((flI (H 68 (600 + 2 * v4)) (H 68 (601 + 2 * v4)) (Int.tmod ((v2 + 12) - v6) 12) = 0) → (xI (v6 + 1)) ∧ xq X d 120 Q 52 [(0, (2, 67)), (1, (0, v1)), (2, (0, v2)), (3, (0, v3)), (4, (0, v4)), (5, (0, 0)), (6, (0, v6 + 1))] [] H) ∧ (¬ (flI (H 68 (600 + 2 * v4)) (H 68 (601 + 2 * v4)) (Int.tmod ((v2 + 12) - v6) 12) = 0) → (xI (v6 + 1)) ∧ xq X d 120 Q 52 [(0, (2, 67)), (1, (0, v1)), (2, (0, v2)), (3, (0, v3)), (4, (0, v4)), (5, (0, 1)), (6, (0, v6 + 1))] [] H)
      refine ⟨fun k_ => ?_, fun k_ => ?_⟩
      · replace h := h.1 k_
        refine ⟨h.1, ?_⟩
        replace h := h.2
        exact h
      · replace h := h.2 k_
        refine ⟨h.1, ?_⟩
        replace h := h.2
        exact h

theorem s_120 {X : Int × (Int → Int)} {d : Nat} {Q : Int → XH → Prop} (hd : 4 ≤ d) (l m : Int) (H : XH) (hg : GOk (H 67 0) (H 67 1) (H 68)) (pl : 0 ≤ l ∧ l < H 68 1) (pm : 0 ≤ m ∧ m < 12) (hQ : Q (cbV (H 68) l m) H) : xc X d 120 [(2, 67), (0, l), (0, m)] H Q := by
  cases d with
  | zero => omega
  | succ d =>
  have lyb := hg.lyb
  have kp := hg.kep
  have key2 : ∀ (s can : Int), (0 ≤ s ∧ s < 5) → (∀ c2, (c2 = if can = 0 then 0 else duV (H 68) s m) → xq X d 120 Q 5 [(0, (2, 67)), (1, (0, l)), (2, (0, m)), (3, (0, c2)), (4, (0, s + 1))] [] H) → ∀ (k : Nat) (a v : Int), 0 ≤ a → a + k = H 68 8 + 1 → (if ¬ v = 0 then 1 else dR (fun a => flI (H 68 (600 + 2 * s)) (H 68 (601 + 2 * s)) ((m - a) % 12)) k a) = duV (H 68) s m → (v = 0 ∨ v = 1) → (can = 0 ∨ can = 1) → xq X d 120 Q 52 [(0, (2, 67)), (1, (0, l)), (2, (0, m)), (3, (0, can)), (4, (0, s)), (5, (0, v)), (6, (0, a))] [] H := by
    intro s can ps hk k
    induction k with
    | zero =>
      intro a v h0 hn hq hv hc
      unfold dR at hq
      refine U_120_52 (by omega) l m can s v a H ?_
      refine ⟨fun c1 => ?_, fun c1 => ?_⟩
      · skip
        refine ⟨fun c2 => ?_, fun c2 => ?_⟩
        · skip
          refine ⟨?_, ?_⟩
          · first | omega | exact hg | (unfold xI; omega) | (exfalso; omega)
          exact hk 0 (by rw [if_pos (by assumption)])
        · skip
          refine ⟨fun c3 => ?_, fun c3 => ?_⟩
          · skip
            refine ⟨?_, ?_⟩
            · first | omega | exact hg | (unfold xI; omega) | (exfalso; omega)
            exact hk 0 (by rw [if_neg (by assumption), ← hq, if_neg (by omega)])
          · skip
            refine ⟨?_, ?_⟩
            · first | omega | exact hg | (unfold xI; omega) | (exfalso; omega)
            exact hk 1 (by rw [if_neg (by assumption), ← hq, if_pos (by omega)])
      · skip
        refine ⟨fun c4 => ?_, fun c4 => ?_⟩
        · skip
          refine ⟨?_, ?_⟩
          · first | omega | exact hg | (unfold xI; omega) | (exfalso; omega)
          exfalso
          omega
        · skip
          refine ⟨?_, ?_⟩
          · first | omega | exact hg | (unfold xI; omega) | (exfalso; omega)
          refine ⟨?_, ?_⟩
          · first | omega | exact hg | (unfold xI; omega) | (exfalso; omega)
          refine ⟨?_, ?_⟩
          · first | omega | exact hg | (unfold xI; omega) | (exfalso; omega)
          refine ⟨?_, ?_⟩
          · first | omega | exact hg | (unfold xI; omega) | (exfalso; omega)
          refine ⟨fun c5 => ?_, fun c5 => ?_⟩
          · skip
            refine ⟨?_, ?_⟩
            · first | omega | exact hg | (unfold xI; omega) | (exfalso; omega)
            exfalso
            omega
          · skip
            refine ⟨?_, ?_⟩
            · first | omega | exact hg | (unfold xI; omega) | (exfalso; omega)
            exfalso
            omega
    | succ k ih =>
      intro a v h0 hn hq hv hc
      unfold dR at hq
      have e1 : (m + 12 - a).tmod 12 = (m - a) % 12 := by
        rw [Int.tmod_eq_emod_of_nonneg (by omega)]
        omega
      have e2 : (m + 12 - a).tdiv 12 = (m + 12 - a) / 12 := Int.tdiv_eq_ediv_of_nonneg (by omega)
      refine U_120_52 (by omega) l m can s v a H ?_
      rw [e1, e2]
      refine ⟨fun c1 => ?_, fun c1 => ?_⟩
      · skip
        refine ⟨fun c2 => ?_, fun c2 => ?_⟩
        · skip
          refine ⟨?_, ?_⟩
          · first | omega | exact hg | (unfold xI; omega) | exact ⟨by decide, by unfold xI; omega⟩ | (exfalso; omega)
          exfalso
          omega
        · skip
          refine ⟨fun c3 => ?_, fun c3 => ?_⟩
          · skip
            refine ⟨?_, ?_⟩
            · first | omega | exact hg | (unfold xI; omega) | exact ⟨by decide, by unfold xI; omega⟩ | (exfalso; omega)
            exfalso
            omega
          · skip
            refine ⟨?_, ?_⟩
            · first | omega | exact hg | (unfold xI; omega) | exact ⟨by decide, by unfold xI; omega⟩ | (exfalso; omega)
            exfalso
            omega
      · skip
        refine ⟨fun c4 => ?_, fun c4 => ?_⟩
        · skip
          refine ⟨?_, ?_⟩
          · first | omega | exact hg | (unfold xI; omega) | exact ⟨by decide, by unfold xI; omega⟩ | (exfalso; omega)
          refine ih (a + 1) 1 (by omega) (by omega) ?_ (Or.inr rfl) hc
          rw [if_pos (by assumption)] at hq
          rw [if_pos (by decide)]
          exact hq
        · skip
          refine ⟨?_, ?_⟩
          · first | omega | exact hg | (unfold xI; omega) | exact ⟨by decide, by unfold xI; omega⟩ | (exfalso; omega)
          refine ⟨?_, ?_⟩
          · first | omega | exact hg | (unfold xI; omega) | exact ⟨by decide, by unfold xI; omega⟩ | (exfalso; omega)
          refine ⟨?_, ?_⟩
          · first | omega | exact hg | (unfold xI; omega) | exact ⟨by decide, by unfold xI; omega⟩ | (exfalso; omega)
          refine ⟨?_, ?_⟩
          · first | omega | exact hg | (unfold xI; omega) | exact ⟨by decide, by unfold xI; omega⟩ | (exfalso; omega)
          refine ⟨fun c5 => ?_, fun c5 => ?_⟩
          · skip
            refine ⟨?_, ?_⟩
            · first | omega | exact hg | (unfold xI; omega) | exact ⟨by decide, by unfold xI; omega⟩ | (exfalso; omega)
            refine ih (a + 1) 0 (by omega) (by omega) ?_ (Or.inl rfl) hc
            rw [if_neg (by assumption), if_neg (by omega)] at hq
            rw [if_neg (by decide)]
            exact hq
          · skip
            refine ⟨?_, ?_⟩
            · first | omega | exact hg | (unfold xI; omega) | exact ⟨by decide, by unfold xI; omega⟩ | (exfalso; omega)
            refine ih (a + 1) 1 (by omega) (by omega) ?_ (Or.inr rfl) hc
            rw [if_neg (by assumption), if_pos (by assumption)] at hq
            rw [if_pos (by decide)]
            exact hq
  have key : ∀ (k : Nat) (s can : Int), 0 ≤ s → s + k = 5 → (can = 0 ∨ can = 1) → (if can = 0 then 0 else cR (fun s => H 68 (560 + 5 * l + s)) (fun s => H 68 (600 + 2 * s)) (fun s => duV (H 68) s m) k s) = cbV (H 68) l m → xq X d 120 Q 5 [(0, (2, 67)), (1, (0, l)), (2, (0, m)), (3, (0, can)), (4, (0, s))] [] H := by
    intro k
    induction k with
    | zero =>
      intro s can h0 hn hc hq
      unfold cR at hq
      have hQ' : Q can H := xQr hQ (by rw [← hq]; split <;> omega)
      refine U_120_5 (by omega) l m can s H ?_
      refine ⟨fun c1 => ?_, fun c1 => ?_⟩
      · skip
        refine ⟨?_, ?_⟩
        · first | omega | exact hg | (unfold xI; omega) | (exfalso; omega)
        first | exact hQ' | (exfalso; omega)
      · skip
        refine ⟨?_, ?_⟩
        · first | omega | exact hg | (unfold xI; omega) | (exfalso; omega)
        refine ⟨?_, ?_⟩
        · first | omega | exact hg | (unfold xI; omega) | (exfalso; omega)
        refine ⟨?_, ?_⟩
        · first | omega | exact hg | (unfold xI; omega) | (exfalso; omega)
        refine ⟨?_, ?_⟩
        · first | omega | exact hg | (unfold xI; omega) | (exfalso; omega)
        refine ⟨fun c2 => ?_, fun c2 => ?_⟩
        · skip
          refine ⟨?_, ?_⟩
          · first | omega | exact hg | (unfold xI; omega) | (exfalso; omega)
          first | exact hQ' | (exfalso; omega)
        · skip
          refine ⟨?_, ?_⟩
          · first | omega | exact hg | (unfold xI; omega) | (exfalso; omega)
          refine ⟨?_, ?_⟩
          · first | omega | exact hg | (unfold xI; omega) | (exfalso; omega)
          refine ⟨?_, ?_⟩
          · first | omega | exact hg | (unfold xI; omega) | (exfalso; omega)
          refine ⟨fun c3 => ?_, fun c3 => ?_⟩
          · skip
            refine ⟨?_, ?_⟩
            · first | omega | exact hg | (unfold xI; omega) | (exfalso; omega)
            first | exact hQ' | (exfalso; omega)
          · skip
            first | exact hQ' | (exfalso; omega)
    | succ k ih =>
      intro s can h0 hn hc hq
      unfold cR at hq
      refine U_120_5 (by omega) l m can s H ?_
      refine ⟨fun c1 => ?_, fun c1 => ?_⟩
      · skip
        refine ⟨?_, ?_⟩
        · first | omega | exact hg | (unfold xI; omega) | (exfalso; omega)
        exfalso
        omega
      · skip
        refine ⟨?_, ?_⟩
        · first | omega | exact hg | (unfold xI; omega) | (exfalso; omega)
        refine ⟨?_, ?_⟩
        · first | omega | exact hg | (unfold xI; omega) | (exfalso; omega)
        refine ⟨?_, ?_⟩
        · first | omega | exact hg | (unfold xI; omega) | (exfalso; omega)
        refine ⟨?_, ?_⟩
        · first | omega | exact hg | (unfold xI; omega) | (exfalso; omega)
        refine ⟨fun c2 => ?_, fun c2 => ?_⟩
        · skip
          refine ⟨?_, ?_⟩
          · first | omega | exact hg | (unfold xI; omega) | (exfalso; omega)
          rw [if_pos (show H 68 (560 + 5 * l + s) ≤ 0 ∨ H 68 (600 + 2 * s) = -1 by omega)] at hq
          exact ih (s + 1) can (by omega) (by omega) hc hq
        · skip
          refine ⟨?_, ?_⟩
          · first | omega | exact hg | (unfold xI; omega) | (exfalso; omega)
          refine ⟨?_, ?_⟩
          · first | omega | exact hg | (unfold xI; omega) | (exfalso; omega)
          refine ⟨?_, ?_⟩
          · first | omega | exact hg | (unfold xI; omega) | (exfalso; omega)
          refine ⟨fun c3 => ?_, fun c3 => ?_⟩
          · skip
            refine ⟨?_, ?_⟩
            · first | omega | exact hg | (unfold xI; omega) | (exfalso; omega)
            rw [if_pos (show H 68 (560 + 5 * l + s) ≤ 0 ∨ H 68 (600 + 2 * s) = -1 by omega)] at hq
            exact ih (s + 1) can (by omega) (by omega) hc hq
          · skip
            have nq : ¬ (H 68 (560 + 5 * l + s) ≤ 0 ∨ H 68 (600 + 2 * s) = -1) := by omega
            refine key2 s can (by omega) (fun c2 hc2 => ih (s + 1) c2 (by omega) (by omega) ?_ ?_) (H 68 8 + 1).toNat 0 0 (by omega) (by omega) (by rw [if_neg (by decide)]; rfl) (Or.inl rfl) hc
            · have z := dR_01 (fun a => flI (H 68 (600 + 2 * s)) (H 68 (601 + 2 * s)) ((m - a) % 12)) (H 68 8 + 1).toNat 0
              have z' : duV (H 68) s m = 0 ∨ duV (H 68) s m = 1 := z
              rw [hc2]
              split <;> omega
            · rw [hc2, ← hq]
              by_cases q : can = 0
              · rw [if_pos q, if_pos q, if_pos rfl]
              · rw [if_neg q, if_neg q, if_neg nq]
  refine U_120 (by omega) l m H ?_
  exact key 5 0 1 (by omega) (by omega) (Or.inr rfl) (by rw [if_neg (by decide)]; rfl)

def vMonths (w n : Int) (g : Int → Int) (l : Int) : Int := if 0 ≤ l ∧ l < g 1 then (maskR (cbV g l) 12 0 : Nat) else -1

theorem U_118 {X : Int × (Int → Int)} {d : Nat} {Q : Int → XH → Prop} (hd : 6 ≤ d) (l : Int) (H : XH) (h : ((((0 ≤ l ∧ l < H 7 1)) → (InvS H) ∧ (0 ≤ l ∧ l < H 68 1) ∧ (Q ((maskR (cbV (H 68) l) 12 0 : Nat) : Int) H)) ∧ (¬ ((0 ≤ l ∧ l < H 7 1)) → Q (-1) H))) : xc X (d + 1) 118 [(2, 0), (0, l)] H Q := by
  refine ⟨rfl, ?_⟩
  show xq X d 118 Q 100000 [(0, (2, 0)), (1, (0, l))] [] H
  refine xq_run [11, 34] 300 ?_
  show xWM (xE X) xMC d 49 [(2, 7), (0, l)] xKZ H _
  refine xc_in (s_49_o7 (by omega) l H  ?_)
  replace h := h
  show xq X d 118 Q 11 [(0, (2, 0)), (1, (0, l))] [(0, xb (0 ≤ l ∧ l < H 7 1))] H
  refine xq_run [11, 34] 300 ?_
  show ((¬ xb (0 ≤ l ∧ l < H 7 1) = 0) → xWM (xE X) xMC d 117 [(2, 9), (2, 7), (0, l)] xKZ H _) ∧ (¬ (¬ xb (0 ≤ l ∧ l < H 7 1) = 0) → xfR 0 (-1) ∧ xKZ = xKZ ∧ Q (-1) H)
  refine ⟨fun k_ => ?_, fun k_ => ?_⟩
  · replace h := h.1 (xbe_1.mp k_)
    refine xc_in (s_117 (by omega) l H (h.1) (h.2.1) ?_)
    replace h := h.2.2
    show xq X d 118 Q 34 [(0, (2, 0)), (1, (0, l))] [(0, ((maskR (cbV (H 68) l) 12 0 : Nat) : Int))] H
    refine xq_run [11, 34] 300 ?_
    show xfR 0 ((maskR (cbV (H 68) l) 12 0 : Nat) : Int) ∧ xKZ = xKZ ∧ Q ((maskR (cbV (H 68) l) 12 0 : Nat) : Int) H
    exact ⟨trivial, rfl, h⟩
  · replace h := h.2 (xbe_n.mp k_)
    exact ⟨trivial, rfl, h⟩

theorem U_121 {X : Int × (Int → Int)} {d : Nat} {Q : Int → XH → Prop} (hd : 2 ≤ d) (l : Int) (H : XH) (h : (0 ≤ H 68 1 ∧ H 68 1 ≤ 8) ∧ ((((0 ≤ l ∧ l < H 68 1)) → xq X d 121 Q 14 [(0, (2, 67)), (1, (0, l)), (2, (0, 0)), (3, (0, 0))] [] H) ∧ (¬ ((0 ≤ l ∧ l < H 68 1)) → Q (-1) H))) : xc X (d + 1) 121 [(2, 67), (0, l)] H Q := by
  refine ⟨rfl, ?_⟩
  show xq X d 121 Q 100000 [(0, (2, 67)), (1, (0, l))] [] H
  refine xq_run [5, 14, 26] 300 ?_
  show xWM (xE X) xMC d 63 [(2, 67), (0, l)] xKZ H _
  refine xc_in (s_63 (by omega) l H (h.1) ?_)
  replace h := h.2
  show xq X d 121 Q 5 [(0, (2, 67)), (1, (0, l))] [(0, xb (0 ≤ l ∧ l < H 68 1))] H
  refine xq_run [5, 14, 26] 300 ?_
  show ((¬ xb (0 ≤ l ∧ l < H 68 1) = 0) → xq X d 121 Q 14 [(0, (2, 67)), (1, (0, l)), (2, (0, 0)), (3, (0, 0))] [] H) ∧ (¬ (¬ xb (0 ≤ l ∧ l < H 68 1) = 0) → xfR 0 (-1) ∧ xKZ = xKZ ∧ Q (-1) H)
  refine ⟨fun k_ => ?_, fun k_ => ?_⟩
  · replace h := h.1 (xbe_1.mp k_)
    exact h
  · replace h := h.2 (xbe_n.mp k_)
    exact ⟨trivial, rfl, h⟩
theorem U_121_14 {X : Int × (Int → Int)} {d : Nat} {Q : Int → XH → Prop} (hd : 4 ≤ d) (v1 v2 v3 : Int) (H : XH) (h : ((12 ≤ v3) → Q v2 H) ∧ (¬ (12 ≤ v3) → (GOk (H 67 0) (H 67 1) (H 68)) ∧ (0 ≤ v1 ∧ v1 < H 68 1) ∧ (0 ≤ v3 ∧ v3 < 12) ∧ (((cbV (H 68) v1 v3 = 0) → (xI (v3 + 1)) ∧ xq X d 121 Q 14 [(0, (2, 67)), (1, (0, v1)), (2, (0, v2)), (3, (0, v3 + 1))] [] H) ∧ (¬ (cbV (H 68) v1 v3 = 0) → (xI (v3 + 1)) ∧ xq X d 121 Q 14 [(0, (2, 67)), (1, (0, v1)), (2, (0, xor_ v2 (xshl 1 v3))), (3, (0, v3 + 1))] [] H)))) : xq X d 121 Q 14 [(0, (2, 67)), (1, (0, v1)), (2, (0, v2)), (3, (0, v3))] [] H := by
  show xq X d 121 Q 14 [(0, (2, 67)), (1, (0, v1)), (2, (0, v2)), (3, (0, v3))] [] H
  refine xq_run [5, 14, 26] 300 ?_
  show ((12 ≤ v3) → xfR 0 v2 ∧ xKZ = xKZ ∧ Q v2 H) ∧ (¬ (12 ≤ v3) → xWM (xE X) xMC d 120 [(2, 67), (0, v1), (0, v3)] xKZ H _)
  refine ⟨fun k_ => ?_, fun k_ => ?_⟩
  · replace h := h.1 k_
    exact ⟨trivial, rfl, h⟩
  · replace h := h.2 k_
    refine xc_in (s_120 (by omega) v1 v3 H (h.1) (h.2.1) (h.2.2.1) ?_)
    replace h := h.2.2.2
    show xq X d 121 Q 26 [(0, (2, 67)), (1, (0, v1)), (2, (0, v2)), (3, (0, v3))] [(0, cbV (H 68) v1 v3)] H
    refine xq_run [5, 14, 26] 300 ?_
    show ((cbV (H 68) v1 v3 = 0) → (xI (v3 + 1)) ∧ xq X d 121 Q 14 [(0, (2, 67)), (1, (0, v1)), (2, (0, v2)), (3, (0, v3 + 1))] [] H) ∧ (¬ (cbV (H 68) v1 v3 = 0) → (xI (v3 + 1)) ∧ xq X d 121 Q 14 [(0, (2, 67)), (1, (0, v1)), (2, (0, xor_ v2 (xshl 1 v3))), (3, (0, v3 + 1))] [] H)
    refine ⟨fun k_ => ?_, fun k_ => ?_⟩
    · replace h := h.1 k_
      refine ⟨h.1, ?_⟩
      replace h := h.2
      exact h
    · replace h := h.2 k_
      refine ⟨h.1, ?_⟩
      replace h := h.2
      exact h

theorem s_118 {X : Int × (Int → Int)} {d : Nat} {Q : Int → XH → Prop} (hd : 8 ≤ d) (l : Int) (H : XH) (hi : InvS H) (hQ : ∀ h1 : XH, frC H h1 → Q (vMonths (H 67 0) (H 67 1) (H 68) l) h1) : xc X d 118 [(2, 0), (0, l)] H Q := by
  cases d with
  | zero => omega
  | succ d =>
  have hg := hi.1
  have hs := hi.2
  have nn := hg.nn
  have ww := hg.ww
  have l2 := hs.l2
  have hc := hs.c
  have lyb := hg.lyb
  have bnd := hg.bnd
  have k := hQ _ (frC_refl H)
  unfold vMonths at k
  refine U_118 (by omega) l H ?_
  refine ⟨fun c1 => ?_, fun c1 => ?_⟩
  · skip
    refine ⟨?_, ?_⟩
    · first | omega | exact hi | exact hg | exact lk | (unfold xI; omega)
    refine ⟨?_, ?_⟩
    · first | omega | exact hi | exact hg | exact lk | (unfold xI; omega)
    first | (rw [if_pos (by omega)] at k; exact k) | (rw [if_neg (by omega)] at k; exact k)
  · skip
    first | (rw [if_pos (by omega)] at k; exact k) | (rw [if_neg (by omega)] at k; exact k)

theorem s_121 {X : Int × (Int → Int)} {d : Nat} {Q : Int → XH → Prop} (hd : 8 ≤ d) (l : Int) (H : XH) (hg : GOk (H 67 0) (H 67 1) (H 68)) (hQ : ∀ h1 : XH, frM H h1 → Q (vMonths (H 67 0) (H 67 1) (H 68) l) h1) : xc X d 121 [(2, 67), (0, l)] H Q := by
  cases d with
  | zero => omega
  | succ d =>
  have nn := hg.nn
  have ww := hg.ww
  have lyb := hg.lyb
  have bnd := hg.bnd
  have hQ := hQ _ (frM_refl H)
  unfold vMonths at hQ
  by_cases pl : 0 ≤ l ∧ l < H 68 1
  · rw [if_pos pl] at hQ
    obtain ⟨M, hM⟩ : ∃ M, maskR (cbV (H 68) l) 12 0 = M := ⟨_, rfl⟩
    rw [hM] at hQ
    have key : ∀ (k j v : Nat), j + k = 12 → v < 2 ^ j → v + 2 ^ j * maskR (cbV (H 68) l) k (j : Int) = M → xq X d 121 Q 14 [(0, (2, 67)), (1, (0, l)), (2, (0, (v : Int))), (3, (0, (j : Int)))] [] H := by
      intro k
      induction k with
      | zero =>
        intro j v hj hv hm
        unfold maskR at hm
        rw [Nat.mul_zero, Nat.add_zero] at hm
        rw [← hm] at hQ
        refine U_121_14 (by omega) l (v : Int) (j : Int) H ?_
        refine ⟨fun c1 => ?_, fun c1 => ?_⟩
        · skip
          first | exact hQ | (exfalso; omega)
        · skip
          refine ⟨?_, ?_⟩
          · first | omega | exact hg | (exfalso; omega) | (unfold xI; omega)
          refine ⟨?_, ?_⟩
          · first | omega | exact hg | (exfalso; omega) | (unfold xI; omega)
          refine ⟨?_, ?_⟩
          · first | omega | exact hg | (exfalso; omega) | (unfold xI; omega)
          refine ⟨fun c2 => ?_, fun c2 => ?_⟩
          · skip
            refine ⟨?_, ?_⟩
            · first | omega | exact hg | (exfalso; omega) | (unfold xI; omega)
            first | exact hQ | (exfalso; omega)
          · skip
            refine ⟨?_, ?_⟩
            · first | omega | exact hg | (exfalso; omega) | (unfold xI; omega)
            first | exact hQ | (exfalso; omega)
      | succ k ih =>
        intro j v hj hv hm
        obtain ⟨b1, b2⟩ := bit_or hj hv hm
        refine U_121_14 (by omega) l (v : Int) (j : Int) H ?_
        refine ⟨fun c1 => ?_, fun c1 => ?_⟩
        · skip
          exfalso
          omega
        · skip
          refine ⟨?_, ?_⟩
          · first | omega | exact hg | (unfold xI; omega)
          refine ⟨?_, ?_⟩
          · first | omega | exact hg | (unfold xI; omega)
          refine ⟨?_, ?_⟩
          · first | omega | exact hg | (unfold xI; omega)
          refine ⟨fun c2 => ?_, fun c2 => ?_⟩
          · skip
            refine ⟨?_, ?_⟩
            · first | omega | exact hg | (unfold xI; omega)
            obtain ⟨z1, z2⟩ := b1 (by assumption)
            exact ih (j + 1) v (by omega) z1 z2
          · skip
            refine ⟨?_, ?_⟩
            · first | omega | exact hg | (unfold xI; omega)
            obtain ⟨z0, z1, z2⟩ := b2 (by assumption)
            rw [z0]
            exact ih (j + 1) (v + 2 ^ j) (by omega) z1 z2
    have z := key 12 0 0 (by omega) (by decide) (by rw [Nat.zero_add, Nat.pow_zero, Nat.one_mul]; exact hM)
    exact U_121 (by omega) l H ⟨by omega, fun _ => z, fun q => absurd pl q⟩
  · rw [if_neg pl] at hQ
    exact U_121 (by omega) l H ⟨by omega, fun q => absurd q pl, fun _ => hQ⟩

theorem p_months {X : Int × (Int → Int)} {d : Nat} (hd : 8 ≤ d) (l : Int) (H : XH) (hi : InvS H) : xc X d 118 [(2, 0), (0, l)] H (fun r H1 => xc X d 121 [(2, 67), (0, l)] H1 (qOk H r)) :=
  s_118 (by omega) l H hi (fun h1 f => s_121 (by omega) l h1 (frC_S f hi).1 (fun h2 f' => ⟨by rw [f 67 (by decide) (by decide), f 68 (by decide) (by decide)], frQ_CM f f'⟩))
