/-! THE PURE LAYER 41: tokens, the class -/
def wdO (j : Int) : Int := ([0, 5, 10, 14, 20, 23, 27, 31, 35, 40, 44, 49, 55, 60, 65, 72, 77, 81, 87] : List Int).getD j.toNat 0
def wdL (j : Int) : Int := ([4, 4, 3, 5, 2, 3, 3, 3, 4, 3, 4, 5, 4, 4, 6, 4, 3, 5] : List Int).getD j.toNat 0
theorem wd_tab : ∀ j : Nat, j < 18 → wdO ((j : Int) + 1) = wdO (j : Int) + wdL (j : Int) + 1 ∧ nmA (wdO (j : Int) + wdL (j : Int)) = 32 ∧ 0 ≤ wdO (j : Int) ∧ wdO (j : Int) + wdL (j : Int) ≤ 86 ∧ 0 ≤ wdL (j : Int) := by decide +kernel
theorem wd_row : ∀ j : Nat, j < 18 → ∀ i : Nat, i < 10 → (i : Int) < wdL (j : Int) → ¬ nmA (wdO (j : Int) + (i : Int)) = 32 := by decide +kernel
theorem wdL_6 : ∀ j : Nat, j < 18 → wdL (j : Int) ≤ 6 := by decide +kernel
theorem wd_at {j : Int} (h : 0 ≤ j ∧ j ≤ 17) : wdO (j + 1) = wdO j + wdL j + 1 ∧ nmA (wdO j + wdL j) = 32 ∧ 0 ≤ wdO j ∧ wdO j + wdL j ≤ 86 ∧ 0 ≤ wdL j := by
  have z := wd_tab j.toNat (by omega)
  rw [Int.toNat_of_nonneg h.1] at z
  exact z
theorem wd_no {j i : Int} (h : 0 ≤ j ∧ j ≤ 17) (hi : wdO j ≤ i ∧ i < wdO j + wdL j) : ¬ nmA i = 32 := by
  have l6 := wdL_6 j.toNat (by omega)
  have z := wd_row j.toNat (by omega) (i - wdO j).toNat
  rw [Int.toNat_of_nonneg h.1] at z l6
  rw [Int.toNat_of_nonneg (show 0 ≤ i - wdO j by omega)] at z
  have y := z (by omega) (by omega)
  rw [show wdO j + (i - wdO j) = i by omega] at y
  exact y
/-- the letters from f of the names are those of the tape from b to e -/
def isNm (t : Int → Int) (f b e : Int) : Prop := ∀ i, b ≤ i → i < e → nmA (f + i - b) = t i
def wdE (t : Int → Int) (b e j : Int) : Prop := e - b = wdL j ∧ isNm t (wdO j) b e
/-- the word from b to e -/
def nkP (t : Int → Int) (b e r : Int) : Prop := (0 ≤ r ∧ r ≤ 17 ∧ wdE t b e r) ∨ (r = 22 ∧ ∀ j, 0 ≤ j → j ≤ 17 → ¬ wdE t b e j)

theorem U_149 {X : Int × (Int → Int)} {d : Nat} {Q : Int → XH → Prop} (hd : 2 ≤ d) (f b e : Int) (H : XH) (h : ((f < 0) → Q 0 H) ∧ (¬ (f < 0) → (xI (f + e)) ∧ (xI ((f + e) - b)) ∧ (((87 < (f + e) - b) → Q 0 H) ∧ (¬ (87 < (f + e) - b) → ((b < 0) → Q 0 H) ∧ (¬ (b < 0) → ((e ≤ H 51 3) → xq X d 149 Q 34 [(0, (2, 51)), (1, (0, f)), (2, (0, b)), (3, (0, e)), (4, (0, b))] [] H) ∧ (¬ (e ≤ H 51 3) → Q 0 H)))))) : xc X (d + 1) 149 [(2, 51), (0, f), (0, b), (0, e)] H Q := by
  refine ⟨rfl, ?_⟩
  show xq X d 149 Q 100000 [(0, (2, 51)), (1, (0, f)), (2, (0, b)), (3, (0, e))] [] H
  refine xq_run [14, 34, 51] 300 ?_
  show ((f < 0) → xfR 3 0 ∧ xKZ = xKZ ∧ Q 0 H) ∧ (¬ (f < 0) → (xI (f + e)) ∧ (xI ((f + e) - b)) ∧ xWM (xE X) xMC d 143 [(3, 0)] xKZ H _)
  refine ⟨fun k_ => ?_, fun k_ => ?_⟩
  · replace h := h.1 k_
    exact ⟨xfR3_0, rfl, h⟩
  · replace h := h.2 k_
    refine ⟨h.1, ?_⟩
    replace h := h.2
    refine ⟨h.1, ?_⟩
    replace h := h.2
    refine xc_in (s_143_0 (by omega) H  ?_)
    replace h := h
    show xq X d 149 Q 14 [(0, (2, 51)), (1, (0, f)), (2, (0, b)), (3, (0, e))] [(0, 87), (0, (f + e) - b)] H
    refine xq_run [14, 34, 51] 300 ?_
    show ((87 < (f + e) - b) → xfR 3 0 ∧ xKZ = xKZ ∧ Q 0 H) ∧ (¬ (87 < (f + e) - b) → ((b < 0) → xfR 3 0 ∧ xKZ = xKZ ∧ Q 0 H) ∧ (¬ (b < 0) → ((e ≤ H 51 3) → xq X d 149 Q 34 [(0, (2, 51)), (1, (0, f)), (2, (0, b)), (3, (0, e)), (4, (0, b))] [] H) ∧ (¬ (e ≤ H 51 3) → xfR 3 0 ∧ xKZ = xKZ ∧ Q 0 H)))
    refine ⟨fun k_ => ?_, fun k_ => ?_⟩
    · replace h := h.1 k_
      exact ⟨xfR3_0, rfl, h⟩
    · replace h := h.2 k_
      refine ⟨fun k_ => ?_, fun k_ => ?_⟩
      · replace h := h.1 k_
        exact ⟨xfR3_0, rfl, h⟩
      · replace h := h.2 k_
        refine ⟨fun k_ => ?_, fun k_ => ?_⟩
        · replace h := h.1 k_
          exact h
        · replace h := h.2 k_
          exact ⟨xfR3_0, rfl, h⟩
theorem U_149_34 {X : Int × (Int → Int)} {d : Nat} {Q : Int → XH → Prop} (hd : 4 ≤ d) (v1 v2 v3 v4 : Int) (H : XH) (h : ((v3 ≤ v4) → Q 1 H) ∧ (¬ (v3 ≤ v4) → (xI (v1 + v4)) ∧ (xI ((v1 + v4) - v2)) ∧ (0 ≤ (v1 + v4) - v2 ∧ (v1 + v4) - v2 < 87) ∧ (((0 : Int) ≤ v4 ∧ (v4 : Int) < 300) ∧ ((nmA ((v1 + v4) - v2) = H 52 v4) → (xI (v4 + 1)) ∧ xq X d 149 Q 34 [(0, (2, 51)), (1, (0, v1)), (2, (0, v2)), (3, (0, v3)), (4, (0, v4 + 1))] [] H) ∧ (¬ (nmA ((v1 + v4) - v2) = H 52 v4) → Q 0 H)))) : xq X d 149 Q 34 [(0, (2, 51)), (1, (0, v1)), (2, (0, v2)), (3, (0, v3)), (4, (0, v4))] [] H := by
  show xq X d 149 Q 34 [(0, (2, 51)), (1, (0, v1)), (2, (0, v2)), (3, (0, v3)), (4, (0, v4))] [] H
  refine xq_run [14, 34, 51] 300 ?_
  show ((v3 ≤ v4) → xfR 3 1 ∧ xKZ = xKZ ∧ Q 1 H) ∧ (¬ (v3 ≤ v4) → (xI (v1 + v4)) ∧ (xI ((v1 + v4) - v2)) ∧ xWM (xE X) xMC d 148 [(3, 0), (0, (v1 + v4) - v2)] xKZ H _)
  refine ⟨fun k_ => ?_, fun k_ => ?_⟩
  · replace h := h.1 k_
    exact ⟨xfR3_1, rfl, h⟩
  · replace h := h.2 k_
    refine ⟨h.1, ?_⟩
    replace h := h.2
    refine ⟨h.1, ?_⟩
    replace h := h.2
    refine xc_in (s_148 (by omega) ((v1 + v4) - v2) H (h.1) ?_)
    replace h := h.2
    show xq X d 149 Q 51 [(0, (2, 51)), (1, (0, v1)), (2, (0, v2)), (3, (0, v3)), (4, (0, v4))] [(0, nmA ((v1 + v4) - v2))] H
    refine xq_run [14, 34, 51] 300 ?_
    show ((0 : Int) ≤ v4 ∧ (v4 : Int) < 300) ∧ ((nmA ((v1 + v4) - v2) = H 52 v4) → (xI (v4 + 1)) ∧ xq X d 149 Q 34 [(0, (2, 51)), (1, (0, v1)), (2, (0, v2)), (3, (0, v3)), (4, (0, v4 + 1))] [] H) ∧ (¬ (nmA ((v1 + v4) - v2) = H 52 v4) → xfR 3 0 ∧ xKZ = xKZ ∧ Q 0 H)
    refine ⟨h.1, ?_⟩
    replace h := h.2
    refine ⟨fun k_ => ?_, fun k_ => ?_⟩
    · replace h := h.1 k_
      refine ⟨h.1, ?_⟩
      replace h := h.2
      exact h
    · replace h := h.2 k_
      exact ⟨xfR3_0, rfl, h⟩

theorem s_149 {X : Int × (Int → Int)} {d : Nat} {Q : Int → XH → Prop} (hd : 5 ≤ d) (f b e : Int) (H : XH) (pf : 0 ≤ f ∧ f + (e - b) ≤ 87) (pb : 0 ≤ b ∧ b ≤ e) (pe : e ≤ H 51 3 ∧ H 51 3 ≤ 300) (hY : isNm (H 52) f b e → Q 1 H) (hN : ¬ isNm (H 52) f b e → Q 0 H) : xc X d 149 [(2, 51), (0, f), (0, b), (0, e)] H Q := by
  cases d with
  | zero => omega
  | succ d =>
  have key : ∀ (k : Nat) (i : Int), i + k = e → b ≤ i → (∀ j, b ≤ j → j < i → nmA (f + j - b) = H 52 j) → xq X d 149 Q 34 [(0, (2, 51)), (1, (0, f)), (2, (0, b)), (3, (0, e)), (4, (0, i))] [] H := by
    intro k
    induction k with
    | zero =>
      intro i hi ib hh
      refine U_149_34 (by omega) f b e i H ?_
      refine ⟨fun c1 => ?_, fun c1 => ?_⟩
      · skip
        exact hY (fun j x y => hh j x (by omega))
      · skip
        refine ⟨?_, ?_⟩
        · first | omega | (unfold xI; omega) | (exfalso; omega)
        refine ⟨?_, ?_⟩
        · first | omega | (unfold xI; omega) | (exfalso; omega)
        refine ⟨?_, ?_⟩
        · first | omega | (unfold xI; omega) | (exfalso; omega)
        refine ⟨?_, ?_⟩
        · first | omega | (unfold xI; omega) | (exfalso; omega)
        refine ⟨fun c2 => ?_, fun c2 => ?_⟩
        · skip
          refine ⟨?_, ?_⟩
          · first | omega | (unfold xI; omega) | (exfalso; omega)
          exfalso
          omega
        · skip
          exfalso
          omega
    | succ k ih =>
      intro i hi ib hh
      refine U_149_34 (by omega) f b e i H ?_
      refine ⟨fun c1 => ?_, fun c1 => ?_⟩
      · skip
        exfalso
        omega
      · skip
        refine ⟨?_, ?_⟩
        · first | omega | (unfold xI; omega) | (exfalso; omega)
        refine ⟨?_, ?_⟩
        · first | omega | (unfold xI; omega) | (exfalso; omega)
        refine ⟨?_, ?_⟩
        · first | omega | (unfold xI; omega) | (exfalso; omega)
        refine ⟨?_, ?_⟩
        · first | omega | (unfold xI; omega) | (exfalso; omega)
        refine ⟨fun c2 => ?_, fun c2 => ?_⟩
        · skip
          refine ⟨?_, ?_⟩
          · first | omega | (unfold xI; omega) | (exfalso; omega)
          exact ih (i + 1) (by omega) (by omega) (fun j x y => by
            by_cases q : j = i
            · rw [q]
              assumption
            · exact hh j x (by omega))
        · skip
          exact hN (fun z => absurd (z i ib (by omega)) (by assumption))
  refine U_149 (by omega) f b e H ?_
  refine ⟨fun c1 => ?_, fun c1 => ?_⟩
  · skip
    exfalso
    omega
  · skip
    refine ⟨?_, ?_⟩
    · first | omega | (unfold xI; omega) | (exfalso; omega)
    refine ⟨?_, ?_⟩
    · first | omega | (unfold xI; omega) | (exfalso; omega)
    refine ⟨fun c2 => ?_, fun c2 => ?_⟩
    · skip
      exfalso
      omega
    · skip
      refine ⟨fun c3 => ?_, fun c3 => ?_⟩
      · skip
        exfalso
        omega
      · skip
        refine ⟨fun c4 => ?_, fun c4 => ?_⟩
        · skip
          exact key (e - b).toNat b (by omega) (by omega) (fun j x y => by omega)
        · skip
          exfalso
          omega

theorem U_150 {X : Int × (Int → Int)} {d : Nat} {Q : Int → XH → Prop} (hd : 0 ≤ d) (b e : Int) (H : XH) (h : xq X d 150 Q 8 [(0, (2, 51)), (1, (0, b)), (2, (0, e)), (3, (0, 0)), (4, (0, 0)), (5, (0, 0))] [] H) : xc X (d + 1) 150 [(2, 51), (0, b), (0, e)] H Q := by
  refine ⟨rfl, ?_⟩
  show xq X d 150 Q 100000 [(0, (2, 51)), (1, (0, b)), (2, (0, e))] [] H
  refine xq_run [8, 15, 25, 52] 300 ?_
  show xq X d 150 Q 8 [(0, (2, 51)), (1, (0, b)), (2, (0, e)), (3, (0, 0)), (4, (0, 0)), (5, (0, 0))] [] H
  exact h
theorem U_150_8 {X : Int × (Int → Int)} {d : Nat} {Q : Int → XH → Prop} (hd : 4 ≤ d) (v1 v2 v3 v4 v5 : Int) (H : XH) (h : (((87 ≤ v5) → Q 22 H) ∧ (¬ (87 ≤ v5) → (0 ≤ v5 ∧ v5 < 87) ∧ (((nmA v5 = 32) → (xI (v5 - v4)) ∧ (xI (v2 - v1)) ∧ ((¬ v5 - v4 = v2 - v1) → (xI (v3 + 1)) ∧ (xI (v5 + 1)) ∧ (xI (v5 + 1)) ∧ xq X d 150 Q 8 [(0, (2, 51)), (1, (0, v1)), (2, (0, v2)), (3, (0, v3 + 1)), (4, (0, v5 + 1)), (5, (0, v5 + 1))] [] H) ∧ (¬ (¬ v5 - v4 = v2 - v1) → (xc X d 149 [(2, 51), (0, v4), (0, v1), (0, v2)] H (fun (J435 : Int) (h434 : XH) => ((J435 = 0) → (xI (v3 + 1)) ∧ (xI (v5 + 1)) ∧ (xI (v5 + 1)) ∧ xq X d 150 Q 8 [(0, (2, 51)), (1, (0, v1)), (2, (0, v2)), (3, (0, v3 + 1)), (4, (0, v5 + 1)), (5, (0, v5 + 1))] [] h434) ∧ (¬ (J435 = 0) → Q v3 h434))))) ∧ (¬ (nmA v5 = 32) → (xI (v5 + 1)) ∧ xq X d 150 Q 8 [(0, (2, 51)), (1, (0, v1)), (2, (0, v2)), (3, (0, v3)), (4, (0, v4)), (5, (0, v5 + 1))] [] H))))) : xq X d 150 Q 8 [(0, (2, 51)), (1, (0, v1)), (2, (0, v2)), (3, (0, v3)), (4, (0, v4)), (5, (0, v5))] [] H := by
  show xq X d 150 Q 8 [(0, (2, 51)), (1, (0, v1)), (2, (0, v2)), (3, (0, v3)), (4, (0, v4)), (5, (0, v5))] [] H
  refine xq_run [8, 15, 25, 52] 300 ?_
  show xWM (xE X) xMC d 143 [(3, 0)] xKZ H _
  refine xc_in (s_143_0 (by omega) H  ?_)
  replace h := h
  show xq X d 150 Q 15 [(0, (2, 51)), (1, (0, v1)), (2, (0, v2)), (3, (0, v3)), (4, (0, v4)), (5, (0, v5))] [(0, 87), (0, v5)] H
  refine xq_run [8, 15, 25, 52] 300 ?_
  show ((87 ≤ v5) → xfR 0 22 ∧ xKZ = xKZ ∧ Q 22 H) ∧ (¬ (87 ≤ v5) → xWM (xE X) xMC d 148 [(3, 0), (0, v5)] xKZ H _)
  refine ⟨fun k_ => ?_, fun k_ => ?_⟩
  · replace h := h.1 k_
    exact ⟨trivial, rfl, h⟩
  · replace h := h.2 k_
    refine xc_in (s_148 (by omega) v5 H (h.1) ?_)
    replace h := h.2
    show xq X d 150 Q 25 [(0, (2, 51)), (1, (0, v1)), (2, (0, v2)), (3, (0, v3)), (4, (0, v4)), (5, (0, v5))] [(0, nmA v5)] H
    refine xq_run [8, 15, 25, 52] 300 ?_
    show ((nmA v5 = 32) → (xI (v5 - v4)) ∧ (xI (v2 - v1)) ∧ ((¬ v5 - v4 = v2 - v1) → (xI (v3 + 1)) ∧ (xI (v5 + 1)) ∧ (xI (v5 + 1)) ∧ xq X d 150 Q 8 [(0, (2, 51)), (1, (0, v1)), (2, (0, v2)), (3, (0, v3 + 1)), (4, (0, v5 + 1)), (5, (0, v5 + 1))] [] H) ∧ (¬ (¬ v5 - v4 = v2 - v1) → xWM (xE X) xMC d 149 [(2, 51), (0, v4), (0, v1), (0, v2)] xKZ H _)) ∧ (¬ (nmA v5 = 32) → (xI (v5 + 1)) ∧ xq X d 150 Q 8 [(0, (2, 51)), (1, (0, v1)), (2, (0, v2)), (3, (0, v3)), (4, (0, v4)), (5, (0, v5 + 1))] [] H)
    refine ⟨fun k_ => ?_, fun k_ => ?_⟩
    · replace h := h.1 k_
      refine ⟨h.1, ?_⟩
      replace h := h.2
      refine ⟨h.1, ?_⟩
      replace h := h.2
      refine ⟨fun k_ => ?_, fun k_ => ?_⟩
      · replace h := h.1 k_
        refine ⟨h.1, ?_⟩
        replace h := h.2
        refine ⟨h.1, ?_⟩
        replace h := h.2
        refine ⟨h.1, ?_⟩
        replace h := h.2
        exact h
      · replace h := h.2 k_
        refine xc_in (xc_mono (fun J435 h434 q_ => ?_) h)
        replace h := q_
        show xq X d 150 Q 52 [(0, (2, 51)), (1, (0, v1)), (2, (0, v2)), (3, (0, v3)), (4, (0, v4)), (5, (0, v5))] [(0, J435)] h434
        refine xq_run [8, 15, 25, 52] 300 ?_
        show ((J435 = 0) → (xI (v3 + 1)) ∧ (xI (v5 + 1)) ∧ (xI (v5 + 1)) ∧ xq X d 150 Q 8 [(0, (2, 51)), (1, (0, v1)), (2, (0, v2)), (3, (0, v3 + 1)), (4, (0, v5 + 1)), (5, (0, v5 + 1))] [] h434) ∧ (¬ (J435 = 0) → xfR 0 v3 ∧ xKZ = xKZ ∧ Q v3 h434)
        refine ⟨fun k_ => ?_, fun k_ => ?_⟩
        · replace h := h.1 k_
          refine ⟨h.1, ?_⟩
          replace h := h.2
          refine ⟨h.1, ?_⟩
          replace h := h.2
          refine ⟨h.1, ?_⟩
          replace h := h.2
          exact h
        · replace h := h.2 k_
          exact ⟨trivial, rfl, h⟩
    · replace h := h.2 k_
      refine ⟨h.1, ?_⟩
      replace h := h.2
      exact h

theorem s_150 {X : Int × (Int → Int)} {d : Nat} {Q : Int → XH → Prop} (hd : 6 ≤ d) (b e : Int) (H : XH) (pb : 0 ≤ b ∧ b ≤ e) (pe : e ≤ H 51 3 ∧ H 51 3 ≤ 300) (hQ : ∀ r, nkP (H 52) b e r → Q r H) : xc X d 150 [(2, 51), (0, b), (0, e)] H Q := by
  cases d with
  | zero => omega
  | succ d =>
  have o0 : wdO 0 = 0 := by decide
  have o18 : wdO 18 = 87 := by decide
  have key : ∀ (k : Nat) (p j f : Int), p + k = 87 → (0 ≤ j ∧ j ≤ 18) → f = wdO j → (j ≤ 17 → f ≤ p ∧ p ≤ f + wdL j) → (j = 18 → p = 87) → (∀ x, 0 ≤ x → x < j → ¬ wdE (H 52) b e x) → xq X d 150 Q 8 [(0, (2, 51)), (1, (0, b)), (2, (0, e)), (3, (0, j)), (4, (0, f)), (5, (0, p))] [] H := by
    intro k
    induction k with
    | zero =>
      intro p j f hp hj hf h1 h2 hx
      have e18 : j = 18 := by
        by_cases q : j ≤ 17
        · have z := wd_at (j := j) (by omega)
          omega
        · omega
      refine U_150_8 (by omega) b e j f p H ?_
      refine ⟨fun c1 => ?_, fun c1 => ?_⟩
      · skip
        exact hQ 22 (Or.inr ⟨rfl, fun x a b => hx x a (by omega)⟩)
      · skip
        refine ⟨?_, ?_⟩
        · first | omega | (unfold xI; omega) | (exfalso; omega)
        refine ⟨fun c2 => ?_, fun c2 => ?_⟩
        · skip
          refine ⟨?_, ?_⟩
          · first | omega | (unfold xI; omega) | (exfalso; omega)
          refine ⟨?_, ?_⟩
          · first | omega | (unfold xI; omega) | (exfalso; omega)
          refine ⟨fun c3 => ?_, fun c3 => ?_⟩
          · skip
            refine ⟨?_, ?_⟩
            · first | omega | (unfold xI; omega) | (exfalso; omega)
            refine ⟨?_, ?_⟩
            · first | omega | (unfold xI; omega) | (exfalso; omega)
            refine ⟨?_, ?_⟩
            · first | omega | (unfold xI; omega) | (exfalso; omega)
            exfalso
            omega
          · skip
            exfalso
            omega
        · skip
          refine ⟨?_, ?_⟩
          · first | omega | (unfold xI; omega) | (exfalso; omega)
          exfalso
          omega
    | succ k ih =>
      intro p j f hp hj hf h1 h2 hx
      have j17 : j ≤ 17 := by omega
      have z := wd_at (j := j) (by omega)
      have ends : nmA p = 32 → p = f + wdL j := fun q => by
        by_cases y : p < f + wdL j
        · exact absurd q (wd_no (j := j) (by omega) (by omega))
        · omega
      have nx : nmA p = 32 → ¬ wdE (H 52) b e j → xq X d 150 Q 8 [(0, (2, 51)), (1, (0, b)), (2, (0, e)), (3, (0, j + 1)), (4, (0, p + 1)), (5, (0, p + 1))] [] H := fun q y => by
        have q2 := ends q
        refine ih (p + 1) (j + 1) (p + 1) (by omega) (by omega) (by omega) (fun a => ?_) (fun a => ?_) (fun x a b' => ?_)
        · have := (wd_at (j := j + 1) (by omega)).2.2.2.2
          omega
        · rw [a, o18] at z
          omega
        · by_cases c : x = j
          · rw [c]
            exact y
          · exact hx x a (by omega)
      refine U_150_8 (by omega) b e j f p H ?_
      refine ⟨fun c1 => ?_, fun c1 => ?_⟩
      · skip
        exfalso
        omega
      · skip
        refine ⟨?_, ?_⟩
        · first | omega | (unfold xI; omega) | (exfalso; omega)
        refine ⟨fun c2 => ?_, fun c2 => ?_⟩
        · skip
          refine ⟨?_, ?_⟩
          · first | omega | (unfold xI; omega) | (exfalso; omega)
          refine ⟨?_, ?_⟩
          · first | omega | (unfold xI; omega) | (exfalso; omega)
          refine ⟨fun c3 => ?_, fun c3 => ?_⟩
          · skip
            refine ⟨?_, ?_⟩
            · first | omega | (unfold xI; omega) | (exfalso; omega)
            refine ⟨?_, ?_⟩
            · first | omega | (unfold xI; omega) | (exfalso; omega)
            refine ⟨?_, ?_⟩
            · first | omega | (unfold xI; omega) | (exfalso; omega)
            exact nx (by assumption) (fun y => by have := ends (by assumption); have := y.1; omega)
          · skip
            have q2 := ends (by assumption)
            refine s_149 (by omega) f b e H (by omega) pb pe (fun y => ?_) (fun y => ?_)
            · refine ⟨fun c => absurd c (by decide), fun c => ?_⟩
              exact hQ j (Or.inl ⟨by omega, j17, by omega, by rw [← hf]; exact y⟩)
            · refine ⟨fun c => ?_, fun c => absurd rfl c⟩
              exact ⟨by unfold xI; omega, by unfold xI; omega, by unfold xI; omega, nx (by assumption) (fun w => y (by rw [hf]; exact w.2))⟩
        · skip
          refine ⟨?_, ?_⟩
          · first | omega | (unfold xI; omega) | (exfalso; omega)
          exact ih (p + 1) j f (by omega) hj hf (fun a => ⟨by omega, by have q3 : ¬ p = f + wdL j := fun y => absurd z.2.1 (by rw [← hf, ← y]; assumption); omega⟩) (fun a => by omega) hx
  refine U_150 (by omega) b e H ?_
  exact key 87 0 0 0 (by decide) (by decide) o0.symm (fun _ => by decide) (fun q => absurd q (by decide)) (fun x a b => by omega)

def ncF (t : Int → Int) (b : Int) : Nat → Int
  | 0 => 0
  | m + 1 => min 10000 (ncF t b m * 10 + (t (b + m) - 48))
theorem ncF_rng {t : Int → Int} {b : Int} : ∀ m : Nat, (∀ i : Int, b ≤ i → i < b + m → isDg (t i)) → 0 ≤ ncF t b m ∧ ncF t b m ≤ 10000
  | 0, _ => ⟨by unfold ncF; decide, by unfold ncF; decide⟩
  | m + 1, h => by
    have ih := ncF_rng m (fun i a b => h i a (by omega))
    have z := h (b + m) (by omega) (by omega)
    unfold isDg at z
    unfold ncF
    omega
/-- a token: from b to e, of kind k, with number v -/
def tkP (t : Int → Int) (n b k v e : Int) : Prop :=
  (isLt (t b) ∧ (b < e ∧ e ≤ n) ∧ (∀ i, b ≤ i → i < e → isLt (t i)) ∧ (e < n → ¬ isLt (t e)) ∧ nkP t b e k ∧ v = 0) ∨
  (isDg (t b) ∧ (b < e ∧ e ≤ n) ∧ (∀ i, b ≤ i → i < e → isDg (t i)) ∧ (e < n → ¬ isDg (t e)) ∧ k = 20 ∧ v = ncF t b (e - b).toNat) ∨
  (¬ isLt (t b) ∧ ¬ isDg (t b) ∧ ((t b = 60 ∨ t b = 62) ∧ b + 1 < n ∧ t (b + 1) = 61) ∧ e = b + 2 ∧ k = (if t b = 60 then 41 else 42) ∧ v = 0) ∨
  (¬ isLt (t b) ∧ ¬ isDg (t b) ∧ ¬ ((t b = 60 ∨ t b = 62) ∧ b + 1 < n ∧ t (b + 1) = 61) ∧ e = b + 1 ∧ k = (if 0 ≤ sgI (t b) then 30 + sgI (t b) else 22) ∧ v = 0)
theorem tkP_e {t : Int → Int} {n b k v e : Int} (hb : b < n) (h : tkP t n b k v e) : b < e ∧ e ≤ n := by
  rcases h with h | h | h | h
  · exact h.2.1
  · exact h.2.1
  · omega
  · omega
theorem sgI_rng (c : Int) : -1 ≤ sgI c ∧ sgI c ≤ 10 := by
  unfold sgI
  repeat' split
  all_goals omega

theorem U_157 {X : Int × (Int → Int)} {d : Nat} {Q : Int → XH → Prop} (hd : 4 ≤ d) (b : Int) (H : XH) (h : ((b < 0) → Q (H 51 3) H) ∧ (¬ (b < 0) → ((H 51 3 ≤ b) → Q (H 51 3) H) ∧ (¬ (H 51 3 ≤ b) → ((H 51 10 < 300) → ((0 : Int) ≤ b ∧ (b : Int) < 300) ∧ (xI (b + 1)) ∧ (((((97 ≤ (H 52 b) ∧ (H 52 b) ≤ 122) ∨ (65 ≤ (H 52 b) ∧ (H 52 b) ≤ 90))) → xq X d 157 Q 48 [(0, (2, 51)), (1, (0, b)), (3, (0, b + 1)), (4, (0, 0))] [] H) ∧ (¬ (((97 ≤ (H 52 b) ∧ (H 52 b) ≤ 122) ∨ (65 ≤ (H 52 b) ∧ (H 52 b) ≤ 90))) → ((((48 ≤ (H 52 b) ∧ (H 52 b) ≤ 57)) → xq X d 157 Q 94 [(0, (2, 51)), (1, (0, b)), (3, (0, b)), (4, (0, 0))] [] H) ∧ (¬ ((48 ≤ (H 52 b) ∧ (H 52 b) ≤ 57)) → ((H 52 b = 60) → ((H 51 3 ≤ b + 1) → (((0 ≤ sgI (H 52 b)) → (xI (30 + (sgI (H 52 b)))) ∧ ((0 : Int) ≤ H 51 10 ∧ (H 51 10 : Int) < 301) ∧ ((0 : Int) ≤ H 51 10 ∧ (H 51 10 : Int) < 301) ∧ ((0 : Int) ≤ H 51 10 ∧ (H 51 10 : Int) < 301) ∧ (xI ((H 51 10) + 1)) ∧ Q (b + 1) (xup (xup (xup (xup H 55 (H 51 10) (30 + (sgI (H 52 b)))) 56 (H 51 10) b) 57 (H 51 10) 0) 51 10 ((H 51 10) + 1))) ∧ (¬ (0 ≤ sgI (H 52 b)) → ((0 : Int) ≤ H 51 10 ∧ (H 51 10 : Int) < 301) ∧ ((0 : Int) ≤ H 51 10 ∧ (H 51 10 : Int) < 301) ∧ ((0 : Int) ≤ H 51 10 ∧ (H 51 10 : Int) < 301) ∧ (xI ((H 51 10) + 1)) ∧ Q (b + 1) (xup (xup (xup (xup H 55 (H 51 10) 22) 56 (H 51 10) b) 57 (H 51 10) 0) 51 10 ((H 51 10) + 1))))) ∧ (¬ (H 51 3 ≤ b + 1) → ((0 : Int) ≤ b + 1 ∧ (b + 1 : Int) < 300) ∧ ((¬ H 52 (b + 1) = 61) → (((0 ≤ sgI (H 52 b)) → (xI (30 + (sgI (H 52 b)))) ∧ ((0 : Int) ≤ H 51 10 ∧ (H 51 10 : Int) < 301) ∧ ((0 : Int) ≤ H 51 10 ∧ (H 51 10 : Int) < 301) ∧ ((0 : Int) ≤ H 51 10 ∧ (H 51 10 : Int) < 301) ∧ (xI ((H 51 10) + 1)) ∧ Q (b + 1) (xup (xup (xup (xup H 55 (H 51 10) (30 + (sgI (H 52 b)))) 56 (H 51 10) b) 57 (H 51 10) 0) 51 10 ((H 51 10) + 1))) ∧ (¬ (0 ≤ sgI (H 52 b)) → ((0 : Int) ≤ H 51 10 ∧ (H 51 10 : Int) < 301) ∧ ((0 : Int) ≤ H 51 10 ∧ (H 51 10 : Int) < 301) ∧ ((0 : Int) ≤ H 51 10 ∧ (H 51 10 : Int) < 301) ∧ (xI ((H 51 10) + 1)) ∧ Q (b + 1) (xup (xup (xup (xup H 55 (H 51 10) 22) 56 (H 51 10) b) 57 (H 51 10) 0) 51 10 ((H 51 10) + 1))))) ∧ (¬ (¬ H 52 (b + 1) = 61) → (xI ((b + 1) + 1)) ∧ ((¬ H 52 b = 60) → ((0 : Int) ≤ H 51 10 ∧ (H 51 10 : Int) < 301) ∧ ((0 : Int) ≤ H 51 10 ∧ (H 51 10 : Int) < 301) ∧ ((0 : Int) ≤ H 51 10 ∧ (H 51 10 : Int) < 301) ∧ (xI ((H 51 10) + 1)) ∧ Q ((b + 1) + 1) (xup (xup (xup (xup H 55 (H 51 10) 42) 56 (H 51 10) b) 57 (H 51 10) 0) 51 10 ((H 51 10) + 1))) ∧ (¬ (¬ H 52 b = 60) → ((0 : Int) ≤ H 51 10 ∧ (H 51 10 : Int) < 301) ∧ ((0 : Int) ≤ H 51 10 ∧ (H 51 10 : Int) < 301) ∧ ((0 : Int) ≤ H 51 10 ∧ (H 51 10 : Int) < 301) ∧ (xI ((H 51 10) + 1)) ∧ Q ((b + 1) + 1) (xup (xup (xup (xup H 55 (H 51 10) 41) 56 (H 51 10) b) 57 (H 51 10) 0) 51 10 ((H 51 10) + 1)))))) ∧ (¬ (H 52 b = 60) → ((¬ H 52 b = 62) → (((0 ≤ sgI (H 52 b)) → (xI (30 + (sgI (H 52 b)))) ∧ ((0 : Int) ≤ H 51 10 ∧ (H 51 10 : Int) < 301) ∧ ((0 : Int) ≤ H 51 10 ∧ (H 51 10 : Int) < 301) ∧ ((0 : Int) ≤ H 51 10 ∧ (H 51 10 : Int) < 301) ∧ (xI ((H 51 10) + 1)) ∧ Q (b + 1) (xup (xup (xup (xup H 55 (H 51 10) (30 + (sgI (H 52 b)))) 56 (H 51 10) b) 57 (H 51 10) 0) 51 10 ((H 51 10) + 1))) ∧ (¬ (0 ≤ sgI (H 52 b)) → ((0 : Int) ≤ H 51 10 ∧ (H 51 10 : Int) < 301) ∧ ((0 : Int) ≤ H 51 10 ∧ (H 51 10 : Int) < 301) ∧ ((0 : Int) ≤ H 51 10 ∧ (H 51 10 : Int) < 301) ∧ (xI ((H 51 10) + 1)) ∧ Q (b + 1) (xup (xup (xup (xup H 55 (H 51 10) 22) 56 (H 51 10) b) 57 (H 51 10) 0) 51 10 ((H 51 10) + 1))))) ∧ (¬ (¬ H 52 b = 62) → ((H 51 3 ≤ b + 1) → (((0 ≤ sgI (H 52 b)) → (xI (30 + (sgI (H 52 b)))) ∧ ((0 : Int) ≤ H 51 10 ∧ (H 51 10 : Int) < 301) ∧ ((0 : Int) ≤ H 51 10 ∧ (H 51 10 : Int) < 301) ∧ ((0 : Int) ≤ H 51 10 ∧ (H 51 10 : Int) < 301) ∧ (xI ((H 51 10) + 1)) ∧ Q (b + 1) (xup (xup (xup (xup H 55 (H 51 10) (30 + (sgI (H 52 b)))) 56 (H 51 10) b) 57 (H 51 10) 0) 51 10 ((H 51 10) + 1))) ∧ (¬ (0 ≤ sgI (H 52 b)) → ((0 : Int) ≤ H 51 10 ∧ (H 51 10 : Int) < 301) ∧ ((0 : Int) ≤ H 51 10 ∧ (H 51 10 : Int) < 301) ∧ ((0 : Int) ≤ H 51 10 ∧ (H 51 10 : Int) < 301) ∧ (xI ((H 51 10) + 1)) ∧ Q (b + 1) (xup (xup (xup (xup H 55 (H 51 10) 22) 56 (H 51 10) b) 57 (H 51 10) 0) 51 10 ((H 51 10) + 1))))) ∧ (¬ (H 51 3 ≤ b + 1) → ((0 : Int) ≤ b + 1 ∧ (b + 1 : Int) < 300) ∧ ((¬ H 52 (b + 1) = 61) → (((0 ≤ sgI (H 52 b)) → (xI (30 + (sgI (H 52 b)))) ∧ ((0 : Int) ≤ H 51 10 ∧ (H 51 10 : Int) < 301) ∧ ((0 : Int) ≤ H 51 10 ∧ (H 51 10 : Int) < 301) ∧ ((0 : Int) ≤ H 51 10 ∧ (H 51 10 : Int) < 301) ∧ (xI ((H 51 10) + 1)) ∧ Q (b + 1) (xup (xup (xup (xup H 55 (H 51 10) (30 + (sgI (H 52 b)))) 56 (H 51 10) b) 57 (H 51 10) 0) 51 10 ((H 51 10) + 1))) ∧ (¬ (0 ≤ sgI (H 52 b)) → ((0 : Int) ≤ H 51 10 ∧ (H 51 10 : Int) < 301) ∧ ((0 : Int) ≤ H 51 10 ∧ (H 51 10 : Int) < 301) ∧ ((0 : Int) ≤ H 51 10 ∧ (H 51 10 : Int) < 301) ∧ (xI ((H 51 10) + 1)) ∧ Q (b + 1) (xup (xup (xup (xup H 55 (H 51 10) 22) 56 (H 51 10) b) 57 (H 51 10) 0) 51 10 ((H 51 10) + 1))))) ∧ (¬ (¬ H 52 (b + 1) = 61) → (xI ((b + 1) + 1)) ∧ ((¬ H 52 b = 60) → ((0 : Int) ≤ H 51 10 ∧ (H 51 10 : Int) < 301) ∧ ((0 : Int) ≤ H 51 10 ∧ (H 51 10 : Int) < 301) ∧ ((0 : Int) ≤ H 51 10 ∧ (H 51 10 : Int) < 301) ∧ (xI ((H 51 10) + 1)) ∧ Q ((b + 1) + 1) (xup (xup (xup (xup H 55 (H 51 10) 42) 56 (H 51 10) b) 57 (H 51 10) 0) 51 10 ((H 51 10) + 1))) ∧ (¬ (¬ H 52 b = 60) → ((0 : Int) ≤ H 51 10 ∧ (H 51 10 : Int) < 301) ∧ ((0 : Int) ≤ H 51 10 ∧ (H 51 10 : Int) < 301) ∧ ((0 : Int) ≤ H 51 10 ∧ (H 51 10 : Int) < 301) ∧ (xI ((H 51 10) + 1)) ∧ Q ((b + 1) + 1) (xup (xup (xup (xup H 55 (H 51 10) 41) 56 (H 51 10) b) 57 (H 51 10) 0) 51 10 ((H 51 10) + 1)))))))))))) ∧ (¬ (H 51 10 < 300) → Q (H 51 3) H)))) : xc X (d + 1) 157 [(2, 51), (0, b)] H Q := by
  refine ⟨rfl, ?_⟩
  show xq X d 157 Q 100000 [(0, (2, 51)), (1, (0, b))] [] H
  refine xq_run [45, 48, 65, 80, 89, 94, 111, 135, 208] 300 ?_
  show ((b < 0) → xfR 0 (H 51 3) ∧ xKZ = xKZ ∧ Q (H 51 3) H) ∧ (¬ (b < 0) → ((H 51 3 ≤ b) → xfR 0 (H 51 3) ∧ xKZ = xKZ ∧ Q (H 51 3) H) ∧ (¬ (H 51 3 ≤ b) → ((H 51 10 < 300) → ((0 : Int) ≤ b ∧ (b : Int) < 300) ∧ (xI (b + 1)) ∧ xWM (xE X) xMC d 141 [(0, H 52 b)] xKZ H _) ∧ (¬ (H 51 10 < 300) → xfR 0 (H 51 3) ∧ xKZ = xKZ ∧ Q (H 51 3) H)))
  refine ⟨fun k_ => ?_, fun k_ => ?_⟩
  · replace h := h.1 k_
    exact ⟨trivial, rfl, h⟩
  · replace h := h.2 k_
    refine ⟨fun k_ => ?_, fun k_ => ?_⟩
    · replace h := h.1 k_
      exact ⟨trivial, rfl, h⟩
    · replace h := h.2 k_
      refine ⟨fun k_ => ?_, fun k_ => ?_⟩
      · replace h := h.1 k_
        refine ⟨h.1, ?_⟩
        replace h := h.2
        refine ⟨h.1, ?_⟩
        replace h := h.2
        refine xc_in (s_141 (by omega) (H 52 b) H  ?_)
        replace h := h
        show xq X d 157 Q 45 [(4, (0, 0)), (3, (0, b + 1)), (2, (0, H 52 b)), (0, (2, 51)), (1, (0, b))] [(0, xb ((97 ≤ (H 52 b) ∧ (H 52 b) ≤ 122) ∨ (65 ≤ (H 52 b) ∧ (H 52 b) ≤ 90)))] H
        refine xq_run [45, 48, 65, 80, 89, 94, 111, 135, 208] 300 ?_
        show ((xb ((97 ≤ (H 52 b) ∧ (H 52 b) ≤ 122) ∨ (65 ≤ (H 52 b) ∧ (H 52 b) ≤ 90)) = 0) → xWM (xE X) xMC d 151 [(0, H 52 b)] xKZ H _) ∧ (¬ (xb ((97 ≤ (H 52 b) ∧ (H 52 b) ≤ 122) ∨ (65 ≤ (H 52 b) ∧ (H 52 b) ≤ 90)) = 0) → xq X d 157 Q 48 [(0, (2, 51)), (1, (0, b)), (3, (0, b + 1)), (4, (0, 0))] [] H)
        refine ⟨fun k_ => ?_, fun k_ => ?_⟩
        · replace h := h.2 (xbe_0.mp k_)
          refine xc_in (s_151 (by omega) (H 52 b) H  ?_)
          replace h := h
          show xq X d 157 Q 89 [(4, (0, 0)), (3, (0, b + 1)), (2, (0, H 52 b)), (0, (2, 51)), (1, (0, b))] [(0, xb (48 ≤ (H 52 b) ∧ (H 52 b) ≤ 57))] H
          refine xq_run [45, 48, 65, 80, 89, 94, 111, 135, 208] 300 ?_
          show ((xb (48 ≤ (H 52 b) ∧ (H 52 b) ≤ 57) = 0) → ((H 52 b = 60) → ((H 51 3 ≤ b + 1) → xWM (xE X) xMC d 156 [(3, 1), (0, H 52 b)] xKZ H _) ∧ (¬ (H 51 3 ≤ b + 1) → ((0 : Int) ≤ b + 1 ∧ (b + 1 : Int) < 300) ∧ ((¬ H 52 (b + 1) = 61) → xWM (xE X) xMC d 156 [(3, 1), (0, H 52 b)] xKZ H _) ∧ (¬ (¬ H 52 (b + 1) = 61) → (xI ((b + 1) + 1)) ∧ ((¬ H 52 b = 60) → ((0 : Int) ≤ H 51 10 ∧ (H 51 10 : Int) < 301) ∧ ((0 : Int) ≤ H 51 10 ∧ (H 51 10 : Int) < 301) ∧ ((0 : Int) ≤ H 51 10 ∧ (H 51 10 : Int) < 301) ∧ (xI ((H 51 10) + 1)) ∧ xfR 0 ((b + 1) + 1) ∧ xKZ = xKZ ∧ Q ((b + 1) + 1) (xup (xup (xup (xup H 55 (H 51 10) 42) 56 (H 51 10) b) 57 (H 51 10) 0) 51 10 ((H 51 10) + 1))) ∧ (¬ (¬ H 52 b = 60) → ((0 : Int) ≤ H 51 10 ∧ (H 51 10 : Int) < 301) ∧ ((0 : Int) ≤ H 51 10 ∧ (H 51 10 : Int) < 301) ∧ ((0 : Int) ≤ H 51 10 ∧ (H 51 10 : Int) < 301) ∧ (xI ((H 51 10) + 1)) ∧ xfR 0 ((b + 1) + 1) ∧ xKZ = xKZ ∧ Q ((b + 1) + 1) (xup (xup (xup (xup H 55 (H 51 10) 41) 56 (H 51 10) b) 57 (H 51 10) 0) 51 10 ((H 51 10) + 1)))))) ∧ (¬ (H 52 b = 60) → ((¬ H 52 b = 62) → xWM (xE X) xMC d 156 [(3, 1), (0, H 52 b)] xKZ H _) ∧ (¬ (¬ H 52 b = 62) → ((H 51 3 ≤ b + 1) → xWM (xE X) xMC d 156 [(3, 1), (0, H 52 b)] xKZ H _) ∧ (¬ (H 51 3 ≤ b + 1) → ((0 : Int) ≤ b + 1 ∧ (b + 1 : Int) < 300) ∧ ((¬ H 52 (b + 1) = 61) → xWM (xE X) xMC d 156 [(3, 1), (0, H 52 b)] xKZ H _) ∧ (¬ (¬ H 52 (b + 1) = 61) → (xI ((b + 1) + 1)) ∧ ((¬ H 52 b = 60) → ((0 : Int) ≤ H 51 10 ∧ (H 51 10 : Int) < 301) ∧ ((0 : Int) ≤ H 51 10 ∧ (H 51 10 : Int) < 301) ∧ ((0 : Int) ≤ H 51 10 ∧ (H 51 10 : Int) < 301) ∧ (xI ((H 51 10) + 1)) ∧ xfR 0 ((b + 1) + 1) ∧ xKZ = xKZ ∧ Q ((b + 1) + 1) (xup (xup (xup (xup H 55 (H 51 10) 42) 56 (H 51 10) b) 57 (H 51 10) 0) 51 10 ((H 51 10) + 1))) ∧ (¬ (¬ H 52 b = 60) → ((0 : Int) ≤ H 51 10 ∧ (H 51 10 : Int) < 301) ∧ ((0 : Int) ≤ H 51 10 ∧ (H 51 10 : Int) < 301) ∧ ((0 : Int) ≤ H 51 10 ∧ (H 51 10 : Int) < 301) ∧ (xI ((H 51 10) + 1)) ∧ xfR 0 ((b + 1) + 1) ∧ xKZ = xKZ ∧ Q ((b + 1) + 1) (xup (xup (xup (xup H 55 (H 51 10) 41) 56 (H 51 10) b) 57 (H 51 10) 0) 51 10 ((H 51 10) + 1)))))))) ∧ (¬ (xb (48 ≤ (H 52 b) ∧ (H 52 b) ≤ 57) = 0) → xq X d 157 Q 94 [(0, (2, 51)), (1, (0, b)), (3, (0, b)), (4, (0, 0))] [] H)
          refine ⟨fun k_ => ?_, fun k_ => ?_⟩
          · replace h := h.2 (xbe_0.mp k_)
            refine ⟨fun k_ => ?_, fun k_ => ?_⟩
            · replace h := h.1 k_
              refine ⟨fun k_ => ?_, fun k_ => ?_⟩
              · replace h := h.1 k_
                refine xc_in (s_156 (by omega) (H 52 b) H  ?_)
                replace h := h
                show xq X d 157 Q 208 [(4, (0, 0)), (3, (0, b + 1)), (2, (0, H 52 b)), (0, (2, 51)), (1, (0, b))] [(0, sgI (H 52 b))] H
                refine xq_run [45, 48, 65, 80, 89, 94, 111, 135, 208] 300 ?_
                show ((0 ≤ sgI (H 52 b)) → (xI (30 + (sgI (H 52 b)))) ∧ ((0 : Int) ≤ H 51 10 ∧ (H 51 10 : Int) < 301) ∧ ((0 : Int) ≤ H 51 10 ∧ (H 51 10 : Int) < 301) ∧ ((0 : Int) ≤ H 51 10 ∧ (H 51 10 : Int) < 301) ∧ (xI ((H 51 10) + 1)) ∧ xfR 0 (b + 1) ∧ xKZ = xKZ ∧ Q (b + 1) (xup (xup (xup (xup H 55 (H 51 10) (30 + (sgI (H 52 b)))) 56 (H 51 10) b) 57 (H 51 10) 0) 51 10 ((H 51 10) + 1))) ∧ (¬ (0 ≤ sgI (H 52 b)) → ((0 : Int) ≤ H 51 10 ∧ (H 51 10 : Int) < 301) ∧ ((0 : Int) ≤ H 51 10 ∧ (H 51 10 : Int) < 301) ∧ ((0 : Int) ≤ H 51 10 ∧ (H 51 10 : Int) < 301) ∧ (xI ((H 51 10) + 1)) ∧ xfR 0 (b + 1) ∧ xKZ = xKZ ∧ Q (b + 1) (xup (xup (xup (xup H 55 (H 51 10) 22) 56 (H 51 10) b) 57 (H 51 10) 0) 51 10 ((H 51 10) + 1)))
                refine ⟨fun k_ => ?_, fun k_ => ?_⟩
                · replace h := h.1 k_
                  refine ⟨h.1, ?_⟩
                  replace h := h.2
                  refine ⟨h.1, ?_⟩
                  replace h := h.2
                  refine ⟨h.1, ?_⟩
                  replace h := h.2
                  refine ⟨h.1, ?_⟩
                  replace h := h.2
                  refine ⟨h.1, ?_⟩
                  replace h := h.2
                  exact ⟨trivial, rfl, h⟩
                · replace h := h.2 k_
                  refine ⟨h.1, ?_⟩
                  replace h := h.2
                  refine ⟨h.1, ?_⟩
                  replace h := h.2
                  refine ⟨h.1, ?_⟩
                  replace h := h.2
                  refine ⟨h.1, ?_⟩
                  replace h := h.2
                  exact ⟨trivial, rfl, h⟩
              · replace h := h.2 k_
                refine ⟨h.1, ?_⟩
                replace h := h.2
                refine ⟨fun k_ => ?_, fun k_ => ?_⟩
                · replace h := h.1 k_
                  refine xc_in (s_156 (by omega) (H 52 b) H  ?_)
                  replace h := h
                  show xq X d 157 Q 208 [(4, (0, 0)), (3, (0, b + 1)), (2, (0, H 52 b)), (0, (2, 51)), (1, (0, b))] [(0, sgI (H 52 b))] H
                  refine xq_run [45, 48, 65, 80, 89, 94, 111, 135, 208] 300 ?_
                  show ((0 ≤ sgI (H 52 b)) → (xI (30 + (sgI (H 52 b)))) ∧ ((0 : Int) ≤ H 51 10 ∧ (H 51 10 : Int) < 301) ∧ ((0 : Int) ≤ H 51 10 ∧ (H 51 10 : Int) < 301) ∧ ((0 : Int) ≤ H 51 10 ∧ (H 51 10 : Int) < 301) ∧ (xI ((H 51 10) + 1)) ∧ xfR 0 (b + 1) ∧ xKZ = xKZ ∧ Q (b + 1) (xup (xup (xup (xup H 55 (H 51 10) (30 + (sgI (H 52 b)))) 56 (H 51 10) b) 57 (H 51 10) 0) 51 10 ((H 51 10) + 1))) ∧ (¬ (0 ≤ sgI (H 52 b)) → ((0 : Int) ≤ H 51 10 ∧ (H 51 10 : Int) < 301) ∧ ((0 : Int) ≤ H 51 10 ∧ (H 51 10 : Int) < 301) ∧ ((0 : Int) ≤ H 51 10 ∧ (H 51 10 : Int) < 301) ∧ (xI ((H 51 10) + 1)) ∧ xfR 0 (b + 1) ∧ xKZ = xKZ ∧ Q (b + 1) (xup (xup (xup (xup H 55 (H 51 10) 22) 56 (H 51 10) b) 57 (H 51 10) 0) 51 10 ((H 51 10) + 1)))
                  refine ⟨fun k_ => ?_, fun k_ => ?_⟩
                  · replace h := h.1 k_
                    refine ⟨h.1, ?_⟩
                    replace h := h.2
                    refine ⟨h.1, ?_⟩
                    replace h := h.2
                    refine ⟨h.1, ?_⟩
                    replace h := h.2
                    refine ⟨h.1, ?_⟩
                    replace h := h.2
                    refine ⟨h.1, ?_⟩
                    replace h := h.2
                    exact ⟨trivial, rfl, h⟩
                  · replace h := h.2 k_
                    refine ⟨h.1, ?_⟩
                    replace h := h.2
                    refine ⟨h.1, ?_⟩
                    replace h := h.2
                    refine ⟨h.1, ?_⟩
                    replace h := h.2
                    refine ⟨h.1, ?_⟩
                    replace h := h.2
                    exact ⟨trivial, rfl, h⟩
                · replace h := h.2 k_
                  refine ⟨h.1, ?_⟩
                  replace h := h.2
                  refine ⟨fun k_ => ?_, fun k_ => ?_⟩
                  · replace h := h.1 k_
                    refine ⟨h.1, ?_⟩
                    replace h := h.2
                    refine ⟨h.1, ?_⟩
                    replace h := h.2
                    refine ⟨h.1, ?_⟩
                    replace h := h.2
                    refine ⟨h.1, ?_⟩
                    replace h := h.2
                    exact ⟨trivial, rfl, h⟩
                  · replace h := h.2 k_
                    refine ⟨h.1, ?_⟩
                    replace h := h.2
                    refine ⟨h.1, ?_⟩
                    replace h := h.2
                    refine ⟨h.1, ?_⟩
                    replace h := h.2
                    refine ⟨h.1, ?_⟩
                    replace h := h.2
                    exact ⟨trivial, rfl, h⟩
            · replace h := h.2 k_
              refine ⟨fun k_ => ?_, fun k_ => ?_⟩
              · replace h := h.1 k_
                refine xc_in (s_156 (by omega) (H 52 b) H  ?_)
                replace h := h
                show xq X d 157 Q 208 [(4, (0, 0)), (3, (0, b + 1)), (2, (0, H 52 b)), (0, (2, 51)), (1, (0, b))] [(0, sgI (H 52 b))] H
                refine xq_run [45, 48, 65, 80, 89, 94, 111, 135, 208] 300 ?_
                show ((0 ≤ sgI (H 52 b)) → (xI (30 + (sgI (H 52 b)))) ∧ ((0 : Int) ≤ H 51 10 ∧ (H 51 10 : Int) < 301) ∧ ((0 : Int) ≤ H 51 10 ∧ (H 51 10 : Int) < 301) ∧ ((0 : Int) ≤ H 51 10 ∧ (H 51 10 : Int) < 301) ∧ (xI ((H 51 10) + 1)) ∧ xfR 0 (b + 1) ∧ xKZ = xKZ ∧ Q (b + 1) (xup (xup (xup (xup H 55 (H 51 10) (30 + (sgI (H 52 b)))) 56 (H 51 10) b) 57 (H 51 10) 0) 51 10 ((H 51 10) + 1))) ∧ (¬ (0 ≤ sgI (H 52 b)) → ((0 : Int) ≤ H 51 10 ∧ (H 51 10 : Int) < 301) ∧ ((0 : Int) ≤ H 51 10 ∧ (H 51 10 : Int) < 301) ∧ ((0 : Int) ≤ H 51 10 ∧ (H 51 10 : Int) < 301) ∧ (xI ((H 51 10) + 1)) ∧ xfR 0 (b + 1) ∧ xKZ = xKZ ∧ Q (b + 1) (xup (xup (xup (xup H 55 (H 51 10) 22) 56 (H 51 10) b) 57 (H 51 10) 0) 51 10 ((H 51 10) + 1)))
                refine ⟨fun k_ => ?_, fun k_ => ?_⟩
                · replace h := h.1 k_
                  refine ⟨h.1, ?_⟩
                  replace h := h.2
                  refine ⟨h.1, ?_⟩
                  replace h := h.2
                  refine ⟨h.1, ?_⟩
                  replace h := h.2
                  refine ⟨h.1, ?_⟩
                  replace h := h.2
                  refine ⟨h.1, ?_⟩
                  replace h := h.2
                  exact ⟨trivial, rfl, h⟩
                · replace h := h.2 k_
                  refine ⟨h.1, ?_⟩
                  replace h := h.2
                  refine ⟨h.1, ?_⟩
                  replace h := h.2
                  refine ⟨h.1, ?_⟩
                  replace h := h.2
                  refine ⟨h.1, ?_⟩
                  replace h := h.2
                  exact ⟨trivial, rfl, h⟩
              · replace h := h.2 k_
                refine ⟨fun k_ => ?_, fun k_ => ?_⟩
                · replace h := h.1 k_
                  refine xc_in (s_156 (by omega) (H 52 b) H  ?_)
                  replace h := h
                  show xq X d 157 Q 208 [(4, (0, 0)), (3, (0, b + 1)), (2, (0, H 52 b)), (0, (2, 51)), (1, (0, b))] [(0, sgI (H 52 b))] H
                  refine xq_run [45, 48, 65, 80, 89, 94, 111, 135, 208] 300 ?_
                  show ((0 ≤ sgI (H 52 b)) → (xI (30 + (sgI (H 52 b)))) ∧ ((0 : Int) ≤ H 51 10 ∧ (H 51 10 : Int) < 301) ∧ ((0 : Int) ≤ H 51 10 ∧ (H 51 10 : Int) < 301) ∧ ((0 : Int) ≤ H 51 10 ∧ (H 51 10 : Int) < 301) ∧ (xI ((H 51 10) + 1)) ∧ xfR 0 (b + 1) ∧ xKZ = xKZ ∧ Q (b + 1) (xup (xup (xup (xup H 55 (H 51 10) (30 + (sgI (H 52 b)))) 56 (H 51 10) b) 57 (H 51 10) 0) 51 10 ((H 51 10) + 1))) ∧ (¬ (0 ≤ sgI (H 52 b)) → ((0 : Int) ≤ H 51 10 ∧ (H 51 10 : Int) < 301) ∧ ((0 : Int) ≤ H 51 10 ∧ (H 51 10 : Int) < 301) ∧ ((0 : Int) ≤ H 51 10 ∧ (H 51 10 : Int) < 301) ∧ (xI ((H 51 10) + 1)) ∧ xfR 0 (b + 1) ∧ xKZ = xKZ ∧ Q (b + 1) (xup (xup (xup (xup H 55 (H 51 10) 22) 56 (H 51 10) b) 57 (H 51 10) 0) 51 10 ((H 51 10) + 1)))
                  refine ⟨fun k_ => ?_, fun k_ => ?_⟩
                  · replace h := h.1 k_
                    refine ⟨h.1, ?_⟩
                    replace h := h.2
                    refine ⟨h.1, ?_⟩
                    replace h := h.2
                    refine ⟨h.1, ?_⟩
                    replace h := h.2
                    refine ⟨h.1, ?_⟩
                    replace h := h.2
                    refine ⟨h.1, ?_⟩
                    replace h := h.2
                    exact ⟨trivial, rfl, h⟩
                  · replace h := h.2 k_
                    refine ⟨h.1, ?_⟩
                    replace h := h.2
                    refine ⟨h.1, ?_⟩
                    replace h := h.2
                    refine ⟨h.1, ?_⟩
                    replace h := h.2
                    refine ⟨h.1, ?_⟩
                    replace h := h.2
                    exact ⟨trivial, rfl, h⟩
                · replace h := h.2 k_
                  refine ⟨h.1, ?_⟩
                  replace h := h.2
                  refine ⟨fun k_ => ?_, fun k_ => ?_⟩
                  · replace h := h.1 k_
                    refine xc_in (s_156 (by omega) (H 52 b) H  ?_)
                    replace h := h
                    show xq X d 157 Q 208 [(4, (0, 0)), (3, (0, b + 1)), (2, (0, H 52 b)), (0, (2, 51)), (1, (0, b))] [(0, sgI (H 52 b))] H
                    refine xq_run [45, 48, 65, 80, 89, 94, 111, 135, 208] 300 ?_
                    show ((0 ≤ sgI (H 52 b)) → (xI (30 + (sgI (H 52 b)))) ∧ ((0 : Int) ≤ H 51 10 ∧ (H 51 10 : Int) < 301) ∧ ((0 : Int) ≤ H 51 10 ∧ (H 51 10 : Int) < 301) ∧ ((0 : Int) ≤ H 51 10 ∧ (H 51 10 : Int) < 301) ∧ (xI ((H 51 10) + 1)) ∧ xfR 0 (b + 1) ∧ xKZ = xKZ ∧ Q (b + 1) (xup (xup (xup (xup H 55 (H 51 10) (30 + (sgI (H 52 b)))) 56 (H 51 10) b) 57 (H 51 10) 0) 51 10 ((H 51 10) + 1))) ∧ (¬ (0 ≤ sgI (H 52 b)) → ((0 : Int) ≤ H 51 10 ∧ (H 51 10 : Int) < 301) ∧ ((0 : Int) ≤ H 51 10 ∧ (H 51 10 : Int) < 301) ∧ ((0 : Int) ≤ H 51 10 ∧ (H 51 10 : Int) < 301) ∧ (xI ((H 51 10) + 1)) ∧ xfR 0 (b + 1) ∧ xKZ = xKZ ∧ Q (b + 1) (xup (xup (xup (xup H 55 (H 51 10) 22) 56 (H 51 10) b) 57 (H 51 10) 0) 51 10 ((H 51 10) + 1)))
                    refine ⟨fun k_ => ?_, fun k_ => ?_⟩
                    · replace h := h.1 k_
                      refine ⟨h.1, ?_⟩
                      replace h := h.2
                      refine ⟨h.1, ?_⟩
                      replace h := h.2
                      refine ⟨h.1, ?_⟩
                      replace h := h.2
                      refine ⟨h.1, ?_⟩
                      replace h := h.2
                      refine ⟨h.1, ?_⟩
                      replace h := h.2
                      exact ⟨trivial, rfl, h⟩
                    · replace h := h.2 k_
                      refine ⟨h.1, ?_⟩
                      replace h := h.2
                      refine ⟨h.1, ?_⟩
                      replace h := h.2
                      refine ⟨h.1, ?_⟩
                      replace h := h.2
                      refine ⟨h.1, ?_⟩
                      replace h := h.2
                      exact ⟨trivial, rfl, h⟩
                  · replace h := h.2 k_
                    refine ⟨h.1, ?_⟩
                    replace h := h.2
                    refine ⟨fun k_ => ?_, fun k_ => ?_⟩
                    · replace h := h.1 k_
                      refine ⟨h.1, ?_⟩
                      replace h := h.2
                      refine ⟨h.1, ?_⟩
                      replace h := h.2
                      refine ⟨h.1, ?_⟩
                      replace h := h.2
                      refine ⟨h.1, ?_⟩
                      replace h := h.2
                      exact ⟨trivial, rfl, h⟩
                    · replace h := h.2 k_
                      refine ⟨h.1, ?_⟩
                      replace h := h.2
                      refine ⟨h.1, ?_⟩
                      replace h := h.2
                      refine ⟨h.1, ?_⟩
                      replace h := h.2
                      refine ⟨h.1, ?_⟩
                      replace h := h.2
                      exact ⟨trivial, rfl, h⟩
          · replace h := h.1 (xbe_1.mp k_)
            exact h
        · replace h := h.1 (xbe_1.mp k_)
          exact h
      · replace h := h.2 k_
        exact ⟨trivial, rfl, h⟩
theorem U_157_94 {X : Int × (Int → Int)} {d : Nat} {Q : Int → XH → Prop} (hd : 1 ≤ d) (v1 v3 v4 : Int) (H : XH) (h : ((H 51 3 ≤ v3) → ((0 : Int) ≤ H 51 10 ∧ (H 51 10 : Int) < 301) ∧ ((0 : Int) ≤ H 51 10 ∧ (H 51 10 : Int) < 301) ∧ ((0 : Int) ≤ H 51 10 ∧ (H 51 10 : Int) < 301) ∧ (xI ((H 51 10) + 1)) ∧ Q v3 (xup (xup (xup (xup H 55 (H 51 10) 20) 56 (H 51 10) v1) 57 (H 51 10) v4) 51 10 ((H 51 10) + 1))) ∧ (¬ (H 51 3 ≤ v3) → ((0 : Int) ≤ v3 ∧ (v3 : Int) < 300) ∧ ((((48 ≤ (H 52 v3) ∧ (H 52 v3) ≤ 57)) → (xI (v4 * 10)) ∧ ((0 : Int) ≤ v3 ∧ (v3 : Int) < 300) ∧ (xI ((H 52 v3) - 48)) ∧ (xI ((v4 * 10) + ((H 52 v3) - 48))) ∧ ((xI (v3 + 1)) ∧ xq X d 157 Q 94 [(0, (2, 51)), (1, (0, v1)), (3, (0, v3 + 1)), (4, (0, min 10000 ((v4 * 10) + ((H 52 v3) - 48))))] [] H)) ∧ (¬ ((48 ≤ (H 52 v3) ∧ (H 52 v3) ≤ 57)) → ((0 : Int) ≤ H 51 10 ∧ (H 51 10 : Int) < 301) ∧ ((0 : Int) ≤ H 51 10 ∧ (H 51 10 : Int) < 301) ∧ ((0 : Int) ≤ H 51 10 ∧ (H 51 10 : Int) < 301) ∧ (xI ((H 51 10) + 1)) ∧ Q v3 (xup (xup (xup (xup H 55 (H 51 10) 20) 56 (H 51 10) v1) 57 (H 51 10) v4) 51 10 ((H 51 10) + 1)))))) : xq X d 157 Q 94 [(0, (2, 51)), (1, (0, v1)), (3, (0, v3)), (4, (0, v4))] [] H := by
  show xq X d 157 Q 94 [(0, (2, 51)), (1, (0, v1)), (3, (0, v3)), (4, (0, v4))] [] H
  refine xq_run [45, 48, 65, 80, 89, 94, 111, 135, 208] 300 ?_
  show ((H 51 3 ≤ v3) → ((0 : Int) ≤ H 51 10 ∧ (H 51 10 : Int) < 301) ∧ ((0 : Int) ≤ H 51 10 ∧ (H 51 10 : Int) < 301) ∧ ((0 : Int) ≤ H 51 10 ∧ (H 51 10 : Int) < 301) ∧ (xI ((H 51 10) + 1)) ∧ xfR 0 v3 ∧ xKZ = xKZ ∧ Q v3 (xup (xup (xup (xup H 55 (H 51 10) 20) 56 (H 51 10) v1) 57 (H 51 10) v4) 51 10 ((H 51 10) + 1))) ∧ (¬ (H 51 3 ≤ v3) → ((0 : Int) ≤ v3 ∧ (v3 : Int) < 300) ∧ xWM (xE X) xMC d 151 [(0, H 52 v3)] xKZ H _)
  refine ⟨fun k_ => ?_, fun k_ => ?_⟩
  · replace h := h.1 k_
    refine ⟨h.1, ?_⟩
    replace h := h.2
    refine ⟨h.1, ?_⟩
    replace h := h.2
    refine ⟨h.1, ?_⟩
    replace h := h.2
    refine ⟨h.1, ?_⟩
    replace h := h.2
    exact ⟨trivial, rfl, h⟩
  · replace h := h.2 k_
    refine ⟨h.1, ?_⟩
    replace h := h.2
    refine xc_in (s_151 (by omega) (H 52 v3) H  ?_)
    replace h := h
    show xq X d 157 Q 111 [(0, (2, 51)), (1, (0, v1)), (3, (0, v3)), (4, (0, v4))] [(0, xb (48 ≤ (H 52 v3) ∧ (H 52 v3) ≤ 57))] H
    refine xq_run [45, 48, 65, 80, 89, 94, 111, 135, 208] 300 ?_
    show ((xb (48 ≤ (H 52 v3) ∧ (H 52 v3) ≤ 57) = 0) → ((0 : Int) ≤ H 51 10 ∧ (H 51 10 : Int) < 301) ∧ ((0 : Int) ≤ H 51 10 ∧ (H 51 10 : Int) < 301) ∧ ((0 : Int) ≤ H 51 10 ∧ (H 51 10 : Int) < 301) ∧ (xI ((H 51 10) + 1)) ∧ xfR 0 v3 ∧ xKZ = xKZ ∧ Q v3 (xup (xup (xup (xup H 55 (H 51 10) 20) 56 (H 51 10) v1) 57 (H 51 10) v4) 51 10 ((H 51 10) + 1))) ∧ (¬ (xb (48 ≤ (H 52 v3) ∧ (H 52 v3) ≤ 57) = 0) → (xI (v4 * 10)) ∧ ((0 : Int) ≤ v3 ∧ (v3 : Int) < 300) ∧ (xI ((H 52 v3) - 48)) ∧ (xI ((v4 * 10) + ((H 52 v3) - 48))) ∧ xWM (xE X) xMC d 1 [(0, 10000), (0, (v4 * 10) + ((H 52 v3) - 48))] xKZ H _)
    refine ⟨fun k_ => ?_, fun k_ => ?_⟩
    · replace h := h.2 (xbe_0.mp k_)
      refine ⟨h.1, ?_⟩
      replace h := h.2
      refine ⟨h.1, ?_⟩
      replace h := h.2
      refine ⟨h.1, ?_⟩
      replace h := h.2
      refine ⟨h.1, ?_⟩
      replace h := h.2
      exact ⟨trivial, rfl, h⟩
    · replace h := h.1 (xbe_1.mp k_)
      refine ⟨h.1, ?_⟩
      replace h := h.2
      refine ⟨h.1, ?_⟩
      replace h := h.2
      refine ⟨h.1, ?_⟩
      replace h := h.2
      refine ⟨h.1, ?_⟩
      replace h := h.2
      refine xc_in (s_1 (by omega) 10000 ((v4 * 10) + ((H 52 v3) - 48)) H  ?_)
      replace h := h
      show xq X d 157 Q 135 [(0, (2, 51)), (1, (0, v1)), (3, (0, v3)), (4, (0, v4))] [(0, min 10000 ((v4 * 10) + ((H 52 v3) - 48)))] H
      refine xq_run [45, 48, 65, 80, 89, 94, 111, 135, 208] 300 ?_
      show (xI (v3 + 1)) ∧ xq X d 157 Q 94 [(0, (2, 51)), (1, (0, v1)), (3, (0, v3 + 1)), (4, (0, min 10000 ((v4 * 10) + ((H 52 v3) - 48))))] [] H
      refine ⟨h.1, ?_⟩
      replace h := h.2
      exact h
theorem U_157_48 {X : Int × (Int → Int)} {d : Nat} {Q : Int → XH → Prop} (hd : 1 ≤ d) (v1 v3 v4 : Int) (H : XH) (h : ((H 51 3 ≤ v3) → (xc X d 150 [(2, 51), (0, v1), (0, v3)] H (fun (J441 : Int) (h440 : XH) => ((0 : Int) ≤ h440 51 10 ∧ (h440 51 10 : Int) < 301) ∧ ((0 : Int) ≤ h440 51 10 ∧ (h440 51 10 : Int) < 301) ∧ ((0 : Int) ≤ h440 51 10 ∧ (h440 51 10 : Int) < 301) ∧ (xI ((h440 51 10) + 1)) ∧ Q v3 (xup (xup (xup (xup h440 55 (h440 51 10) J441) 56 (h440 51 10) v1) 57 (h440 51 10) v4) 51 10 ((h440 51 10) + 1))))) ∧ (¬ (H 51 3 ≤ v3) → ((0 : Int) ≤ v3 ∧ (v3 : Int) < 300) ∧ (((((97 ≤ (H 52 v3) ∧ (H 52 v3) ≤ 122) ∨ (65 ≤ (H 52 v3) ∧ (H 52 v3) ≤ 90))) → (xI (v3 + 1)) ∧ xq X d 157 Q 48 [(0, (2, 51)), (1, (0, v1)), (3, (0, v3 + 1)), (4, (0, v4))] [] H) ∧ (¬ (((97 ≤ (H 52 v3) ∧ (H 52 v3) ≤ 122) ∨ (65 ≤ (H 52 v3) ∧ (H 52 v3) ≤ 90))) → (xc X d 150 [(2, 51), (0, v1), (0, v3)] H (fun (J443 : Int) (h442 : XH) => ((0 : Int) ≤ h442 51 10 ∧ (h442 51 10 : Int) < 301) ∧ ((0 : Int) ≤ h442 51 10 ∧ (h442 51 10 : Int) < 301) ∧ ((0 : Int) ≤ h442 51 10 ∧ (h442 51 10 : Int) < 301) ∧ (xI ((h442 51 10) + 1)) ∧ Q v3 (xup (xup (xup (xup h442 55 (h442 51 10) J443) 56 (h442 51 10) v1) 57 (h442 51 10) v4) 51 10 ((h442 51 10) + 1)))))))) : xq X d 157 Q 48 [(0, (2, 51)), (1, (0, v1)), (3, (0, v3)), (4, (0, v4))] [] H := by
  show xq X d 157 Q 48 [(0, (2, 51)), (1, (0, v1)), (3, (0, v3)), (4, (0, v4))] [] H
  refine xq_run [45, 48, 65, 80, 89, 94, 111, 135, 208] 300 ?_
  show ((H 51 3 ≤ v3) → xWM (xE X) xMC d 150 [(2, 51), (0, v1), (0, v3)] xKZ H _) ∧ (¬ (H 51 3 ≤ v3) → ((0 : Int) ≤ v3 ∧ (v3 : Int) < 300) ∧ xWM (xE X) xMC d 141 [(0, H 52 v3)] xKZ H _)
  refine ⟨fun k_ => ?_, fun k_ => ?_⟩
  · replace h := h.1 k_
    refine xc_in (xc_mono (fun J441 h440 q_ => ?_) h)
    replace h := q_
    show xq X d 157 Q 80 [(0, (2, 51)), (1, (0, v1)), (3, (0, v3)), (4, (0, v4))] [(0, J441)] h440
    refine xq_run [45, 48, 65, 80, 89, 94, 111, 135, 208] 300 ?_
    show ((0 : Int) ≤ h440 51 10 ∧ (h440 51 10 : Int) < 301) ∧ ((0 : Int) ≤ h440 51 10 ∧ (h440 51 10 : Int) < 301) ∧ ((0 : Int) ≤ h440 51 10 ∧ (h440 51 10 : Int) < 301) ∧ (xI ((h440 51 10) + 1)) ∧ xfR 0 v3 ∧ xKZ = xKZ ∧ Q v3 (xup (xup (xup (xup h440 55 (h440 51 10) J441) 56 (h440 51 10) v1) 57 (h440 51 10) v4) 51 10 ((h440 51 10) + 1))
    refine ⟨h.1, ?_⟩
    replace h := h.2
    refine ⟨h.1, ?_⟩
    replace h := h.2
    refine ⟨h.1, ?_⟩
    replace h := h.2
    refine ⟨h.1, ?_⟩
    replace h := h.2
    exact ⟨trivial, rfl, h⟩
  · replace h := h.2 k_
    refine ⟨h.1, ?_⟩
    replace h := h.2
    refine xc_in (s_141 (by omega) (H 52 v3) H  ?_)
    replace h := h
    show xq X d 157 Q 65 [(0, (2, 51)), (1, (0, v1)), (3, (0, v3)), (4, (0, v4))] [(0, xb ((97 ≤ (H 52 v3) ∧ (H 52 v3) ≤ 122) ∨ (65 ≤ (H 52 v3) ∧ (H 52 v3) ≤ 90)))] H
    refine xq_run [45, 48, 65, 80, 89, 94, 111, 135, 208] 300 ?_
    show ((xb ((97 ≤ (H 52 v3) ∧ (H 52 v3) ≤ 122) ∨ (65 ≤ (H 52 v3) ∧ (H 52 v3) ≤ 90)) = 0) → xWM (xE X) xMC d 150 [(2, 51), (0, v1), (0, v3)] xKZ H _) ∧ (¬ (xb ((97 ≤ (H 52 v3) ∧ (H 52 v3) ≤ 122) ∨ (65 ≤ (H 52 v3) ∧ (H 52 v3) ≤ 90)) = 0) → (xI (v3 + 1)) ∧ xq X d 157 Q 48 [(0, (2, 51)), (1, (0, v1)), (3, (0, v3 + 1)), (4, (0, v4))] [] H)
    refine ⟨fun k_ => ?_, fun k_ => ?_⟩
    · replace h := h.2 (xbe_0.mp k_)
      refine xc_in (xc_mono (fun J443 h442 q_ => ?_) h)
      replace h := q_
      show xq X d 157 Q 80 [(0, (2, 51)), (1, (0, v1)), (3, (0, v3)), (4, (0, v4))] [(0, J443)] h442
      refine xq_run [45, 48, 65, 80, 89, 94, 111, 135, 208] 300 ?_
      show ((0 : Int) ≤ h442 51 10 ∧ (h442 51 10 : Int) < 301) ∧ ((0 : Int) ≤ h442 51 10 ∧ (h442 51 10 : Int) < 301) ∧ ((0 : Int) ≤ h442 51 10 ∧ (h442 51 10 : Int) < 301) ∧ (xI ((h442 51 10) + 1)) ∧ xfR 0 v3 ∧ xKZ = xKZ ∧ Q v3 (xup (xup (xup (xup h442 55 (h442 51 10) J443) 56 (h442 51 10) v1) 57 (h442 51 10) v4) 51 10 ((h442 51 10) + 1))
      refine ⟨h.1, ?_⟩
      replace h := h.2
      refine ⟨h.1, ?_⟩
      replace h := h.2
      refine ⟨h.1, ?_⟩
      replace h := h.2
      refine ⟨h.1, ?_⟩
      replace h := h.2
      exact ⟨trivial, rfl, h⟩
    · replace h := h.1 (xbe_1.mp k_)
      refine ⟨h.1, ?_⟩
      replace h := h.2
      exact h

theorem s_157 {X : Int × (Int → Int)} {d : Nat} {Q : Int → XH → Prop} (hd : 7 ≤ d) (b : Int) (H : XH) (pb : 0 ≤ b ∧ b < H 51 3) (pn : H 51 3 ≤ 300) (pt : 0 ≤ H 51 10 ∧ H 51 10 < 300) (pc : ∀ i, 0 ≤ i → i < H 51 3 → 0 ≤ H 52 i ∧ H 52 i ≤ 255) (hQ : ∀ k v e, tkP (H 52) (H 51 3) b k v e → Q e (xup (xup (xup (xup H 55 (H 51 10) k) 56 (H 51 10) b) 57 (H 51 10) v) 51 10 (H 51 10 + 1))) : xc X d 157 [(2, 51), (0, b)] H Q := by
  cases d with
  | zero => omega
  | succ d =>
  have cb := pc b pb.1 pb.2
  have sr := sgI_rng (H 52 b)
  have keyL : ∀ (k : Nat) (i : Int), i + k = H 51 3 → b < i → (∀ j, b ≤ j → j < i → isLt (H 52 j)) → xq X d 157 Q 48 [(0, (2, 51)), (1, (0, b)), (3, (0, i)), (4, (0, 0))] [] H := by
    intro k
    induction k with
    | zero =>
      intro i hi ib hh
      refine U_157_48 (by omega) b i 0 H ?_
      refine ⟨fun c1 => ?_, fun c1 => ?_⟩
      · skip
        refine s_150 (by omega) b i H (by omega) (by omega) (fun r hr => ?_)
        have z := hQ r 0 i (Or.inl ⟨hh b (Int.le_refl _) ib, ⟨ib, by omega⟩, hh, fun y => by first | omega | assumption, hr, rfl⟩)
        refine ⟨⟨by omega, by omega⟩, ⟨by omega, by omega⟩, ⟨by omega, by omega⟩, by unfold xI; omega, ?_⟩
        exact z
      · skip
        refine ⟨?_, ?_⟩
        · first | omega | (unfold xI; omega) | (exfalso; omega)
        refine ⟨fun c2 => ?_, fun c2 => ?_⟩
        · skip
          refine ⟨?_, ?_⟩
          · first | omega | (unfold xI; omega) | (exfalso; omega)
          exfalso
          omega
        · skip
          exfalso
          omega
    | succ k ih =>
      intro i hi ib hh
      have ci := pc i (by omega) (by omega)
      refine U_157_48 (by omega) b i 0 H ?_
      refine ⟨fun c1 => ?_, fun c1 => ?_⟩
      · skip
        exfalso
        omega
      · skip
        refine ⟨?_, ?_⟩
        · first | omega | (unfold xI; omega) | (exfalso; omega)
        refine ⟨fun c2 => ?_, fun c2 => ?_⟩
        · skip
          refine ⟨?_, ?_⟩
          · first | omega | (unfold xI; omega) | (exfalso; omega)
          exact ih (i + 1) (by omega) (by omega) (fun j x y => by
            by_cases q : j = i
            · rw [q]
              assumption
            · exact hh j x (by omega))
        · skip
          refine s_150 (by omega) b i H (by omega) (by omega) (fun r hr => ?_)
          have z := hQ r 0 i (Or.inl ⟨hh b (Int.le_refl _) ib, ⟨ib, by omega⟩, hh, fun y => by first | omega | assumption, hr, rfl⟩)
          refine ⟨⟨by omega, by omega⟩, ⟨by omega, by omega⟩, ⟨by omega, by omega⟩, by unfold xI; omega, ?_⟩
          exact z
  have keyD : ∀ (k : Nat) (i : Int), i + k = H 51 3 → b ≤ i → (∀ j, b ≤ j → j < i → isDg (H 52 j)) → isDg (H 52 b) → xq X d 157 Q 94 [(0, (2, 51)), (1, (0, b)), (3, (0, i)), (4, (0, ncF (H 52) b (i - b).toNat))] [] H := by
    intro k
    induction k with
    | zero =>
      intro i hi ib hh h0
      refine U_157_94 (by omega) b i _ H ?_
      refine ⟨fun c1 => ?_, fun c1 => ?_⟩
      · skip
        refine ⟨?_, ?_⟩
        · first | omega | (unfold xI; omega) | (exfalso; omega)
        refine ⟨?_, ?_⟩
        · first | omega | (unfold xI; omega) | (exfalso; omega)
        refine ⟨?_, ?_⟩
        · first | omega | (unfold xI; omega) | (exfalso; omega)
        refine ⟨?_, ?_⟩
        · first | omega | (unfold xI; omega) | (exfalso; omega)
        exact hQ 20 _ i (Or.inr (Or.inl ⟨h0, ⟨by omega, by omega⟩, hh, fun y => by omega, rfl, rfl⟩))
      · skip
        refine ⟨?_, ?_⟩
        · first | omega | (unfold xI; omega) | (exfalso; omega)
        refine ⟨fun c2 => ?_, fun c2 => ?_⟩
        · skip
          refine ⟨?_, ?_⟩
          · first | omega | (unfold xI; omega) | (exfalso; omega)
          refine ⟨?_, ?_⟩
          · first | omega | (unfold xI; omega) | (exfalso; omega)
          refine ⟨?_, ?_⟩
          · first | omega | (unfold xI; omega) | (exfalso; omega)
          refine ⟨?_, ?_⟩
          · first | omega | (unfold xI; omega) | (exfalso; omega)
          refine ⟨?_, ?_⟩
          · first | omega | (unfold xI; omega) | (exfalso; omega)
          exfalso
          omega
        · skip
          refine ⟨?_, ?_⟩
          · first | omega | (unfold xI; omega) | (exfalso; omega)
          refine ⟨?_, ?_⟩
          · first | omega | (unfold xI; omega) | (exfalso; omega)
          refine ⟨?_, ?_⟩
          · first | omega | (unfold xI; omega) | (exfalso; omega)
          refine ⟨?_, ?_⟩
          · first | omega | (unfold xI; omega) | (exfalso; omega)
          exfalso
          omega
    | succ k ih =>
      intro i hi ib hh h0
      have ci := pc i (by omega) (by omega)
      have nr := ncF_rng (t := H 52) (b := b) (i - b).toNat (fun j x y => hh j x (by omega))
      have nx := fun q => ih (i + 1) (by omega) (by omega) q h0
      rw [show (i + 1 - b).toNat = (i - b).toNat + 1 by omega] at nx
      have es : ncF (H 52) b ((i - b).toNat + 1) = min 10000 (ncF (H 52) b (i - b).toNat * 10 + (H 52 (b + ((i - b).toNat : Int)) - 48)) := rfl
      rw [es, show b + ((i - b).toNat : Int) = i by omega] at nx
      refine U_157_94 (by omega) b i _ H ?_
      refine ⟨fun c1 => ?_, fun c1 => ?_⟩
      · skip
        refine ⟨?_, ?_⟩
        · first | omega | (unfold xI; omega) | (exfalso; omega)
        refine ⟨?_, ?_⟩
        · first | omega | (unfold xI; omega) | (exfalso; omega)
        refine ⟨?_, ?_⟩
        · first | omega | (unfold xI; omega) | (exfalso; omega)
        refine ⟨?_, ?_⟩
        · first | omega | (unfold xI; omega) | (exfalso; omega)
        exfalso
        omega
      · skip
        refine ⟨?_, ?_⟩
        · first | omega | (unfold xI; omega) | (exfalso; omega)
        refine ⟨fun c2 => ?_, fun c2 => ?_⟩
        · skip
          refine ⟨?_, ?_⟩
          · first | omega | (unfold xI; omega) | (exfalso; omega)
          refine ⟨?_, ?_⟩
          · first | omega | (unfold xI; omega) | (exfalso; omega)
          refine ⟨?_, ?_⟩
          · first | omega | (unfold xI; omega) | (exfalso; omega)
          refine ⟨?_, ?_⟩
          · first | omega | (unfold xI; omega) | (exfalso; omega)
          refine ⟨?_, ?_⟩
          · first | omega | (unfold xI; omega) | (exfalso; omega)
          exact nx (fun j x y => by
            by_cases q : j = i
            · rw [q]
              assumption
            · exact hh j x (by omega))
        · skip
          refine ⟨?_, ?_⟩
          · first | omega | (unfold xI; omega) | (exfalso; omega)
          refine ⟨?_, ?_⟩
          · first | omega | (unfold xI; omega) | (exfalso; omega)
          refine ⟨?_, ?_⟩
          · first | omega | (unfold xI; omega) | (exfalso; omega)
          refine ⟨?_, ?_⟩
          · first | omega | (unfold xI; omega) | (exfalso; omega)
          exact hQ 20 _ i (Or.inr (Or.inl ⟨h0, ⟨by by_cases q : b = i; (· subst q; exact absurd h0 (by assumption)); omega, by omega⟩, hh, fun y => by assumption, rfl, rfl⟩))
  have hS : ∀ k, k = (if H 52 b = 60 then 41 else 42) → ¬ isLt (H 52 b) → ¬ isDg (H 52 b) → ((H 52 b = 60 ∨ H 52 b = 62) ∧ b + 1 < H 51 3 ∧ H 52 (b + 1) = 61) → Q (b + 1 + 1) (xup (xup (xup (xup H 55 (H 51 10) k) 56 (H 51 10) b) 57 (H 51 10) 0) 51 10 (H 51 10 + 1)) := fun k hk a1 a2 a3 => by
    rw [show b + 1 + 1 = b + 2 by omega]
    exact hQ k 0 (b + 2) (Or.inr (Or.inr (Or.inl ⟨a1, a2, a3, rfl, hk, rfl⟩)))
  have hT : ∀ k, k = (if 0 ≤ sgI (H 52 b) then 30 + sgI (H 52 b) else 22) → ¬ isLt (H 52 b) → ¬ isDg (H 52 b) → ¬ ((H 52 b = 60 ∨ H 52 b = 62) ∧ b + 1 < H 51 3 ∧ H 52 (b + 1) = 61) → Q (b + 1) (xup (xup (xup (xup H 55 (H 51 10) k) 56 (H 51 10) b) 57 (H 51 10) 0) 51 10 (H 51 10 + 1)) := fun k hk a1 a2 a3 => hQ k 0 (b + 1) (Or.inr (Or.inr (Or.inr ⟨a1, a2, a3, rfl, hk, rfl⟩)))
  refine U_157 (by omega) b H ?_
  refine ⟨fun c1 => ?_, fun c1 => ?_⟩
  · skip
    exfalso
    omega
  · skip
    refine ⟨fun c2 => ?_, fun c2 => ?_⟩
    · skip
      exfalso
      omega
    · skip
      refine ⟨fun c3 => ?_, fun c3 => ?_⟩
      · skip
        refine ⟨?_, ?_⟩
        · first | omega | (unfold xI; omega) | exact pc (b + 1) (by omega) (by omega) | (exfalso; omega)
        refine ⟨?_, ?_⟩
        · first | omega | (unfold xI; omega) | exact pc (b + 1) (by omega) (by omega) | (exfalso; omega)
        refine ⟨fun c4 => ?_, fun c4 => ?_⟩
        · skip
          exact keyL (H 51 3 - (b + 1)).toNat (b + 1) (by omega) (by omega) (fun j x y => by rw [show j = b by omega]; assumption)
        · skip
          refine ⟨fun c5 => ?_, fun c5 => ?_⟩
          · skip
            have z := keyD (H 51 3 - b).toNat b (by omega) (by omega) (fun j x y => by omega) (by assumption)
            rw [show (b - b).toNat = 0 by omega] at z
            exact z
          · skip
            refine ⟨fun c6 => ?_, fun c6 => ?_⟩
            · skip
              refine ⟨fun c7 => ?_, fun c7 => ?_⟩
              · skip
                refine ⟨fun c8 => ?_, fun c8 => ?_⟩
                · skip
                  refine ⟨?_, ?_⟩
                  · first | omega | (unfold xI; omega) | exact pc (b + 1) (by omega) (by omega) | (exfalso; omega)
                  refine ⟨?_, ?_⟩
                  · first | omega | (unfold xI; omega) | exact pc (b + 1) (by omega) (by omega) | (exfalso; omega)
                  refine ⟨?_, ?_⟩
                  · first | omega | (unfold xI; omega) | exact pc (b + 1) (by omega) (by omega) | (exfalso; omega)
                  refine ⟨?_, ?_⟩
                  · first | omega | (unfold xI; omega) | exact pc (b + 1) (by omega) (by omega) | (exfalso; omega)
                  refine ⟨?_, ?_⟩
                  · first | omega | (unfold xI; omega) | exact pc (b + 1) (by omega) (by omega) | (exfalso; omega)
                  first | (exfalso; omega) | exact hT _ (by rw [if_pos (by omega)]) (by assumption) (by assumption) (by omega) | exact hT _ (by rw [if_neg (by omega)]) (by assumption) (by assumption) (by omega) | exact hS _ (by rw [if_pos (by omega)]) (by assumption) (by assumption) (by omega) | exact hS _ (by rw [if_neg (by omega)]) (by assumption) (by assumption) (by omega) | (exfalso; omega)
                · skip
                  refine ⟨?_, ?_⟩
                  · first | omega | (unfold xI; omega) | exact pc (b + 1) (by omega) (by omega) | (exfalso; omega)
                  refine ⟨?_, ?_⟩
                  · first | omega | (unfold xI; omega) | exact pc (b + 1) (by omega) (by omega) | (exfalso; omega)
                  refine ⟨?_, ?_⟩
                  · first | omega | (unfold xI; omega) | exact pc (b + 1) (by omega) (by omega) | (exfalso; omega)
                  refine ⟨?_, ?_⟩
                  · first | omega | (unfold xI; omega) | exact pc (b + 1) (by omega) (by omega) | (exfalso; omega)
                  first | (exfalso; omega) | exact hT _ (by rw [if_pos (by omega)]) (by assumption) (by assumption) (by omega) | exact hT _ (by rw [if_neg (by omega)]) (by assumption) (by assumption) (by omega) | exact hS _ (by rw [if_pos (by omega)]) (by assumption) (by assumption) (by omega) | exact hS _ (by rw [if_neg (by omega)]) (by assumption) (by assumption) (by omega) | (exfalso; omega)
              · skip
                refine ⟨?_, ?_⟩
                · first | omega | (unfold xI; omega) | exact pc (b + 1) (by omega) (by omega) | (exfalso; omega)
                refine ⟨fun c9 => ?_, fun c9 => ?_⟩
                · skip
                  refine ⟨fun c10 => ?_, fun c10 => ?_⟩
                  · skip
                    refine ⟨?_, ?_⟩
                    · first | omega | (unfold xI; omega) | exact pc (b + 1) (by omega) (by omega) | (exfalso; omega)
                    refine ⟨?_, ?_⟩
                    · first | omega | (unfold xI; omega) | exact pc (b + 1) (by omega) (by omega) | (exfalso; omega)
                    refine ⟨?_, ?_⟩
                    · first | omega | (unfold xI; omega) | exact pc (b + 1) (by omega) (by omega) | (exfalso; omega)
                    refine ⟨?_, ?_⟩
                    · first | omega | (unfold xI; omega) | exact pc (b + 1) (by omega) (by omega) | (exfalso; omega)
                    refine ⟨?_, ?_⟩
                    · first | omega | (unfold xI; omega) | exact pc (b + 1) (by omega) (by omega) | (exfalso; omega)
                    first | (exfalso; omega) | exact hT _ (by rw [if_pos (by omega)]) (by assumption) (by assumption) (by omega) | exact hT _ (by rw [if_neg (by omega)]) (by assumption) (by assumption) (by omega) | exact hS _ (by rw [if_pos (by omega)]) (by assumption) (by assumption) (by omega) | exact hS _ (by rw [if_neg (by omega)]) (by assumption) (by assumption) (by omega) | (exfalso; omega)
                  · skip
                    refine ⟨?_, ?_⟩
                    · first | omega | (unfold xI; omega) | exact pc (b + 1) (by omega) (by omega) | (exfalso; omega)
                    refine ⟨?_, ?_⟩
                    · first | omega | (unfold xI; omega) | exact pc (b + 1) (by omega) (by omega) | (exfalso; omega)
                    refine ⟨?_, ?_⟩
                    · first | omega | (unfold xI; omega) | exact pc (b + 1) (by omega) (by omega) | (exfalso; omega)
                    refine ⟨?_, ?_⟩
                    · first | omega | (unfold xI; omega) | exact pc (b + 1) (by omega) (by omega) | (exfalso; omega)
                    first | (exfalso; omega) | exact hT _ (by rw [if_pos (by omega)]) (by assumption) (by assumption) (by omega) | exact hT _ (by rw [if_neg (by omega)]) (by assumption) (by assumption) (by omega) | exact hS _ (by rw [if_pos (by omega)]) (by assumption) (by assumption) (by omega) | exact hS _ (by rw [if_neg (by omega)]) (by assumption) (by assumption) (by omega) | (exfalso; omega)
                · skip
                  refine ⟨?_, ?_⟩
                  · first | omega | (unfold xI; omega) | exact pc (b + 1) (by omega) (by omega) | (exfalso; omega)
                  refine ⟨fun c11 => ?_, fun c11 => ?_⟩
                  · skip
                    refine ⟨?_, ?_⟩
                    · first | omega | (unfold xI; omega) | exact pc (b + 1) (by omega) (by omega) | (exfalso; omega)
                    refine ⟨?_, ?_⟩
                    · first | omega | (unfold xI; omega) | exact pc (b + 1) (by omega) (by omega) | (exfalso; omega)
                    refine ⟨?_, ?_⟩
                    · first | omega | (unfold xI; omega) | exact pc (b + 1) (by omega) (by omega) | (exfalso; omega)
                    refine ⟨?_, ?_⟩
                    · first | omega | (unfold xI; omega) | exact pc (b + 1) (by omega) (by omega) | (exfalso; omega)
                    first | (exfalso; omega) | exact hT _ (by rw [if_pos (by omega)]) (by assumption) (by assumption) (by omega) | exact hT _ (by rw [if_neg (by omega)]) (by assumption) (by assumption) (by omega) | exact hS _ (by rw [if_pos (by omega)]) (by assumption) (by assumption) (by omega) | exact hS _ (by rw [if_neg (by omega)]) (by assumption) (by assumption) (by omega) | (exfalso; omega)
                  · skip
                    refine ⟨?_, ?_⟩
                    · first | omega | (unfold xI; omega) | exact pc (b + 1) (by omega) (by omega) | (exfalso; omega)
                    refine ⟨?_, ?_⟩
                    · first | omega | (unfold xI; omega) | exact pc (b + 1) (by omega) (by omega) | (exfalso; omega)
                    refine ⟨?_, ?_⟩
                    · first | omega | (unfold xI; omega) | exact pc (b + 1) (by omega) (by omega) | (exfalso; omega)
                    refine ⟨?_, ?_⟩
                    · first | omega | (unfold xI; omega) | exact pc (b + 1) (by omega) (by omega) | (exfalso; omega)
                    first | (exfalso; omega) | exact hT _ (by rw [if_pos (by omega)]) (by assumption) (by assumption) (by omega) | exact hT _ (by rw [if_neg (by omega)]) (by assumption) (by assumption) (by omega) | exact hS _ (by rw [if_pos (by omega)]) (by assumption) (by assumption) (by omega) | exact hS _ (by rw [if_neg (by omega)]) (by assumption) (by assumption) (by omega) | (exfalso; omega)
            · skip
              refine ⟨fun c12 => ?_, fun c12 => ?_⟩
              · skip
                refine ⟨fun c13 => ?_, fun c13 => ?_⟩
                · skip
                  refine ⟨?_, ?_⟩
                  · first | omega | (unfold xI; omega) | exact pc (b + 1) (by omega) (by omega) | (exfalso; omega)
                  refine ⟨?_, ?_⟩
                  · first | omega | (unfold xI; omega) | exact pc (b + 1) (by omega) (by omega) | (exfalso; omega)
                  refine ⟨?_, ?_⟩
                  · first | omega | (unfold xI; omega) | exact pc (b + 1) (by omega) (by omega) | (exfalso; omega)
                  refine ⟨?_, ?_⟩
                  · first | omega | (unfold xI; omega) | exact pc (b + 1) (by omega) (by omega) | (exfalso; omega)
                  refine ⟨?_, ?_⟩
                  · first | omega | (unfold xI; omega) | exact pc (b + 1) (by omega) (by omega) | (exfalso; omega)
                  first | (exfalso; omega) | exact hT _ (by rw [if_pos (by omega)]) (by assumption) (by assumption) (by omega) | exact hT _ (by rw [if_neg (by omega)]) (by assumption) (by assumption) (by omega) | exact hS _ (by rw [if_pos (by omega)]) (by assumption) (by assumption) (by omega) | exact hS _ (by rw [if_neg (by omega)]) (by assumption) (by assumption) (by omega) | (exfalso; omega)
                · skip
                  refine ⟨?_, ?_⟩
                  · first | omega | (unfold xI; omega) | exact pc (b + 1) (by omega) (by omega) | (exfalso; omega)
                  refine ⟨?_, ?_⟩
                  · first | omega | (unfold xI; omega) | exact pc (b + 1) (by omega) (by omega) | (exfalso; omega)
                  refine ⟨?_, ?_⟩
                  · first | omega | (unfold xI; omega) | exact pc (b + 1) (by omega) (by omega) | (exfalso; omega)
                  refine ⟨?_, ?_⟩
                  · first | omega | (unfold xI; omega) | exact pc (b + 1) (by omega) (by omega) | (exfalso; omega)
                  first | (exfalso; omega) | exact hT _ (by rw [if_pos (by omega)]) (by assumption) (by assumption) (by omega) | exact hT _ (by rw [if_neg (by omega)]) (by assumption) (by assumption) (by omega) | exact hS _ (by rw [if_pos (by omega)]) (by assumption) (by assumption) (by omega) | exact hS _ (by rw [if_neg (by omega)]) (by assumption) (by assumption) (by omega) | (exfalso; omega)
              · skip
                refine ⟨fun c14 => ?_, fun c14 => ?_⟩
                · skip
                  refine ⟨fun c15 => ?_, fun c15 => ?_⟩
                  · skip
                    refine ⟨?_, ?_⟩
                    · first | omega | (unfold xI; omega) | exact pc (b + 1) (by omega) (by omega) | (exfalso; omega)
                    refine ⟨?_, ?_⟩
                    · first | omega | (unfold xI; omega) | exact pc (b + 1) (by omega) (by omega) | (exfalso; omega)
                    refine ⟨?_, ?_⟩
                    · first | omega | (unfold xI; omega) | exact pc (b + 1) (by omega) (by omega) | (exfalso; omega)
                    refine ⟨?_, ?_⟩
                    · first | omega | (unfold xI; omega) | exact pc (b + 1) (by omega) (by omega) | (exfalso; omega)
                    refine ⟨?_, ?_⟩
                    · first | omega | (unfold xI; omega) | exact pc (b + 1) (by omega) (by omega) | (exfalso; omega)
                    first | (exfalso; omega) | exact hT _ (by rw [if_pos (by omega)]) (by assumption) (by assumption) (by omega) | exact hT _ (by rw [if_neg (by omega)]) (by assumption) (by assumption) (by omega) | exact hS _ (by rw [if_pos (by omega)]) (by assumption) (by assumption) (by omega) | exact hS _ (by rw [if_neg (by omega)]) (by assumption) (by assumption) (by omega) | (exfalso; omega)
                  · skip
                    refine ⟨?_, ?_⟩
                    · first | omega | (unfold xI; omega) | exact pc (b + 1) (by omega) (by omega) | (exfalso; omega)
                    refine ⟨?_, ?_⟩
                    · first | omega | (unfold xI; omega) | exact pc (b + 1) (by omega) (by omega) | (exfalso; omega)
                    refine ⟨?_, ?_⟩
                    · first | omega | (unfold xI; omega) | exact pc (b + 1) (by omega) (by omega) | (exfalso; omega)
                    refine ⟨?_, ?_⟩
                    · first | omega | (unfold xI; omega) | exact pc (b + 1) (by omega) (by omega) | (exfalso; omega)
                    first | (exfalso; omega) | exact hT _ (by rw [if_pos (by omega)]) (by assumption) (by assumption) (by omega) | exact hT _ (by rw [if_neg (by omega)]) (by assumption) (by assumption) (by omega) | exact hS _ (by rw [if_pos (by omega)]) (by assumption) (by assumption) (by omega) | exact hS _ (by rw [if_neg (by omega)]) (by assumption) (by assumption) (by omega) | (exfalso; omega)
                · skip
                  refine ⟨?_, ?_⟩
                  · first | omega | (unfold xI; omega) | exact pc (b + 1) (by omega) (by omega) | (exfalso; omega)
                  refine ⟨fun c16 => ?_, fun c16 => ?_⟩
                  · skip
                    refine ⟨fun c17 => ?_, fun c17 => ?_⟩
                    · skip
                      refine ⟨?_, ?_⟩
                      · first | omega | (unfold xI; omega) | exact pc (b + 1) (by omega) (by omega) | (exfalso; omega)
                      refine ⟨?_, ?_⟩
                      · first | omega | (unfold xI; omega) | exact pc (b + 1) (by omega) (by omega) | (exfalso; omega)
                      refine ⟨?_, ?_⟩
                      · first | omega | (unfold xI; omega) | exact pc (b + 1) (by omega) (by omega) | (exfalso; omega)
                      refine ⟨?_, ?_⟩
                      · first | omega | (unfold xI; omega) | exact pc (b + 1) (by omega) (by omega) | (exfalso; omega)
                      refine ⟨?_, ?_⟩
                      · first | omega | (unfold xI; omega) | exact pc (b + 1) (by omega) (by omega) | (exfalso; omega)
                      first | (exfalso; omega) | exact hT _ (by rw [if_pos (by omega)]) (by assumption) (by assumption) (by omega) | exact hT _ (by rw [if_neg (by omega)]) (by assumption) (by assumption) (by omega) | exact hS _ (by rw [if_pos (by omega)]) (by assumption) (by assumption) (by omega) | exact hS _ (by rw [if_neg (by omega)]) (by assumption) (by assumption) (by omega) | (exfalso; omega)
                    · skip
                      refine ⟨?_, ?_⟩
                      · first | omega | (unfold xI; omega) | exact pc (b + 1) (by omega) (by omega) | (exfalso; omega)
                      refine ⟨?_, ?_⟩
                      · first | omega | (unfold xI; omega) | exact pc (b + 1) (by omega) (by omega) | (exfalso; omega)
                      refine ⟨?_, ?_⟩
                      · first | omega | (unfold xI; omega) | exact pc (b + 1) (by omega) (by omega) | (exfalso; omega)
                      refine ⟨?_, ?_⟩
                      · first | omega | (unfold xI; omega) | exact pc (b + 1) (by omega) (by omega) | (exfalso; omega)
                      first | (exfalso; omega) | exact hT _ (by rw [if_pos (by omega)]) (by assumption) (by assumption) (by omega) | exact hT _ (by rw [if_neg (by omega)]) (by assumption) (by assumption) (by omega) | exact hS _ (by rw [if_pos (by omega)]) (by assumption) (by assumption) (by omega) | exact hS _ (by rw [if_neg (by omega)]) (by assumption) (by assumption) (by omega) | (exfalso; omega)
                  · skip
                    refine ⟨?_, ?_⟩
                    · first | omega | (unfold xI; omega) | exact pc (b + 1) (by omega) (by omega) | (exfalso; omega)
                    refine ⟨fun c18 => ?_, fun c18 => ?_⟩
                    · skip
                      refine ⟨?_, ?_⟩
                      · first | omega | (unfold xI; omega) | exact pc (b + 1) (by omega) (by omega) | (exfalso; omega)
                      refine ⟨?_, ?_⟩
                      · first | omega | (unfold xI; omega) | exact pc (b + 1) (by omega) (by omega) | (exfalso; omega)
                      refine ⟨?_, ?_⟩
                      · first | omega | (unfold xI; omega) | exact pc (b + 1) (by omega) (by omega) | (exfalso; omega)
                      refine ⟨?_, ?_⟩
                      · first | omega | (unfold xI; omega) | exact pc (b + 1) (by omega) (by omega) | (exfalso; omega)
                      first | (exfalso; omega) | exact hT _ (by rw [if_pos (by omega)]) (by assumption) (by assumption) (by omega) | exact hT _ (by rw [if_neg (by omega)]) (by assumption) (by assumption) (by omega) | exact hS _ (by rw [if_pos (by omega)]) (by assumption) (by assumption) (by omega) | exact hS _ (by rw [if_neg (by omega)]) (by assumption) (by assumption) (by omega) | (exfalso; omega)
                    · skip
                      refine ⟨?_, ?_⟩
                      · first | omega | (unfold xI; omega) | exact pc (b + 1) (by omega) (by omega) | (exfalso; omega)
                      refine ⟨?_, ?_⟩
                      · first | omega | (unfold xI; omega) | exact pc (b + 1) (by omega) (by omega) | (exfalso; omega)
                      refine ⟨?_, ?_⟩
                      · first | omega | (unfold xI; omega) | exact pc (b + 1) (by omega) (by omega) | (exfalso; omega)
                      refine ⟨?_, ?_⟩
                      · first | omega | (unfold xI; omega) | exact pc (b + 1) (by omega) (by omega) | (exfalso; omega)
                      first | (exfalso; omega) | exact hT _ (by rw [if_pos (by omega)]) (by assumption) (by assumption) (by omega) | exact hT _ (by rw [if_neg (by omega)]) (by assumption) (by assumption) (by omega) | exact hS _ (by rw [if_pos (by omega)]) (by assumption) (by assumption) (by omega) | exact hS _ (by rw [if_neg (by omega)]) (by assumption) (by assumption) (by omega) | (exfalso; omega)
      · skip
        exfalso
        omega

/-- the tokens: T of them; end E i lies ahead of the i-th -/
def TKS (t : Int → Int) (n T : Int) (B K N E : Int → Int) : Prop := (0 ≤ T ∧ T ≤ 300) ∧ E 0 = 0 ∧ (∀ i, 0 ≤ i → i < T → (E i ≤ B i ∧ B i < n) ∧ (∀ j, E i ≤ j → j < B i → isBl (t j)) ∧ ¬ isBl (t (B i)) ∧ tkP t n (B i) (K i) (N i) (E (i + 1))) ∧ E T ≤ n ∧ (∀ j, E T ≤ j → j < n → isBl (t j)) ∧ B T = n ∧ K T = 21
/-- but for the tokens -/
def spF (H h : XH) : Prop := (∀ o, ¬ o = 51 → ¬ o = 55 → ¬ o = 56 → ¬ o = 57 → h o = H o) ∧ ∀ k, ¬ (10 ≤ k ∧ k ≤ 12) → h 51 k = H 51 k
theorem spF_i {H h : XH} (f : spF H h) {o k x : Int} (ho : o = 55 ∨ o = 56 ∨ o = 57 ∨ (o = 51 ∧ 10 ≤ k ∧ k ≤ 12)) : spF H (xup h o k x) :=
  ⟨fun o' a b c e => by rw [xup_ne (by omega)]; exact f.1 o' a b c e, fun k' a => by
    by_cases q : o = 51
    · rw [q, xup_k (by omega)]
      exact f.2 k' a
    · rw [xup_ne (fun z => q z.symm)]
      exact f.2 k' a⟩

theorem U_158 {X : Int × (Int → Int)} {d : Nat} {Q : Int → XH → Prop} (hd : 0 ≤ d) (H : XH) (h : xq X d 158 Q 9 [(0, (2, 51)), (1, (0, 0)), (2, (0, 0))] [] (xup H 51 10 0)) : xc X (d + 1) 158 [(2, 51)] H Q := by
  refine ⟨rfl, ?_⟩
  show xq X d 158 Q 100000 [(0, (2, 51))] [] H
  refine xq_run [9, 33, 47] 300 ?_
  show xq X d 158 Q 9 [(0, (2, 51)), (1, (0, 0)), (2, (0, 0))] [] (xup H 51 10 0)
  exact h
theorem U_158_9 {X : Int × (Int → Int)} {d : Nat} {Q : Int → XH → Prop} (hd : 1 ≤ d) (v1 v2 : Int) (H : XH) (h : ((300 ≤ v2) → ((0 : Int) ≤ H 51 10 ∧ (H 51 10 : Int) < 301) ∧ ((0 : Int) ≤ H 51 10 ∧ (H 51 10 : Int) < 301) ∧ Q 0 (xup (xup (xup (xup H 55 (H 51 10) 21) 56 (H 51 10) (H 51 3)) 51 11 0) 51 12 ((xup H 55 (H 51 10) 21) 55 0))) ∧ (¬ (300 ≤ v2) → ((H 51 3 ≤ v1) → ((0 : Int) ≤ H 51 10 ∧ (H 51 10 : Int) < 301) ∧ ((0 : Int) ≤ H 51 10 ∧ (H 51 10 : Int) < 301) ∧ Q 0 (xup (xup (xup (xup H 55 (H 51 10) 21) 56 (H 51 10) (H 51 3)) 51 11 0) 51 12 ((xup H 55 (H 51 10) 21) 55 0))) ∧ (¬ (H 51 3 ≤ v1) → ((0 : Int) ≤ v1 ∧ (v1 : Int) < 300) ∧ (((((H 52 v1) = 32 ∨ (H 52 v1) = 10)) → (xI (v1 + 1)) ∧ (xI (v2 + 1)) ∧ xq X d 158 Q 9 [(0, (2, 51)), (1, (0, v1 + 1)), (2, (0, v2 + 1))] [] H) ∧ (¬ (((H 52 v1) = 32 ∨ (H 52 v1) = 10)) → (xc X d 157 [(2, 51), (0, v1)] H (fun (J453 : Int) (h452 : XH) => (xI (v2 + 1)) ∧ xq X d 158 Q 9 [(0, (2, 51)), (1, (0, J453)), (2, (0, v2 + 1))] [] h452))))))) : xq X d 158 Q 9 [(0, (2, 51)), (1, (0, v1)), (2, (0, v2))] [] H := by
  show xq X d 158 Q 9 [(0, (2, 51)), (1, (0, v1)), (2, (0, v2))] [] H
  refine xq_run [9, 33, 47] 300 ?_
  show ((300 ≤ v2) → ((0 : Int) ≤ H 51 10 ∧ (H 51 10 : Int) < 301) ∧ ((0 : Int) ≤ H 51 10 ∧ (H 51 10 : Int) < 301) ∧ ((0 : Int) ≤ 0 ∧ (0 : Int) < 301) ∧ xfR 2 0 ∧ xKZ = xKZ ∧ Q 0 (xup (xup (xup (xup H 55 (H 51 10) 21) 56 (H 51 10) (H 51 3)) 51 11 0) 51 12 ((xup H 55 (H 51 10) 21) 55 0))) ∧ (¬ (300 ≤ v2) → ((H 51 3 ≤ v1) → ((0 : Int) ≤ H 51 10 ∧ (H 51 10 : Int) < 301) ∧ ((0 : Int) ≤ H 51 10 ∧ (H 51 10 : Int) < 301) ∧ ((0 : Int) ≤ 0 ∧ (0 : Int) < 301) ∧ xfR 2 0 ∧ xKZ = xKZ ∧ Q 0 (xup (xup (xup (xup H 55 (H 51 10) 21) 56 (H 51 10) (H 51 3)) 51 11 0) 51 12 ((xup H 55 (H 51 10) 21) 55 0))) ∧ (¬ (H 51 3 ≤ v1) → ((0 : Int) ≤ v1 ∧ (v1 : Int) < 300) ∧ xWM (xE X) xMC d 140 [(0, H 52 v1)] xKZ H _))
  refine ⟨fun k_ => ?_, fun k_ => ?_⟩
  · replace h := h.1 k_
    refine ⟨h.1, ?_⟩
    replace h := h.2
    refine ⟨h.1, ?_⟩
    replace h := h.2
    refine ⟨⟨by decide, by decide⟩, ?_⟩
    exact ⟨trivial, rfl, h⟩
  · replace h := h.2 k_
    refine ⟨fun k_ => ?_, fun k_ => ?_⟩
    · replace h := h.1 k_
      refine ⟨h.1, ?_⟩
      replace h := h.2
      refine ⟨h.1, ?_⟩
      replace h := h.2
      refine ⟨⟨by decide, by decide⟩, ?_⟩
      exact ⟨trivial, rfl, h⟩
    · replace h := h.2 k_
      refine ⟨h.1, ?_⟩
      replace h := h.2
      refine xc_in (s_140 (by omega) (H 52 v1) H  ?_)
      replace h := h
      show xq X d 158 Q 33 [(0, (2, 51)), (1, (0, v1)), (2, (0, v2))] [(0, xb ((H 52 v1) = 32 ∨ (H 52 v1) = 10))] H
      refine xq_run [9, 33, 47] 300 ?_
      show ((xb ((H 52 v1) = 32 ∨ (H 52 v1) = 10) = 0) → xWM (xE X) xMC d 157 [(2, 51), (0, v1)] xKZ H _) ∧ (¬ (xb ((H 52 v1) = 32 ∨ (H 52 v1) = 10) = 0) → (xI (v1 + 1)) ∧ xq X d 158 Q 47 [(0, (2, 51)), (1, (0, v1)), (2, (0, v2))] [(0, v1 + 1)] H)
      refine ⟨fun k_ => ?_, fun k_ => ?_⟩
      · replace h := h.2 (xbe_0.mp k_)
        refine xc_in (xc_mono (fun J453 h452 q_ => ?_) h)
        replace h := q_
        show xq X d 158 Q 47 [(0, (2, 51)), (1, (0, v1)), (2, (0, v2))] [(0, J453)] h452
        refine xq_run [9, 33, 47] 300 ?_
        show (xI (v2 + 1)) ∧ xq X d 158 Q 9 [(0, (2, 51)), (1, (0, J453)), (2, (0, v2 + 1))] [] h452
        refine ⟨h.1, ?_⟩
        replace h := h.2
        exact h
      · replace h := h.1 (xbe_1.mp k_)
        refine ⟨h.1, ?_⟩
        replace h := h.2
        show xq X d 158 Q 47 [(0, (2, 51)), (1, (0, v1)), (2, (0, v2))] [(0, v1 + 1)] H
        refine xq_run [9, 33, 47] 300 ?_
        show (xI (v2 + 1)) ∧ xq X d 158 Q 9 [(0, (2, 51)), (1, (0, v1 + 1)), (2, (0, v2 + 1))] [] H
        refine ⟨h.1, ?_⟩
        replace h := h.2
        exact h

theorem s_158 {X : Int × (Int → Int)} {d : Nat} {Q : Int → XH → Prop} (hd : 8 ≤ d) (H : XH) (pn : 0 ≤ H 51 3 ∧ H 51 3 ≤ 300) (pc : ∀ i, 0 ≤ i → i < H 51 3 → 0 ≤ H 52 i ∧ H 52 i ≤ 255) (hQ : ∀ (E : Int → Int) (h1 : XH), spF H h1 → TKS (H 52) (H 51 3) (h1 51 10) (h1 56) (h1 55) (h1 57) E → h1 51 11 = 0 → h1 51 12 = h1 55 0 → Q 0 h1) : xc X d 158 [(2, 51)] H Q := by
  cases d with
  | zero => omega
  | succ d =>
  have fin : ∀ (a : Int) (E : Int → Int) (h : XH), a = H 51 3 → spF H h → (0 ≤ h 51 10 ∧ h 51 10 ≤ 300) → a ≤ H 51 3 → E 0 = 0 → (∀ i, 0 ≤ i → i < h 51 10 → (E i ≤ h 56 i ∧ h 56 i < H 51 3) ∧ (∀ j, E i ≤ j → j < h 56 i → isBl (H 52 j)) ∧ ¬ isBl (H 52 (h 56 i)) ∧ tkP (H 52) (H 51 3) (h 56 i) (h 55 i) (h 57 i) (E (i + 1))) → E (h 51 10) ≤ a → (∀ j, E (h 51 10) ≤ j → j < a → isBl (H 52 j)) → Q 0 (xup (xup (xup (xup h 55 (h 51 10) 21) 56 (h 51 10) (H 51 3)) 51 11 0) 51 12 ((xup h 55 (h 51 10) 21) 55 0)) := by
    intro a E h ea f t0 an e0 ht he hb
    obtain ⟨T, hT⟩ : ∃ T, h 51 10 = T := ⟨_, rfl⟩
    rw [hT] at t0 ht he hb ⊢
    obtain ⟨g, hg⟩ : ∃ g, xup (xup (xup (xup h 55 T 21) 56 T (H 51 3)) 51 11 0) 51 12 (xup h 55 T 21 55 0) = g := ⟨_, rfl⟩
    have g10 : g 51 10 = T := by rw [← hg, xup_k (by decide), xup_k (by decide), xup_ne (by decide), xup_ne (by decide), hT]
    have g11 : g 51 11 = 0 := by rw [← hg, xup_k (by decide), xup_self]
    have g55 : ∀ i, g 55 i = if i = T then 21 else h 55 i := fun i => by rw [← hg, xup_ne (by decide), xup_ne (by decide), xup_ne (by decide), xup_eq]
    have g12 : g 51 12 = g 55 0 := by rw [g55, ← hg, xup_self, xup_eq]
    have g56 : ∀ i, g 56 i = if i = T then H 51 3 else h 56 i := fun i => by rw [← hg, xup_ne (by decide), xup_ne (by decide), xup_eq, xup_ne (by decide)]
    have g57 : ∀ i, g 57 i = h 57 i := fun i => by rw [← hg, xup_ne (by decide), xup_ne (by decide), xup_ne (by decide), xup_ne (by decide)]
    have gf : spF H g := by
      rw [← hg]
      exact spF_i (spF_i (spF_i (spF_i f (by omega)) (by omega)) (by omega)) (by omega)
    rw [hg]
    refine hQ E g gf ?_ g11 g12
    rw [g10]
    refine ⟨t0, e0, fun i x y => ?_, by omega, fun j x y => hb j x (by omega), ?_, ?_⟩
    · have z := ht i x y
      rw [g55, g56, g57, if_neg (by omega), if_neg (by omega)]
      exact z
    · rw [g56, if_pos rfl]
    · rw [g55, if_pos rfl]
  have key : ∀ (k : Nat) (a m : Int) (E : Int → Int) (h : XH), m + k = 300 → 0 ≤ m → 0 ≤ a → (m ≤ a ∨ a = H 51 3) → spF H h → (0 ≤ h 51 10 ∧ h 51 10 ≤ 300) → h 51 10 ≤ m → a ≤ H 51 3 → E 0 = 0 → (∀ i, 0 ≤ i → i < h 51 10 → (E i ≤ h 56 i ∧ h 56 i < H 51 3) ∧ (∀ j, E i ≤ j → j < h 56 i → isBl (H 52 j)) ∧ ¬ isBl (H 52 (h 56 i)) ∧ tkP (H 52) (H 51 3) (h 56 i) (h 55 i) (h 57 i) (E (i + 1))) → E (h 51 10) ≤ a → (∀ j, E (h 51 10) ≤ j → j < a → isBl (H 52 j)) → xq X d 158 Q 9 [(0, (2, 51)), (1, (0, a)), (2, (0, m))] [] h := by
    intro k
    induction k with
    | zero =>
      intro a m E h hm m0 a0 hma f t0 tm an e0 ht he hb
      have f3 := f.2 3 (by decide)
      refine U_158_9 (by omega) a m h ?_
      rw [f3]
      refine ⟨fun c1 => ?_, fun c1 => ?_⟩
      · skip
        refine ⟨?_, ?_⟩
        · first | omega | (unfold xI; omega) | (exfalso; omega)
        refine ⟨?_, ?_⟩
        · first | omega | (unfold xI; omega) | (exfalso; omega)
        first | (exfalso; omega) | exact fin a E h (by omega) f t0 an e0 ht he hb
      · skip
        refine ⟨fun c2 => ?_, fun c2 => ?_⟩
        · skip
          refine ⟨?_, ?_⟩
          · first | omega | (unfold xI; omega) | (exfalso; omega)
          refine ⟨?_, ?_⟩
          · first | omega | (unfold xI; omega) | (exfalso; omega)
          first | (exfalso; omega) | exact fin a E h (by omega) f t0 an e0 ht he hb
        · skip
          refine ⟨?_, ?_⟩
          · first | omega | (unfold xI; omega) | (exfalso; omega)
          refine ⟨fun c3 => ?_, fun c3 => ?_⟩
          · skip
            refine ⟨?_, ?_⟩
            · first | omega | (unfold xI; omega) | (exfalso; omega)
            refine ⟨?_, ?_⟩
            · first | omega | (unfold xI; omega) | (exfalso; omega)
            first | (exfalso; omega) | exact fin a E h (by omega) f t0 an e0 ht he hb
          · skip
            exfalso
            omega
    | succ k ih =>
      intro a m E h hm m0 a0 hma f t0 tm an e0 ht he hb
      have f3 := f.2 3 (by decide)
      have f52 := f.1 52 (by decide) (by decide) (by decide) (by decide)
      refine U_158_9 (by omega) a m h ?_
      rw [f52, f3]
      refine ⟨fun c1 => ?_, fun c1 => ?_⟩
      · skip
        refine ⟨?_, ?_⟩
        · first | omega | (unfold xI; omega) | exact pc a (by omega) (by omega) | (exfalso; omega)
        refine ⟨?_, ?_⟩
        · first | omega | (unfold xI; omega) | exact pc a (by omega) (by omega) | (exfalso; omega)
        exfalso
        omega
      · skip
        refine ⟨fun c2 => ?_, fun c2 => ?_⟩
        · skip
          refine ⟨?_, ?_⟩
          · first | omega | (unfold xI; omega) | exact pc a (by omega) (by omega) | (exfalso; omega)
          refine ⟨?_, ?_⟩
          · first | omega | (unfold xI; omega) | exact pc a (by omega) (by omega) | (exfalso; omega)
          exact fin a E h (by omega) f t0 an e0 ht he hb
        · skip
          refine ⟨?_, ?_⟩
          · first | omega | (unfold xI; omega) | exact pc a (by omega) (by omega) | (exfalso; omega)
          refine ⟨fun c3 => ?_, fun c3 => ?_⟩
          · skip
            refine ⟨?_, ?_⟩
            · first | omega | (unfold xI; omega) | exact pc a (by omega) (by omega) | (exfalso; omega)
            refine ⟨?_, ?_⟩
            · first | omega | (unfold xI; omega) | exact pc a (by omega) (by omega) | (exfalso; omega)
            exact ih (a + 1) (m + 1) E h (by omega) (by omega) (by omega) (by omega) f (by omega) (by omega) (by omega) e0 ht (by omega) (fun j x y => by
              by_cases q : j = a
              · rw [q]
                assumption
              · exact hb j x (by omega))
          · skip
            refine s_157 (by omega) a h (by omega) (by omega) (by omega) (by rw [f52, f3]; exact pc) (fun r v e hr => ?_)
            rw [f52, f3] at hr
            have er := tkP_e (by omega) hr
            have nb : ¬ isBl (H 52 a) := by assumption
            have nx : ∀ g : XH, spF H g → g 51 10 = h 51 10 + 1 → (∀ i, g 55 i = if i = h 51 10 then r else h 55 i) → (∀ i, g 56 i = if i = h 51 10 then a else h 56 i) → (∀ i, g 57 i = if i = h 51 10 then v else h 57 i) → xq X d 158 Q 9 [(0, (2, 51)), (1, (0, e)), (2, (0, m + 1))] [] g := by
              intro g gf g10 g55 g56 g57
              refine ih e (m + 1) (fun i => if i = h 51 10 + 1 then e else E i) g (by omega) (by omega) (by omega) (by omega) gf (by omega) (by omega) (by omega) ?_ (fun i x y => ?_) ?_ (fun j x y => ?_)
              · try dsimp only
                rw [if_neg (by omega)]
                exact e0
              · rw [g10] at y
                rw [g55, g56, g57]
                try dsimp only
                rw [if_neg (show ¬ i = h 51 10 + 1 by omega)]
                by_cases q : i = h 51 10
                · rw [if_pos q, if_pos q, if_pos q, if_pos (show i + 1 = h 51 10 + 1 by omega), q]
                  exact ⟨⟨he, by omega⟩, hb, nb, hr⟩
                · rw [if_neg q, if_neg q, if_neg q, if_neg (show ¬ i + 1 = h 51 10 + 1 by omega)]
                  exact ht i x (by omega)
              · try dsimp only
                rw [g10, if_pos rfl]
                exact Int.le_refl _
              · try dsimp only at x
                rw [g10, if_pos rfl] at x
                omega
            refine ⟨by unfold xI; omega, nx _ (spF_i (spF_i (spF_i (spF_i f (by omega)) (by omega)) (by omega)) (by omega)) (xup_self _ _ _ _) (fun i => ?_) (fun i => ?_) (fun i => ?_)⟩
            · rw [xup_ne (by decide), xup_ne (by decide), xup_ne (by decide), xup_eq]
            · rw [xup_ne (by decide), xup_ne (by decide), xup_eq, xup_ne (by decide)]
            · rw [xup_ne (by decide), xup_eq, xup_ne (by decide), xup_ne (by decide)]
  refine U_158 (by omega) H ?_
  exact key 300 0 0 (fun _ => 0) _ (by decide) (by decide) (by decide) (by omega) ⟨fun o a b c e => xup_ne a, fun k a => xup_k (by omega)⟩ (by rw [xup_self]; decide) (by rw [xup_self]; decide) (by omega) rfl (fun i a b => by rw [xup_self] at b; omega) (by decide) (fun j a b => by omega)
