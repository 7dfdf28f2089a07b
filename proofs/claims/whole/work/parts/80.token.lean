/-! THE PURE LAYER 50: the next token, the model -/
theorem U_171 {X : Int × (Int → Int)} {d : Nat} {Q : Int → XH → Prop} (hd : 0 ≤ d) (H : XH) (h : xq X d 171 Q 0 [(0, (2, 67))] [] H) : xc X (d + 1) 171 [(2, 67)] H Q := by
  refine ⟨rfl, ?_⟩
  show xq X d 171 Q 100000 [(0, (2, 67))] [] H
  refine xq_run [0, 52, 77, 91, 99, 122, 173, 189, 192, 211, 219, 232, 259, 316, 340, 351, 374, 386] 300 ?_
  show xq X d 171 Q 0 [(0, (2, 67))] [] H
  exact h
theorem U_171_0 {X : Int × (Int → Int)} {d : Nat} {Q : Int → XH → Prop} (hd : 0 ≤ d) (H : XH) (h : ((H 67 24 ≤ H 67 25) → xq X d 171 Q 52 [(0, (2, 67))] [] H) ∧ (¬ (H 67 24 ≤ H 67 25) → ((0 : Int) ≤ H 67 25 ∧ (H 67 25 : Int) < 300) ∧ ((H 70 (H 67 25) = 32) → (xI ((H 67 25) + 1)) ∧ xq X d 171 Q 0 [(0, (2, 67))] [] (xup H 67 25 ((H 67 25) + 1))) ∧ (¬ (H 70 (H 67 25) = 32) → ((0 : Int) ≤ H 67 25 ∧ (H 67 25 : Int) < 300) ∧ ((¬ H 70 (H 67 25) = 10) → xq X d 171 Q 52 [(0, (2, 67))] [] H) ∧ (¬ (¬ H 70 (H 67 25) = 10) → (xI ((H 67 25) + 1)) ∧ xq X d 171 Q 0 [(0, (2, 67))] [] (xup H 67 25 ((H 67 25) + 1)))))) : xq X d 171 Q 0 [(0, (2, 67))] [] H := by
  show xq X d 171 Q 0 [(0, (2, 67))] [] H
  refine xq_run [0, 52, 77, 91, 99, 122, 173, 189, 192, 211, 219, 232, 259, 316, 340, 351, 374, 386] 300 ?_
  show ((H 67 24 ≤ H 67 25) → xq X d 171 Q 52 [(0, (2, 67))] [] H) ∧ (¬ (H 67 24 ≤ H 67 25) → ((0 : Int) ≤ H 67 25 ∧ (H 67 25 : Int) < 300) ∧ ((H 70 (H 67 25) = 32) → (xI ((H 67 25) + 1)) ∧ xq X d 171 Q 0 [(0, (2, 67))] [] (xup H 67 25 ((H 67 25) + 1))) ∧ (¬ (H 70 (H 67 25) = 32) → ((0 : Int) ≤ H 67 25 ∧ (H 67 25 : Int) < 300) ∧ ((¬ H 70 (H 67 25) = 10) → xq X d 171 Q 52 [(0, (2, 67))] [] H) ∧ (¬ (¬ H 70 (H 67 25) = 10) → (xI ((H 67 25) + 1)) ∧ xq X d 171 Q 0 [(0, (2, 67))] [] (xup H 67 25 ((H 67 25) + 1)))))
  refine ⟨fun k_ => ?_, fun k_ => ?_⟩
  · replace h := h.1 k_
    exact h
  · replace h := h.2 k_
    refine ⟨h.1, ?_⟩
    replace h := h.2
    refine ⟨fun k_ => ?_, fun k_ => ?_⟩
    · replace h := h.1 k_
      refine ⟨h.1, ?_⟩
      replace h := h.2
      exact h
    · replace h := h.2 k_
      refine ⟨h.1, ?_⟩
      replace h := h.2
      refine ⟨fun k_ => ?_, fun k_ => ?_⟩
      · replace h := h.1 k_
        exact h
      · replace h := h.2 k_
        refine ⟨h.1, ?_⟩
        replace h := h.2
        exact h
theorem U_171_52 {X : Int × (Int → Int)} {d : Nat} {Q : Int → XH → Prop} (hd : 0 ≤ d) (H : XH) (h : ((¬ H 67 25 = H 67 24) → xq X d 171 Q 77 [(0, (2, 67))] [] (xup H 67 26 (H 67 25))) ∧ (¬ (¬ H 67 25 = H 67 24) → Q 0 (xup (xup H 67 26 (H 67 25)) 67 27 0))) : xq X d 171 Q 52 [(0, (2, 67))] [] H := by
  show xq X d 171 Q 52 [(0, (2, 67))] [] H
  refine xq_run [0, 52, 77, 91, 99, 122, 173, 189, 192, 211, 219, 232, 259, 316, 340, 351, 374, 386] 300 ?_
  show ((¬ H 67 25 = H 67 24) → xq X d 171 Q 77 [(0, (2, 67))] [] (xup H 67 26 (H 67 25))) ∧ (¬ (¬ H 67 25 = H 67 24) → xfR 2 0 ∧ xKZ = xKZ ∧ Q 0 (xup (xup H 67 26 (H 67 25)) 67 27 0))
  refine ⟨fun k_ => ?_, fun k_ => ?_⟩
  · replace h := h.1 k_
    exact h
  · replace h := h.2 k_
    exact ⟨trivial, rfl, h⟩
theorem U_171_77 {X : Int × (Int → Int)} {d : Nat} {Q : Int → XH → Prop} (hd : 2 ≤ d) (H : XH) (h : ((0 : Int) ≤ H 67 25 ∧ (H 67 25 : Int) < 300) ∧ (((((97 ≤ (H 70 (H 67 25)) ∧ (H 70 (H 67 25)) ≤ 122) ∨ (65 ≤ (H 70 (H 67 25)) ∧ (H 70 (H 67 25)) ≤ 90))) → xq X d 171 Q 99 [(0, (2, 67)), (2, (1, 0)), (4, (0, 0))] [] H) ∧ (¬ (((97 ≤ (H 70 (H 67 25)) ∧ (H 70 (H 67 25)) ≤ 122) ∨ (65 ≤ (H 70 (H 67 25)) ∧ (H 70 (H 67 25)) ≤ 90))) → xq X d 171 Q 211 [(1, (0, H 70 (H 67 25))), (0, (2, 67))] [] H))) : xq X d 171 Q 77 [(0, (2, 67))] [] H := by
  show xq X d 171 Q 77 [(0, (2, 67))] [] H
  refine xq_run [0, 52, 77, 91, 99, 122, 173, 189, 192, 211, 219, 232, 259, 316, 340, 351, 374, 386] 300 ?_
  show ((0 : Int) ≤ H 67 25 ∧ (H 67 25 : Int) < 300) ∧ xWM (xE X) xMC d 169 [(0, H 70 (H 67 25))] xKZ H _
  refine ⟨h.1, ?_⟩
  replace h := h.2
  refine xc_in (s_169 (by omega) (H 70 (H 67 25)) H  ?_)
  replace h := h
  show xq X d 171 Q 91 [(1, (0, H 70 (H 67 25))), (0, (2, 67))] [(0, xb ((97 ≤ (H 70 (H 67 25)) ∧ (H 70 (H 67 25)) ≤ 122) ∨ (65 ≤ (H 70 (H 67 25)) ∧ (H 70 (H 67 25)) ≤ 90)))] H
  refine xq_run [0, 52, 77, 91, 99, 122, 173, 189, 192, 211, 219, 232, 259, 316, 340, 351, 374, 386] 300 ?_
  show ((xb ((97 ≤ (H 70 (H 67 25)) ∧ (H 70 (H 67 25)) ≤ 122) ∨ (65 ≤ (H 70 (H 67 25)) ∧ (H 70 (H 67 25)) ≤ 90)) = 0) → xq X d 171 Q 211 [(1, (0, H 70 (H 67 25))), (0, (2, 67))] [] H) ∧ (¬ (xb ((97 ≤ (H 70 (H 67 25)) ∧ (H 70 (H 67 25)) ≤ 122) ∨ (65 ≤ (H 70 (H 67 25)) ∧ (H 70 (H 67 25)) ≤ 90)) = 0) → xq X d 171 Q 99 [(0, (2, 67)), (2, (1, 0)), (4, (0, 0))] [] H)
  refine ⟨fun k_ => ?_, fun k_ => ?_⟩
  · replace h := h.2 (xbe_0.mp k_)
    exact h
  · replace h := h.1 (xbe_1.mp k_)
    exact h
theorem U_171_211 {X : Int × (Int → Int)} {d : Nat} {Q : Int → XH → Prop} (hd : 1 ≤ d) (v1 : Int) (H : XH) (h : ((((48 ≤ v1 ∧ v1 ≤ 57)) → xq X d 171 Q 232 [(0, (2, 67))] [] (xup (xup H 67 27 2) 67 28 0)) ∧ (¬ ((48 ≤ v1 ∧ v1 ≤ 57)) → xq X d 171 Q 316 [(1, (0, v1)), (0, (2, 67))] [] H))) : xq X d 171 Q 211 [(1, (0, v1)), (0, (2, 67))] [] H := by
  show xq X d 171 Q 211 [(1, (0, v1)), (0, (2, 67))] [] H
  refine xq_run [0, 52, 77, 91, 99, 122, 173, 189, 192, 211, 219, 232, 259, 316, 340, 351, 374, 386] 300 ?_
  show xWM (xE X) xMC d 23 [(0, v1), (0, 48), (0, 57)] xKZ H _
  refine xc_in (s_23 (by omega) v1 48 57 H  ?_)
  replace h := h
  show xq X d 171 Q 219 [(1, (0, v1)), (0, (2, 67))] [(0, xb (48 ≤ v1 ∧ v1 ≤ 57))] H
  refine xq_run [0, 52, 77, 91, 99, 122, 173, 189, 192, 211, 219, 232, 259, 316, 340, 351, 374, 386] 300 ?_
  show ((xb (48 ≤ v1 ∧ v1 ≤ 57) = 0) → xq X d 171 Q 316 [(1, (0, v1)), (0, (2, 67))] [] H) ∧ (¬ (xb (48 ≤ v1 ∧ v1 ≤ 57) = 0) → xq X d 171 Q 232 [(0, (2, 67))] [] (xup (xup H 67 27 2) 67 28 0))
  refine ⟨fun k_ => ?_, fun k_ => ?_⟩
  · replace h := h.2 (xbe_0.mp k_)
    exact h
  · replace h := h.1 (xbe_1.mp k_)
    exact h
theorem U_171_99 {X : Int × (Int → Int)} {d : Nat} {Q : Int → XH → Prop} (hd : 2 ≤ d) (v2 v4 : Int) (H : XH) (h : ((H 67 24 ≤ H 67 25) → xq X d 171 Q 173 [(0, (2, 67)), (2, (1, v2)), (4, (0, v4))] [] H) ∧ (¬ (H 67 24 ≤ H 67 25) → ((0 : Int) ≤ H 67 25 ∧ (H 67 25 : Int) < 300) ∧ (((((97 ≤ (H 70 (H 67 25)) ∧ (H 70 (H 67 25)) ≤ 122) ∨ (65 ≤ (H 70 (H 67 25)) ∧ (H 70 (H 67 25)) ≤ 90))) → ((8 ≤ v4) → (xI (v4 + 1)) ∧ (xI ((H 67 25) + 1)) ∧ xq X d 171 Q 99 [(0, (2, 67)), (2, (1, v2)), (4, (0, v4 + 1))] [] (xup H 67 25 ((H 67 25) + 1))) ∧ (¬ (8 ≤ v4) → (xJ (64 * v2)) ∧ ((0 : Int) ≤ H 67 25 ∧ (H 67 25 : Int) < 300) ∧ (xJ ((64 * v2) + (H 70 (H 67 25)))) ∧ (xJ (((64 * v2) + (H 70 (H 67 25))) - 64)) ∧ (xI (v4 + 1)) ∧ (xI ((H 67 25) + 1)) ∧ xq X d 171 Q 99 [(0, (2, 67)), (2, (1, ((64 * v2) + (H 70 (H 67 25))) - 64)), (4, (0, v4 + 1))] [] (xup H 67 25 ((H 67 25) + 1)))) ∧ (¬ (((97 ≤ (H 70 (H 67 25)) ∧ (H 70 (H 67 25)) ≤ 122) ∨ (65 ≤ (H 70 (H 67 25)) ∧ (H 70 (H 67 25)) ≤ 90))) → xq X d 171 Q 173 [(0, (2, 67)), (2, (1, v2)), (4, (0, v4))] [] H)))) : xq X d 171 Q 99 [(0, (2, 67)), (2, (1, v2)), (4, (0, v4))] [] H := by
  show xq X d 171 Q 99 [(0, (2, 67)), (2, (1, v2)), (4, (0, v4))] [] H
  refine xq_run [0, 52, 77, 91, 99, 122, 173, 189, 192, 211, 219, 232, 259, 316, 340, 351, 374, 386] 300 ?_
  show ((H 67 24 ≤ H 67 25) → xq X d 171 Q 173 [(0, (2, 67)), (2, (1, v2)), (4, (0, v4))] [] H) ∧ (¬ (H 67 24 ≤ H 67 25) → ((0 : Int) ≤ H 67 25 ∧ (H 67 25 : Int) < 300) ∧ xWM (xE X) xMC d 169 [(0, H 70 (H 67 25))] xKZ H _)
  refine ⟨fun k_ => ?_, fun k_ => ?_⟩
  · replace h := h.1 k_
    exact h
  · replace h := h.2 k_
    refine ⟨h.1, ?_⟩
    replace h := h.2
    refine xc_in (s_169 (by omega) (H 70 (H 67 25)) H  ?_)
    replace h := h
    show xq X d 171 Q 122 [(0, (2, 67)), (2, (1, v2)), (4, (0, v4))] [(0, xb ((97 ≤ (H 70 (H 67 25)) ∧ (H 70 (H 67 25)) ≤ 122) ∨ (65 ≤ (H 70 (H 67 25)) ∧ (H 70 (H 67 25)) ≤ 90)))] H
    refine xq_run [0, 52, 77, 91, 99, 122, 173, 189, 192, 211, 219, 232, 259, 316, 340, 351, 374, 386] 300 ?_
    show ((xb ((97 ≤ (H 70 (H 67 25)) ∧ (H 70 (H 67 25)) ≤ 122) ∨ (65 ≤ (H 70 (H 67 25)) ∧ (H 70 (H 67 25)) ≤ 90)) = 0) → xq X d 171 Q 173 [(0, (2, 67)), (2, (1, v2)), (4, (0, v4))] [] H) ∧ (¬ (xb ((97 ≤ (H 70 (H 67 25)) ∧ (H 70 (H 67 25)) ≤ 122) ∨ (65 ≤ (H 70 (H 67 25)) ∧ (H 70 (H 67 25)) ≤ 90)) = 0) → ((8 ≤ v4) → (xI (v4 + 1)) ∧ (xI ((H 67 25) + 1)) ∧ xq X d 171 Q 99 [(0, (2, 67)), (2, (1, v2)), (4, (0, v4 + 1))] [] (xup H 67 25 ((H 67 25) + 1))) ∧ (¬ (8 ≤ v4) → (xJ (64 * v2)) ∧ ((0 : Int) ≤ H 67 25 ∧ (H 67 25 : Int) < 300) ∧ (xJ ((64 * v2) + (H 70 (H 67 25)))) ∧ (xJ (((64 * v2) + (H 70 (H 67 25))) - 64)) ∧ (xI (v4 + 1)) ∧ (xI ((H 67 25) + 1)) ∧ xq X d 171 Q 99 [(0, (2, 67)), (2, (1, ((64 * v2) + (H 70 (H 67 25))) - 64)), (4, (0, v4 + 1))] [] (xup H 67 25 ((H 67 25) + 1))))
    refine ⟨fun k_ => ?_, fun k_ => ?_⟩
    · replace h := h.2 (xbe_0.mp k_)
      exact h
    · replace h := h.1 (xbe_1.mp k_)
      refine ⟨fun k_ => ?_, fun k_ => ?_⟩
      · replace h := h.1 k_
        refine ⟨h.1, ?_⟩
        replace h := h.2
        refine ⟨h.1, ?_⟩
        replace h := h.2
        exact h
      · replace h := h.2 k_
        refine ⟨h.1, ?_⟩
        replace h := h.2
        refine ⟨h.1, ?_⟩
        replace h := h.2
        refine ⟨h.1, ?_⟩
        replace h := h.2
        refine ⟨h.1, ?_⟩
        replace h := h.2
        refine ⟨h.1, ?_⟩
        replace h := h.2
        refine ⟨h.1, ?_⟩
        replace h := h.2
        exact h
theorem U_171_316 {X : Int × (Int → Int)} {d : Nat} {Q : Int → XH → Prop} (hd : 1 ≤ d) (v1 : Int) (H : XH) (h : (xI ((H 67 25) + 1)) ∧ ((((59 ≤ v1 ∧ v1 ≤ 62)) → xq X d 171 Q 374 [(1, (0, v1)), (0, (2, 67))] [] (xup (xup (xup H 67 25 ((H 67 25) + 1)) 67 28 v1) 67 27 3)) ∧ (¬ ((59 ≤ v1 ∧ v1 ≤ 62)) → ((((40 ≤ v1 ∧ v1 ≤ 45)) → xq X d 171 Q 374 [(1, (0, v1)), (0, (2, 67))] [] (xup (xup (xup H 67 25 ((H 67 25) + 1)) 67 28 v1) 67 27 3)) ∧ (¬ ((40 ≤ v1 ∧ v1 ≤ 45)) → ((v1 = 47) → xq X d 171 Q 374 [(1, (0, v1)), (0, (2, 67))] [] (xup (xup (xup H 67 25 ((H 67 25) + 1)) 67 28 v1) 67 27 3)) ∧ (¬ (v1 = 47) → ((¬ v1 = 35) → xq X d 171 Q 374 [(1, (0, v1)), (0, (2, 67))] [] (xup (xup (xup H 67 25 ((H 67 25) + 1)) 67 28 v1) 67 27 4)) ∧ (¬ (¬ v1 = 35) → xq X d 171 Q 374 [(1, (0, v1)), (0, (2, 67))] [] (xup (xup (xup H 67 25 ((H 67 25) + 1)) 67 28 v1) 67 27 3)))))))) : xq X d 171 Q 316 [(1, (0, v1)), (0, (2, 67))] [] H := by
  show xq X d 171 Q 316 [(1, (0, v1)), (0, (2, 67))] [] H
  refine xq_run [0, 52, 77, 91, 99, 122, 173, 189, 192, 211, 219, 232, 259, 316, 340, 351, 374, 386] 300 ?_
  show (xI ((H 67 25) + 1)) ∧ xWM (xE X) xMC d 23 [(0, v1), (0, 59), (0, 62)] xKZ (xup (xup H 67 25 ((H 67 25) + 1)) 67 28 v1) _
  refine ⟨h.1, ?_⟩
  replace h := h.2
  refine xc_in (s_23 (by omega) v1 59 62 (xup (xup H 67 25 ((H 67 25) + 1)) 67 28 v1)  ?_)
  replace h := h
  show xq X d 171 Q 340 [(1, (0, v1)), (0, (2, 67))] [(0, xb (59 ≤ v1 ∧ v1 ≤ 62)), (2, 67)] (xup (xup H 67 25 ((H 67 25) + 1)) 67 28 v1)
  refine xq_run [0, 52, 77, 91, 99, 122, 173, 189, 192, 211, 219, 232, 259, 316, 340, 351, 374, 386] 300 ?_
  show ((¬ xb (59 ≤ v1 ∧ v1 ≤ 62) = 0) → xq X d 171 Q 374 [(1, (0, v1)), (0, (2, 67))] [] (xup (xup (xup H 67 25 ((H 67 25) + 1)) 67 28 v1) 67 27 3)) ∧ (¬ (¬ xb (59 ≤ v1 ∧ v1 ≤ 62) = 0) → xWM (xE X) xMC d 23 [(0, v1), (0, 40), (0, 45)] xKZ (xup (xup H 67 25 ((H 67 25) + 1)) 67 28 v1) _)
  refine ⟨fun k_ => ?_, fun k_ => ?_⟩
  · replace h := h.1 (xbe_1.mp k_)
    exact h
  · replace h := h.2 (xbe_n.mp k_)
    refine xc_in (s_23 (by omega) v1 40 45 (xup (xup H 67 25 ((H 67 25) + 1)) 67 28 v1)  ?_)
    replace h := h
    show xq X d 171 Q 351 [(1, (0, v1)), (0, (2, 67))] [(0, xb (40 ≤ v1 ∧ v1 ≤ 45)), (2, 67)] (xup (xup H 67 25 ((H 67 25) + 1)) 67 28 v1)
    refine xq_run [0, 52, 77, 91, 99, 122, 173, 189, 192, 211, 219, 232, 259, 316, 340, 351, 374, 386] 300 ?_
    show ((¬ xb (40 ≤ v1 ∧ v1 ≤ 45) = 0) → xq X d 171 Q 374 [(1, (0, v1)), (0, (2, 67))] [] (xup (xup (xup H 67 25 ((H 67 25) + 1)) 67 28 v1) 67 27 3)) ∧ (¬ (¬ xb (40 ≤ v1 ∧ v1 ≤ 45) = 0) → ((v1 = 47) → xq X d 171 Q 374 [(1, (0, v1)), (0, (2, 67))] [] (xup (xup (xup H 67 25 ((H 67 25) + 1)) 67 28 v1) 67 27 3)) ∧ (¬ (v1 = 47) → ((¬ v1 = 35) → xq X d 171 Q 374 [(1, (0, v1)), (0, (2, 67))] [] (xup (xup (xup H 67 25 ((H 67 25) + 1)) 67 28 v1) 67 27 4)) ∧ (¬ (¬ v1 = 35) → xq X d 171 Q 374 [(1, (0, v1)), (0, (2, 67))] [] (xup (xup (xup H 67 25 ((H 67 25) + 1)) 67 28 v1) 67 27 3))))
    refine ⟨fun k_ => ?_, fun k_ => ?_⟩
    · replace h := h.1 (xbe_1.mp k_)
      exact h
    · replace h := h.2 (xbe_n.mp k_)
      refine ⟨fun k_ => ?_, fun k_ => ?_⟩
      · replace h := h.1 k_
        exact h
      · replace h := h.2 k_
        refine ⟨fun k_ => ?_, fun k_ => ?_⟩
        · replace h := h.1 k_
          exact h
        · replace h := h.2 k_
          exact h
theorem U_171_232 {X : Int × (Int → Int)} {d : Nat} {Q : Int → XH → Prop} (hd : 1 ≤ d) (H : XH) (h : ((H 67 24 ≤ H 67 25) → Q 0 H) ∧ (¬ (H 67 24 ≤ H 67 25) → ((0 : Int) ≤ H 67 25 ∧ (H 67 25 : Int) < 300) ∧ ((((48 ≤ (H 70 (H 67 25)) ∧ (H 70 (H 67 25)) ≤ 57)) → ((H 67 28 ≤ 99999) → (xI (10 * (H 67 28))) ∧ ((0 : Int) ≤ H 67 25 ∧ (H 67 25 : Int) < 300) ∧ (xI ((10 * (H 67 28)) + (H 70 (H 67 25)))) ∧ (xI (((10 * (H 67 28)) + (H 70 (H 67 25))) - 48)) ∧ (xI ((H 67 25) + 1)) ∧ xq X d 171 Q 232 [(0, (2, 67))] [] (xup (xup H 67 28 (((10 * (H 67 28)) + (H 70 (H 67 25))) - 48)) 67 25 ((H 67 25) + 1))) ∧ (¬ (H 67 28 ≤ 99999) → (xI ((H 67 25) + 1)) ∧ xq X d 171 Q 232 [(0, (2, 67))] [] (xup (xup H 67 28 (H 67 28)) 67 25 ((H 67 25) + 1)))) ∧ (¬ ((48 ≤ (H 70 (H 67 25)) ∧ (H 70 (H 67 25)) ≤ 57)) → Q 0 H)))) : xq X d 171 Q 232 [(0, (2, 67))] [] H := by
  show xq X d 171 Q 232 [(0, (2, 67))] [] H
  refine xq_run [0, 52, 77, 91, 99, 122, 173, 189, 192, 211, 219, 232, 259, 316, 340, 351, 374, 386] 300 ?_
  show ((H 67 24 ≤ H 67 25) → xfR 2 0 ∧ xKZ = xKZ ∧ Q 0 H) ∧ (¬ (H 67 24 ≤ H 67 25) → ((0 : Int) ≤ H 67 25 ∧ (H 67 25 : Int) < 300) ∧ xWM (xE X) xMC d 23 [(0, H 70 (H 67 25)), (0, 48), (0, 57)] xKZ H _)
  refine ⟨fun k_ => ?_, fun k_ => ?_⟩
  · replace h := h.1 k_
    exact ⟨trivial, rfl, h⟩
  · replace h := h.2 k_
    refine ⟨h.1, ?_⟩
    replace h := h.2
    refine xc_in (s_23 (by omega) (H 70 (H 67 25)) 48 57 H  ?_)
    replace h := h
    show xq X d 171 Q 259 [(0, (2, 67))] [(0, xb (48 ≤ (H 70 (H 67 25)) ∧ (H 70 (H 67 25)) ≤ 57))] H
    refine xq_run [0, 52, 77, 91, 99, 122, 173, 189, 192, 211, 219, 232, 259, 316, 340, 351, 374, 386] 300 ?_
    show ((xb (48 ≤ (H 70 (H 67 25)) ∧ (H 70 (H 67 25)) ≤ 57) = 0) → xfR 2 0 ∧ xKZ = xKZ ∧ Q 0 H) ∧ (¬ (xb (48 ≤ (H 70 (H 67 25)) ∧ (H 70 (H 67 25)) ≤ 57) = 0) → ((H 67 28 ≤ 99999) → (xI (10 * (H 67 28))) ∧ ((0 : Int) ≤ H 67 25 ∧ (H 67 25 : Int) < 300) ∧ (xI ((10 * (H 67 28)) + (H 70 (H 67 25)))) ∧ (xI (((10 * (H 67 28)) + (H 70 (H 67 25))) - 48)) ∧ (xI ((H 67 25) + 1)) ∧ xq X d 171 Q 232 [(0, (2, 67))] [] (xup (xup H 67 28 (((10 * (H 67 28)) + (H 70 (H 67 25))) - 48)) 67 25 ((H 67 25) + 1))) ∧ (¬ (H 67 28 ≤ 99999) → (xI ((H 67 25) + 1)) ∧ xq X d 171 Q 232 [(0, (2, 67))] [] (xup (xup H 67 28 (H 67 28)) 67 25 ((H 67 25) + 1))))
    refine ⟨fun k_ => ?_, fun k_ => ?_⟩
    · replace h := h.2 (xbe_0.mp k_)
      exact ⟨trivial, rfl, h⟩
    · replace h := h.1 (xbe_1.mp k_)
      refine ⟨fun k_ => ?_, fun k_ => ?_⟩
      · replace h := h.1 k_
        refine ⟨h.1, ?_⟩
        replace h := h.2
        refine ⟨h.1, ?_⟩
        replace h := h.2
        refine ⟨h.1, ?_⟩
        replace h := h.2
        refine ⟨h.1, ?_⟩
        replace h := h.2
        refine ⟨h.1, ?_⟩
        replace h := h.2
        exact h
      · replace h := h.2 k_
        refine ⟨h.1, ?_⟩
        replace h := h.2
        exact h
theorem U_171_173 {X : Int × (Int → Int)} {d : Nat} {Q : Int → XH → Prop} (hd : 0 ≤ d) (v2 v4 : Int) (H : XH) (h : ((v4 ≤ 7) → (xc X d 170 [(1, v2)] H (fun (J1181 : Int) (h1180 : XH) => xq X d 171 Q 192 [(0, (2, 67)), (2, (1, v2)), (4, (0, v4))] [] (xup h1180 67 28 J1181)))) ∧ (¬ (v4 ≤ 7) → xq X d 171 Q 192 [(0, (2, 67)), (2, (1, v2)), (4, (0, v4))] [] (xup H 67 28 (-1)))) : xq X d 171 Q 173 [(0, (2, 67)), (2, (1, v2)), (4, (0, v4))] [] H := by
  show xq X d 171 Q 173 [(0, (2, 67)), (2, (1, v2)), (4, (0, v4))] [] H
  refine xq_run [0, 52, 77, 91, 99, 122, 173, 189, 192, 211, 219, 232, 259, 316, 340, 351, 374, 386] 300 ?_
  show ((v4 ≤ 7) → xWM (xE X) xMC d 170 [(1, v2)] xKZ H _) ∧ (¬ (v4 ≤ 7) → xq X d 171 Q 189 [(0, (2, 67)), (2, (1, v2)), (4, (0, v4))] [(0, (-1)), (2, 67)] H)
  refine ⟨fun k_ => ?_, fun k_ => ?_⟩
  · replace h := h.1 k_
    refine xc_in (xc_mono (fun J1181 h1180 q_ => ?_) h)
    replace h := q_
    show xq X d 171 Q 189 [(0, (2, 67)), (2, (1, v2)), (4, (0, v4))] [(0, J1181), (2, 67)] h1180
    refine xq_run [0, 52, 77, 91, 99, 122, 173, 189, 192, 211, 219, 232, 259, 316, 340, 351, 374, 386] 300 ?_
    show xq X d 171 Q 192 [(0, (2, 67)), (2, (1, v2)), (4, (0, v4))] [] (xup h1180 67 28 J1181)
    exact h
  · replace h := h.2 k_
    show xq X d 171 Q 189 [(0, (2, 67)), (2, (1, v2)), (4, (0, v4))] [(0, (-1)), (2, 67)] H
    refine xq_run [0, 52, 77, 91, 99, 122, 173, 189, 192, 211, 219, 232, 259, 316, 340, 351, 374, 386] 300 ?_
    show xq X d 171 Q 192 [(0, (2, 67)), (2, (1, v2)), (4, (0, v4))] [] (xup H 67 28 (-1))
    exact h
theorem U_171_374 {X : Int × (Int → Int)} {d : Nat} {Q : Int → XH → Prop} (hd : 0 ≤ d) (v1 : Int) (H : XH) (h : ((v1 = 60) → xq X d 171 Q 386 [(1, (0, v1)), (0, (2, 67))] [] H) ∧ (¬ (v1 = 60) → ((¬ v1 = 62) → Q 0 H) ∧ (¬ (¬ v1 = 62) → xq X d 171 Q 386 [(1, (0, v1)), (0, (2, 67))] [] H))) : xq X d 171 Q 374 [(1, (0, v1)), (0, (2, 67))] [] H := by
  show xq X d 171 Q 374 [(1, (0, v1)), (0, (2, 67))] [] H
  refine xq_run [0, 52, 77, 91, 99, 122, 173, 189, 192, 211, 219, 232, 259, 316, 340, 351, 374, 386] 300 ?_
  show ((v1 = 60) → xq X d 171 Q 386 [(1, (0, v1)), (0, (2, 67))] [] H) ∧ (¬ (v1 = 60) → ((¬ v1 = 62) → xfR 2 0 ∧ xKZ = xKZ ∧ Q 0 H) ∧ (¬ (¬ v1 = 62) → xq X d 171 Q 386 [(1, (0, v1)), (0, (2, 67))] [] H))
  refine ⟨fun k_ => ?_, fun k_ => ?_⟩
  · replace h := h.1 k_
    exact h
  · replace h := h.2 k_
    refine ⟨fun k_ => ?_, fun k_ => ?_⟩
    · replace h := h.1 k_
      exact ⟨trivial, rfl, h⟩
    · replace h := h.2 k_
      exact h
theorem U_171_192 {X : Int × (Int → Int)} {d : Nat} {Q : Int → XH → Prop} (hd : 0 ≤ d) (v2 v4 : Int) (H : XH) (h : ((0 ≤ H 67 28) → Q 0 (xup H 67 27 1)) ∧ (¬ (0 ≤ H 67 28) → Q 0 (xup H 67 27 4))) : xq X d 171 Q 192 [(0, (2, 67)), (2, (1, v2)), (4, (0, v4))] [] H := by
  show xq X d 171 Q 192 [(0, (2, 67)), (2, (1, v2)), (4, (0, v4))] [] H
  refine xq_run [0, 52, 77, 91, 99, 122, 173, 189, 192, 211, 219, 232, 259, 316, 340, 351, 374, 386] 300 ?_
  show ((0 ≤ H 67 28) → xfR 2 0 ∧ xKZ = xKZ ∧ Q 0 (xup H 67 27 1)) ∧ (¬ (0 ≤ H 67 28) → xfR 2 0 ∧ xKZ = xKZ ∧ Q 0 (xup H 67 27 4))
  refine ⟨fun k_ => ?_, fun k_ => ?_⟩
  · replace h := h.1 k_
    exact ⟨trivial, rfl, h⟩
  · replace h := h.2 k_
    exact ⟨trivial, rfl, h⟩
theorem U_171_386 {X : Int × (Int → Int)} {d : Nat} {Q : Int → XH → Prop} (hd : 0 ≤ d) (v1 : Int) (H : XH) (h : ((H 67 24 ≤ H 67 25) → Q 0 H) ∧ (¬ (H 67 24 ≤ H 67 25) → ((0 : Int) ≤ H 67 25 ∧ (H 67 25 : Int) < 300) ∧ ((¬ H 70 (H 67 25) = 61) → Q 0 H) ∧ (¬ (¬ H 70 (H 67 25) = 61) → ((¬ v1 = 60) → (xI ((H 67 25) + 1)) ∧ Q 0 (xup (xup H 67 28 301) 67 25 ((H 67 25) + 1))) ∧ (¬ (¬ v1 = 60) → (xI ((H 67 25) + 1)) ∧ Q 0 (xup (xup H 67 28 300) 67 25 ((H 67 25) + 1)))))) : xq X d 171 Q 386 [(1, (0, v1)), (0, (2, 67))] [] H := by
  show xq X d 171 Q 386 [(1, (0, v1)), (0, (2, 67))] [] H
  refine xq_run [0, 52, 77, 91, 99, 122, 173, 189, 192, 211, 219, 232, 259, 316, 340, 351, 374, 386] 300 ?_
  show ((H 67 24 ≤ H 67 25) → xfR 2 0 ∧ xKZ = xKZ ∧ Q 0 H) ∧ (¬ (H 67 24 ≤ H 67 25) → ((0 : Int) ≤ H 67 25 ∧ (H 67 25 : Int) < 300) ∧ ((¬ H 70 (H 67 25) = 61) → xfR 2 0 ∧ xKZ = xKZ ∧ Q 0 H) ∧ (¬ (¬ H 70 (H 67 25) = 61) → ((¬ v1 = 60) → (xI ((H 67 25) + 1)) ∧ xfR 2 0 ∧ xKZ = xKZ ∧ Q 0 (xup (xup H 67 28 301) 67 25 ((H 67 25) + 1))) ∧ (¬ (¬ v1 = 60) → (xI ((H 67 25) + 1)) ∧ xfR 2 0 ∧ xKZ = xKZ ∧ Q 0 (xup (xup H 67 28 300) 67 25 ((H 67 25) + 1)))))
  refine ⟨fun k_ => ?_, fun k_ => ?_⟩
  · replace h := h.1 k_
    exact ⟨trivial, rfl, h⟩
  · replace h := h.2 k_
    refine ⟨h.1, ?_⟩
    replace h := h.2
    refine ⟨fun k_ => ?_, fun k_ => ?_⟩
    · replace h := h.1 k_
      exact ⟨trivial, rfl, h⟩
    · replace h := h.2 k_
      refine ⟨fun k_ => ?_, fun k_ => ?_⟩
      · replace h := h.1 k_
        refine ⟨h.1, ?_⟩
        replace h := h.2
        exact ⟨trivial, rfl, h⟩
      · replace h := h.2 k_
        refine ⟨h.1, ?_⟩
        replace h := h.2
        exact ⟨trivial, rfl, h⟩

/-- the model reads on from a: to the token at p, or to the end -/
def nxP (t : Int → Int) (n p : Int) (k v e : Int) (h : XH) : Prop := (p = n ∧ h 67 25 = n ∧ h 67 26 = n ∧ h 67 27 = 0) ∨ (p < n ∧ tkP t n p k v e ∧ h 67 25 = e ∧ h 67 26 = p ∧ tkR k v (h 67 27) (h 67 28))
theorem tk_sg {c b k s v : Int} (hr : -128 ≤ b ∧ b ≤ 127) (hc : (b < 0 ∧ c = b + 256) ∨ (0 ≤ b ∧ c = b)) (hk : k = if 0 ≤ sgI c then 30 + sgI c else 22) (hs : (s = 3 ∧ ((59 ≤ b ∧ b ≤ 62) ∨ (40 ≤ b ∧ b ≤ 45) ∨ b = 47 ∨ b = 35)) ∨ (s = 4 ∧ ¬ ((59 ≤ b ∧ b ≤ 62) ∨ (40 ≤ b ∧ b ≤ 45) ∨ b = 47 ∨ b = 35))) : tkR k v s b := by
  rcases sg_cases c with ⟨e, f⟩ | ⟨e, f⟩ | ⟨e, f⟩ | ⟨e, f⟩ | ⟨e, f⟩ | ⟨e, f⟩ | ⟨e, f⟩ | ⟨e, f⟩ | ⟨e, f⟩ | ⟨e, f⟩ | ⟨e, f⟩ | ⟨e, f⟩
  · have hb2 : b = 60 := by omega
    have hs2 : s = 3 := by
      clear hk
      omega
    subst hb2 hs2
    rw [f, if_pos (by decide)] at hk
    subst hk
    exact Or.inr (Or.inr (Or.inl ⟨rfl, by decide⟩))
  · have hb2 : b = 62 := by omega
    have hs2 : s = 3 := by
      clear hk
      omega
    subst hb2 hs2
    rw [f, if_pos (by decide)] at hk
    subst hk
    exact Or.inr (Or.inr (Or.inl ⟨rfl, by decide⟩))
  · have hb2 : b = 61 := by omega
    have hs2 : s = 3 := by
      clear hk
      omega
    subst hb2 hs2
    rw [f, if_pos (by decide)] at hk
    subst hk
    exact Or.inr (Or.inr (Or.inl ⟨rfl, by decide⟩))
  · have hb2 : b = 35 := by omega
    have hs2 : s = 3 := by
      clear hk
      omega
    subst hb2 hs2
    rw [f, if_pos (by decide)] at hk
    subst hk
    exact Or.inr (Or.inr (Or.inl ⟨rfl, by decide⟩))
  · have hb2 : b = 43 := by omega
    have hs2 : s = 3 := by
      clear hk
      omega
    subst hb2 hs2
    rw [f, if_pos (by decide)] at hk
    subst hk
    exact Or.inr (Or.inr (Or.inl ⟨rfl, by decide⟩))
  · have hb2 : b = 45 := by omega
    have hs2 : s = 3 := by
      clear hk
      omega
    subst hb2 hs2
    rw [f, if_pos (by decide)] at hk
    subst hk
    exact Or.inr (Or.inr (Or.inl ⟨rfl, by decide⟩))
  · have hb2 : b = 42 := by omega
    have hs2 : s = 3 := by
      clear hk
      omega
    subst hb2 hs2
    rw [f, if_pos (by decide)] at hk
    subst hk
    exact Or.inr (Or.inr (Or.inl ⟨rfl, by decide⟩))
  · have hb2 : b = 47 := by omega
    have hs2 : s = 3 := by
      clear hk
      omega
    subst hb2 hs2
    rw [f, if_pos (by decide)] at hk
    subst hk
    exact Or.inr (Or.inr (Or.inl ⟨rfl, by decide⟩))
  · have hb2 : b = 40 := by omega
    have hs2 : s = 3 := by
      clear hk
      omega
    subst hb2 hs2
    rw [f, if_pos (by decide)] at hk
    subst hk
    exact Or.inr (Or.inr (Or.inl ⟨rfl, by decide⟩))
  · have hb2 : b = 41 := by omega
    have hs2 : s = 3 := by
      clear hk
      omega
    subst hb2 hs2
    rw [f, if_pos (by decide)] at hk
    subst hk
    exact Or.inr (Or.inr (Or.inl ⟨rfl, by decide⟩))
  · have hb2 : b = 59 := by omega
    have hs2 : s = 3 := by
      clear hk
      omega
    subst hb2 hs2
    rw [f, if_pos (by decide)] at hk
    subst hk
    exact Or.inr (Or.inr (Or.inl ⟨rfl, by decide⟩))
  · rw [e, if_neg (by decide)] at hk
    exact Or.inr (Or.inr (Or.inr ⟨hk, by omega, hr⟩))
theorem tk_s2 {c b k s u v : Int} (hr : -128 ≤ b ∧ b ≤ 127) (hc : (b < 0 ∧ c = b + 256) ∨ (0 ≤ b ∧ c = b)) (hk : k = if c = 60 then 41 else 42) (hu : (c = 60 ∧ u = 300) ∨ (c = 62 ∧ u = 301)) (hs : (s = 3 ∧ ((59 ≤ b ∧ b ≤ 62) ∨ (40 ≤ b ∧ b ≤ 45) ∨ b = 47 ∨ b = 35)) ∨ (s = 4 ∧ ¬ ((59 ≤ b ∧ b ≤ 62) ∨ (40 ≤ b ∧ b ≤ 45) ∨ b = 47 ∨ b = 35))) : tkR k v s u := by
  have hs2 : s = 3 := by
    clear hk
    omega
  rcases hu with ⟨e, f⟩ | ⟨e, f⟩
  · rw [e, if_pos rfl] at hk
    subst hk f hs2
    exact Or.inr (Or.inr (Or.inl ⟨rfl, by decide⟩))
  · rw [e, if_neg (by decide)] at hk
    subst hk f hs2
    exact Or.inr (Or.inr (Or.inl ⟨rfl, by decide⟩))

theorem s_171 {X : Int × (Int → Int)} {d : Nat} {Q : Int → XH → Prop} (hd : 4 ≤ d) {H : XH} {t b : Int → Int} {n a p : Int} (hb : H 70 = b) (h24 : H 67 24 = n) (h25 : H 67 25 = a) (hr : ∀ i, 0 ≤ i → i < n → byR (t i) (b i)) (hn : 0 ≤ n ∧ n ≤ 300) (ha : 0 ≤ a ∧ a ≤ p ∧ p ≤ n) (hbl : ∀ i, a ≤ i → i < p → isBl (t i)) (hp : p < n → ¬ isBl (t p)) (hQ : ∀ h1, nxF H h1 → (p = n → h1 67 25 = n ∧ h1 67 26 = n ∧ h1 67 27 = 0) → (∀ k v e, p < n → tkP t n p k v e → h1 67 25 = e ∧ h1 67 26 = p ∧ tkR k v (h1 67 27) (h1 67 28)) → Q 0 h1) : xc X d 171 [(2, 67)] H Q := by
  cases d with
  | zero => omega
  | succ d =>
  have tb : ∀ i, 0 ≤ i → i < n → (-128 ≤ b i ∧ b i ≤ 127) ∧ ((b i < 0 ∧ t i = b i + 256) ∨ (0 ≤ b i ∧ t i = b i)) := fun i x y => byR_o (hr i x y)
  unfold isBl at hbl hp
  -- what is read at a place
  have rd : ∀ h, nxF H h → h 70 = b ∧ h 67 24 = n := fun h f => ⟨(f.1 70 (by decide)).trans hb, (f.2 24 (by decide)).trans h24⟩
  -- letters
  have k192 : ∀ (h : XH) (v2 v4 e r : Int), nxF H h → h 67 25 = e → h 67 26 = p → h 67 28 = r → isLt (t p) → (p < e ∧ e ≤ n) → (∀ i, p ≤ i → i < e → isLt (t i)) → (e < n → ¬ isLt (t e)) → ((0 ≤ r ∧ r ≤ 17 ∧ wdE t p e r) ∨ (r = -1 ∧ ∀ j, 0 ≤ j → j ≤ 17 → ¬ wdE t p e j)) → xq X d 171 Q 192 [(0, (2, 67)), (2, (1, v2)), (4, (0, v4))] [] h := by
    intro h v2 v4 e r f e25 e26 e28 lp le ls ln hw
    have fin : ∀ s : Int, ((s = 1 ∧ 0 ≤ r) ∨ (s = 4 ∧ ¬ 0 ≤ r)) → Q 0 (xup h 67 27 s) := fun s hs => by
      refine hQ _ (nxF_up f (by decide)) (fun q => by omega) (fun k v e' pn tk => ?_)
      have g25 : xup h 67 27 s 67 25 = e := e25
      have g26 : xup h 67 27 s 67 26 = p := e26
      have g27 : xup h 67 27 s 67 27 = s := xup_self _ _ _ _
      have g28 : xup h 67 27 s 67 28 = r := e28
      rw [g25, g26, g27, g28]
      rcases tk with ⟨-, q1, q2, q3, q4, q5⟩ | ⟨q1, -⟩ | ⟨q1, -⟩ | ⟨q1, -⟩
      · have ee : e = e' := by
          rcases Int.lt_trichotomy e e' with z | z | z
          · exact absurd (q2 e (by omega) z) (ln (by omega))
          · exact z
          · exact absurd (ls e' (by omega) z) (q3 (by omega))
        rw [← ee] at q4 ⊢
        refine ⟨rfl, rfl, ?_⟩
        rcases q4 with ⟨y1, y2, y3⟩ | ⟨y1, y2⟩
        · rcases hw with ⟨z1, z2, z3⟩ | ⟨z1, z2⟩
          · have kr : k = r := by
              have c1 := (wd_iff (t := t) (b := p) (e := e) (j := k) ⟨y1, y2⟩ (by omega) ls).mpr y3
              have c2 := (wd_iff (t := t) (b := p) (e := e) (j := r) ⟨z1, z2⟩ (by omega) ls).mpr z3
              rw [c1] at c2
              obtain ⟨w0, w1, w2, w3, w4, w5, w6, w7, w8, w9, w10, w11, w12, w13, w14, w15, w16, w17⟩ := wdC_v
              rcases (show k = 0 ∨ k = 1 ∨ k = 2 ∨ k = 3 ∨ k = 4 ∨ k = 5 ∨ k = 6 ∨ k = 7 ∨ k = 8 ∨ k = 9 ∨ k = 10 ∨ k = 11 ∨ k = 12 ∨ k = 13 ∨ k = 14 ∨ k = 15 ∨ k = 16 ∨ k = 17 by omega) with x | x | x | x | x | x | x | x | x | x | x | x | x | x | x | x | x | x <;> rcases (show r = 0 ∨ r = 1 ∨ r = 2 ∨ r = 3 ∨ r = 4 ∨ r = 5 ∨ r = 6 ∨ r = 7 ∨ r = 8 ∨ r = 9 ∨ r = 10 ∨ r = 11 ∨ r = 12 ∨ r = 13 ∨ r = 14 ∨ r = 15 ∨ r = 16 ∨ r = 17 by omega) with y | y | y | y | y | y | y | y | y | y | y | y | y | y | y | y | y | y <;> subst x <;> subst y <;> first | rfl | omega
            exact Or.inl ⟨⟨y1, y2⟩, by omega, kr.symm⟩
          · exact absurd y3 (z2 k y1 y2)
        · rcases hw with ⟨z1, z2, z3⟩ | ⟨z1, z2⟩
          · exact absurd z3 (y2 r z1 z2)
          · exact Or.inr (Or.inr (Or.inr ⟨y1, Or.inl (by omega), by omega⟩))
      · unfold isDg at q1
        unfold isLt at lp
        omega
      · exact absurd lp q1
      · exact absurd lp q1
    refine U_171_192 (by omega) v2 v4 h ?_
    rw [e28]
    refine ⟨fun c1 => ?_, fun c1 => ?_⟩
    · skip
      first | exact fin _ (Or.inl ⟨rfl, by assumption⟩) | exact fin _ (Or.inr ⟨rfl, by assumption⟩)
    · skip
      first | exact fin _ (Or.inl ⟨rfl, by assumption⟩) | exact fin _ (Or.inr ⟨rfl, by assumption⟩)
  have k173 : ∀ (h : XH) (e : Int), nxF H h → h 67 25 = e → h 67 26 = p → isLt (t p) → (p < e ∧ e ≤ n) → (∀ i, p ≤ i → i < e → isLt (t i)) → (e < n → ¬ isLt (t e)) → ∀ v, (e - p ≤ 7 → v = enV t p (e - p).toNat) → xq X d 171 Q 173 [(0, (2, 67)), (2, (1, v)), (4, (0, e - p))] [] h := by
    intro h e f e25 e26 lp le ls ln v hv
    refine U_171_173 (by omega) v (e - p) h ?_
    refine ⟨fun c1 => ?_, fun c1 => ?_⟩
    · skip
      refine s_170 (by omega) v h (fun J wr => ?_)
      have hv := hv (by omega)
      refine k192 _ _ _ e J (nxF_up f (by decide)) e25 e26 (xup_self _ _ _ _) lp le ls ln ?_
      rcases wr with ⟨y1, y2, y3⟩ | ⟨y1, y2⟩
      · exact Or.inl ⟨y1, y2, (wd_iff ⟨y1, y2⟩ (by omega) ls).mp (hv ▸ y3)⟩
      · exact Or.inr ⟨y1, fun j a c q => y2 j a c (hv ▸ (wd_iff ⟨a, c⟩ (by omega) ls).mpr q)⟩
    · skip
      refine k192 _ _ _ e (-1) (nxF_up f (by decide)) e25 e26 (xup_self _ _ _ _) lp le ls ln (Or.inr ⟨rfl, fun j a c q => ?_⟩)
      have l6 := wdL_6 j.toNat (by omega)
      rw [Int.toNat_of_nonneg a] at l6
      have := q.1
      omega
  have k99 : ∀ (k : Nat) (i : Int) (h : XH), i + k = n → p ≤ i → p < n → nxF H h → h 67 25 = i → h 67 26 = p → isLt (t p) → (∀ j, p ≤ j → j < i → isLt (t j)) → xq X d 171 Q 99 [(0, (2, 67)), (2, (1, enV t p (if i - p ≤ 8 then (i - p).toNat else 8))), (4, (0, i - p))] [] h := by
    intro k
    induction k with
    | zero =>
      intro i h hk pi pn f e25 e26 lp ls
      obtain ⟨r70, r24⟩ := rd h f
      have z := fun q => k173 h i f e25 e26 lp ⟨q, by omega⟩ ls (fun q => by omega) (enV t p (if i - p ≤ 8 then (i - p).toNat else 8)) (fun q => by rw [if_pos (by omega)])
      refine U_171_99 (by omega) _ (i - p) h ?_
      rw [r70, r24, e25]
      refine ⟨fun c1 => ?_, fun c1 => ?_⟩
      · skip
        exact z (by omega)
      · skip
        refine ⟨?_, ?_⟩
        · first | omega | (unfold xI; omega) | (unfold xJ; omega) | (exfalso; omega)
        refine ⟨fun c2 => ?_, fun c2 => ?_⟩
        · skip
          refine ⟨fun c3 => ?_, fun c3 => ?_⟩
          · skip
            refine ⟨?_, ?_⟩
            · first | omega | (unfold xI; omega) | (unfold xJ; omega) | (exfalso; omega)
            refine ⟨?_, ?_⟩
            · first | omega | (unfold xI; omega) | (unfold xJ; omega) | (exfalso; omega)
            exfalso
            omega
          · skip
            refine ⟨?_, ?_⟩
            · first | omega | (unfold xI; omega) | (unfold xJ; omega) | (exfalso; omega)
            refine ⟨?_, ?_⟩
            · first | omega | (unfold xI; omega) | (unfold xJ; omega) | (exfalso; omega)
            refine ⟨?_, ?_⟩
            · first | omega | (unfold xI; omega) | (unfold xJ; omega) | (exfalso; omega)
            refine ⟨?_, ?_⟩
            · first | omega | (unfold xI; omega) | (unfold xJ; omega) | (exfalso; omega)
            refine ⟨?_, ?_⟩
            · first | omega | (unfold xI; omega) | (unfold xJ; omega) | (exfalso; omega)
            refine ⟨?_, ?_⟩
            · first | omega | (unfold xI; omega) | (unfold xJ; omega) | (exfalso; omega)
            exfalso
            omega
        · skip
          exfalso
          omega
    | succ k ih =>
      intro i h hk pi pn f e25 e26 lp ls
      obtain ⟨r70, r24⟩ := rd h f
      have ti := tb i (by omega) (by omega)
      have er := enV_rng (f := t) (s := p) (if i - p ≤ 8 then (i - p).toNat else 8) (by split <;> omega) (fun j x y => by
        have z := ls (p + j) (by omega) (by split at y <;> omega)
        unfold isLt at z
        omega)
      have fin : ¬ isLt (t i) → xq X d 171 Q 173 [(0, (2, 67)), (2, (1, enV t p (if i - p ≤ 8 then (i - p).toNat else 8))), (4, (0, i - p))] [] h := fun q => k173 h i f e25 e26 lp ⟨by by_cases y : p = i; (· rw [y] at lp; exact absurd lp q); omega, by omega⟩ ls (fun _ => q) _ (fun q => by rw [if_pos (by omega)])
      have nx : isLt (t i) → ∀ v, v = enV t p (if i + 1 - p ≤ 8 then (i + 1 - p).toNat else 8) → xq X d 171 Q 99 [(0, (2, 67)), (2, (1, v)), (4, (0, i - p + 1))] [] (xup h 67 25 (i + 1)) := fun q v hv => by
        rw [hv, show i - p + 1 = i + 1 - p by omega]
        exact ih (i + 1) _ (by omega) (by omega) pn (nxF_up f (by decide)) (xup_self _ _ _ _) e26 lp (fun j x y => by
          by_cases c : j = i
          · rw [c]
            exact q
          · exact ls j x (by omega))
      have eb : isLt (t i) → t i = b i := fun q => by
        unfold isLt at q
        omega
      refine U_171_99 (by omega) _ (i - p) h ?_
      rw [r70, r24, e25]
      refine ⟨fun c1 => ?_, fun c1 => ?_⟩
      · skip
        exfalso
        omega
      · skip
        refine ⟨?_, ?_⟩
        · first | omega | (unfold xI; omega) | (unfold xJ; omega) | (exfalso; omega)
        refine ⟨fun c2 => ?_, fun c2 => ?_⟩
        · skip
          refine ⟨fun c3 => ?_, fun c3 => ?_⟩
          · skip
            refine ⟨?_, ?_⟩
            · first | omega | (unfold xI; omega) | (unfold xJ; omega) | (exfalso; omega)
            refine ⟨?_, ?_⟩
            · first | omega | (unfold xI; omega) | (unfold xJ; omega) | (exfalso; omega)
            exact nx (by unfold isLt; omega) _ (by rw [show (if i - p ≤ 8 then (i - p).toNat else 8) = (if i + 1 - p ≤ 8 then (i + 1 - p).toNat else 8) from by split <;> split <;> omega])
          · skip
            refine ⟨?_, ?_⟩
            · first | omega | (unfold xI; omega) | (unfold xJ; omega) | (exfalso; omega)
            refine ⟨?_, ?_⟩
            · first | omega | (unfold xI; omega) | (unfold xJ; omega) | (exfalso; omega)
            refine ⟨?_, ?_⟩
            · first | omega | (unfold xI; omega) | (unfold xJ; omega) | (exfalso; omega)
            refine ⟨?_, ?_⟩
            · first | omega | (unfold xI; omega) | (unfold xJ; omega) | (exfalso; omega)
            refine ⟨?_, ?_⟩
            · first | omega | (unfold xI; omega) | (unfold xJ; omega) | (exfalso; omega)
            refine ⟨?_, ?_⟩
            · first | omega | (unfold xI; omega) | (unfold xJ; omega) | (exfalso; omega)
            have q : isLt (t i) := by
              unfold isLt
              omega
            refine nx q _ ?_
            rw [if_pos (by omega), if_pos (by omega), show (i + 1 - p).toNat = (i - p).toNat + 1 by omega]
            show _ = 64 * enV t p (i - p).toNat + t (p + ((i - p).toNat : Int)) - 64
            rw [show p + ((i - p).toNat : Int) = i by omega, eb q]
        · skip
          exact fin (fun q => by unfold isLt at q; omega)
  -- digits
  have k232 : ∀ (k : Nat) (i : Int) (h : XH), i + k = n → p ≤ i → p < n → nxF H h → h 67 25 = i → h 67 26 = p → h 67 27 = 2 → h 67 28 = nmF b p (i - p).toNat → isDg (t p) → (∀ j, p ≤ j → j < i → isDg (t j)) → xq X d 171 Q 232 [(0, (2, 67))] [] h := by
    have fin : ∀ (i : Int) (h : XH), p < i → i ≤ n → nxF H h → h 67 25 = i → h 67 26 = p → h 67 27 = 2 → h 67 28 = nmF b p (i - p).toNat → isDg (t p) → (∀ j, p ≤ j → j < i → isDg (t j)) → (i < n → ¬ isDg (t i)) → Q 0 h := by
      intro i h pi ii f e25 e26 e27 e28 dp ds dn
      refine hQ h f (fun q => by omega) (fun k v e pn tk => ?_)
      rw [e25, e26, e27, e28]
      rcases tk with ⟨q1, -⟩ | ⟨-, q1, q2, q3, q4, q5⟩ | ⟨q0, q1, -⟩ | ⟨q0, q1, -⟩
      · unfold isDg at dp
        unfold isLt at q1
        omega
      · have ee : i = e := by
          rcases Int.lt_trichotomy i e with z | z | z
          · exact absurd (q2 i (by omega) z) (dn (by omega))
          · exact z
          · exact absurd (ds e (by omega) z) (q3 (by omega))
        rw [← ee] at q5 ⊢
        have z := nm_nc (t := t) (f := b) (b := p) (i - p).toNat (fun j x y => by
          have w := ds j x (by omega)
          refine ⟨w, ?_⟩
          have tj := tb j (by omega) (by omega)
          unfold isDg at w
          omega)
        refine ⟨rfl, rfl, Or.inr (Or.inl ⟨q4, rfl, ?_, by omega, by omega⟩)⟩
        rw [q5]
        exact z.1
      · exact absurd dp q1
      · exact absurd dp q1
    intro k
    induction k with
    | zero =>
      intro i h hk pi pn f e25 e26 e27 e28 dp ds
      obtain ⟨r70, r24⟩ := rd h f
      refine U_171_232 (by omega) h ?_
      rw [r70, r24, e25]
      refine ⟨fun c1 => ?_, fun c1 => ?_⟩
      · skip
        exact fin i h (by omega) (by omega) f e25 e26 e27 e28 dp ds (fun q => by omega)
      · skip
        refine ⟨?_, ?_⟩
        · first | omega | (unfold xI; omega) | (unfold xJ; omega) | (exfalso; omega)
        refine ⟨fun c2 => ?_, fun c2 => ?_⟩
        · skip
          refine ⟨fun c3 => ?_, fun c3 => ?_⟩
          · skip
            refine ⟨?_, ?_⟩
            · first | omega | (unfold xI; omega) | (unfold xJ; omega) | (exfalso; omega)
            refine ⟨?_, ?_⟩
            · first | omega | (unfold xI; omega) | (unfold xJ; omega) | (exfalso; omega)
            refine ⟨?_, ?_⟩
            · first | omega | (unfold xI; omega) | (unfold xJ; omega) | (exfalso; omega)
            refine ⟨?_, ?_⟩
            · first | omega | (unfold xI; omega) | (unfold xJ; omega) | (exfalso; omega)
            refine ⟨?_, ?_⟩
            · first | omega | (unfold xI; omega) | (unfold xJ; omega) | (exfalso; omega)
            exfalso
            omega
          · skip
            refine ⟨?_, ?_⟩
            · first | omega | (unfold xI; omega) | (unfold xJ; omega) | (exfalso; omega)
            exfalso
            omega
        · skip
          exfalso
          omega
    | succ k ih =>
      intro i h hk pi pn f e25 e26 e27 e28 dp ds
      obtain ⟨r70, r24⟩ := rd h f
      have ti := tb i (by omega) (by omega)
      have z := nm_nc (t := t) (f := b) (b := p) (i - p).toNat (fun j x y => by
        have w := ds j x (by omega)
        refine ⟨w, ?_⟩
        have tj := tb j (by omega) (by omega)
        unfold isDg at w
        omega)
      have nx : isDg (t i) → ∀ v, v = nmF b p (i + 1 - p).toNat → xq X d 171 Q 232 [(0, (2, 67))] [] (xup (xup h 67 28 v) 67 25 (i + 1)) := fun q v hv => by
        refine ih (i + 1) _ (by omega) (by omega) pn (nxF_up (nxF_up f (by decide)) (by decide)) (xup_self _ _ _ _) e26 e27 hv dp (fun j x y => by
          by_cases c : j = i
          · rw [c]
            exact q
          · exact ds j x (by omega))
      have es : nmF b p (i + 1 - p).toNat = if nmF b p (i - p).toNat ≤ 99999 then 10 * nmF b p (i - p).toNat + b i - 48 else nmF b p (i - p).toNat := by
        rw [show (i + 1 - p).toNat = (i - p).toNat + 1 by omega]
        show (if nmF b p (i - p).toNat ≤ 99999 then 10 * nmF b p (i - p).toNat + b (p + ((i - p).toNat : Int)) - 48 else nmF b p (i - p).toNat) = _
        rw [show p + ((i - p).toNat : Int) = i by omega]
      refine U_171_232 (by omega) h ?_
      rw [r70, r24, e25, e28]
      refine ⟨fun c1 => ?_, fun c1 => ?_⟩
      · skip
        exfalso
        omega
      · skip
        refine ⟨?_, ?_⟩
        · first | omega | (unfold xI; omega) | (unfold xJ; omega) | (exfalso; omega)
        refine ⟨fun c2 => ?_, fun c2 => ?_⟩
        · skip
          refine ⟨fun c3 => ?_, fun c3 => ?_⟩
          · skip
            refine ⟨?_, ?_⟩
            · first | omega | (unfold xI; omega) | (unfold xJ; omega) | (exfalso; omega)
            refine ⟨?_, ?_⟩
            · first | omega | (unfold xI; omega) | (unfold xJ; omega) | (exfalso; omega)
            refine ⟨?_, ?_⟩
            · first | omega | (unfold xI; omega) | (unfold xJ; omega) | (exfalso; omega)
            refine ⟨?_, ?_⟩
            · first | omega | (unfold xI; omega) | (unfold xJ; omega) | (exfalso; omega)
            refine ⟨?_, ?_⟩
            · first | omega | (unfold xI; omega) | (unfold xJ; omega) | (exfalso; omega)
            exact nx (by unfold isDg; omega) _ (by rw [es, if_pos (by assumption)])
          · skip
            refine ⟨?_, ?_⟩
            · first | omega | (unfold xI; omega) | (unfold xJ; omega) | (exfalso; omega)
            exact nx (by unfold isDg; omega) _ (by rw [es, if_neg (by assumption)])
        · skip
          exact fin i h (by by_cases y : p = i; (· rw [y] at dp; exfalso; unfold isDg at dp; omega); omega) (by omega) f e25 e26 e27 e28 dp ds (fun _ q => by unfold isDg at q; omega)
  -- signs
  have k374 : ∀ (h : XH) (s : Int), nxF H h → h 67 25 = p + 1 → h 67 26 = p → h 67 27 = s → h 67 28 = b p → p < n → ¬ isLt (t p) → ¬ isDg (t p) → ((s = 3 ∧ ((59 ≤ b p ∧ b p ≤ 62) ∨ (40 ≤ b p ∧ b p ≤ 45) ∨ b p = 47 ∨ b p = 35)) ∨ (s = 4 ∧ ¬ ((59 ≤ b p ∧ b p ≤ 62) ∨ (40 ≤ b p ∧ b p ≤ 45) ∨ b p = 47 ∨ b p = 35))) → xq X d 171 Q 374 [(1, (0, b p)), (0, (2, 67))] [] h := by
    intro h s f e25 e26 e27 e28 pn nl nd hs
    obtain ⟨r70, r24⟩ := rd h f
    have tp := tb p (by omega) pn
    have one : ¬ ((t p = 60 ∨ t p = 62) ∧ p + 1 < n ∧ t (p + 1) = 61) → Q 0 h := fun q => by
      refine hQ h f (fun z => by omega) (fun k v e pn tk => ?_)
      rw [e25, e26, e27, e28]
      rcases tk with ⟨q1, -⟩ | ⟨q1, -⟩ | ⟨-, -, q1, -⟩ | ⟨-, -, -, q1, q2, q3⟩
      · exact absurd q1 nl
      · exact absurd q1 nd
      · exact absurd q1 q
      · exact ⟨q1.symm, rfl, tk_sg tp.1 tp.2 q2 hs⟩
    have two : ∀ u, ((t p = 60 ∨ t p = 62) ∧ p + 1 < n ∧ t (p + 1) = 61) → ((t p = 60 ∧ u = 300) ∨ (t p = 62 ∧ u = 301)) → Q 0 (xup (xup h 67 28 u) 67 25 (p + 1 + 1)) := fun u q hu => by
      refine hQ _ (nxF_up (nxF_up f (by decide)) (by decide)) (fun z => by omega) (fun k v e pn tk => ?_)
      have g25 : xup (xup h 67 28 u) 67 25 (p + 1 + 1) 67 25 = p + 1 + 1 := xup_self _ _ _ _
      have g26 : xup (xup h 67 28 u) 67 25 (p + 1 + 1) 67 26 = p := e26
      have g27 : xup (xup h 67 28 u) 67 25 (p + 1 + 1) 67 27 = s := e27
      have g28 : xup (xup h 67 28 u) 67 25 (p + 1 + 1) 67 28 = u := rfl
      rw [g25, g26, g27, g28]
      rcases tk with ⟨q1, -⟩ | ⟨q1, -⟩ | ⟨-, -, -, q1, q2, q3⟩ | ⟨-, -, q1, -⟩
      · exact absurd q1 nl
      · exact absurd q1 nd
      · exact ⟨by omega, rfl, tk_s2 tp.1 tp.2 q2 hu hs⟩
      · exact absurd q q1
    have k386 : (t p = 60 ∨ t p = 62) → xq X d 171 Q 386 [(1, (0, b p)), (0, (2, 67))] [] h := fun q => by
      have tq := fun y => tb (p + 1) (by omega) y
      refine U_171_386 (by omega) (b p) h ?_
      rw [r70, r24, e25]
      refine ⟨fun c1 => ?_, fun c1 => ?_⟩
      · skip
        exact one (fun z => by omega)
      · skip
        refine ⟨?_, ?_⟩
        · first | omega | (unfold xI; omega) | (unfold xJ; omega) | (exfalso; omega)
        refine ⟨fun c2 => ?_, fun c2 => ?_⟩
        · skip
          exact one (fun z => by have := tq z.2.1; omega)
        · skip
          refine ⟨fun c3 => ?_, fun c3 => ?_⟩
          · skip
            refine ⟨?_, ?_⟩
            · first | omega | (unfold xI; omega) | (unfold xJ; omega) | (exfalso; omega)
            have tq := tq (by omega)
            exact two _ ⟨q, by omega, by omega⟩ (by omega)
          · skip
            refine ⟨?_, ?_⟩
            · first | omega | (unfold xI; omega) | (unfold xJ; omega) | (exfalso; omega)
            have tq := tq (by omega)
            exact two _ ⟨q, by omega, by omega⟩ (by omega)
    refine U_171_374 (by omega) (b p) h ?_
    refine ⟨fun c1 => ?_, fun c1 => ?_⟩
    · skip
      exact k386 (by omega)
    · skip
      refine ⟨fun c2 => ?_, fun c2 => ?_⟩
      · skip
        exact one (fun z => by omega)
      · skip
        exact k386 (by omega)
  have k77 : ∀ h : XH, nxF H h → h 67 25 = p → h 67 26 = p → p < n → xq X d 171 Q 77 [(0, (2, 67))] [] h := by
    intro h f e25 e26 pn
    obtain ⟨r70, r24⟩ := rd h f
    have tp := tb p (by omega) pn
    have z99 := k99 (n - p).toNat p h (by omega) (Int.le_refl _) pn f e25 e26
    rw [if_pos (show p - p ≤ 8 by omega), show (p - p).toNat = 0 by omega, Int.sub_self] at z99
    have e0 : enV t p 0 = 0 := rfl
    rw [e0] at z99
    refine U_171_77 (by omega) h ?_
    rw [r70, e25]
    refine ⟨?_, ?_⟩
    · first | omega | (unfold xI; omega) | (unfold xJ; omega) | (exfalso; omega)
    refine ⟨fun c1 => ?_, fun c1 => ?_⟩
    · skip
      exact z99 (by unfold isLt; omega) (fun j x y => by omega)
    · skip
      have nl : ¬ isLt (t p) := fun q => by
        unfold isLt at q
        omega
      refine U_171_211 (by omega) (b p) h ?_
      refine ⟨fun cd1 => ?_, fun cd1 => ?_⟩
      · skip
        have z := k232 (n - p).toNat p (xup (xup h 67 27 2) 67 28 0) (by omega) (Int.le_refl _) pn (nxF_up (nxF_up f (by decide)) (by decide)) e25 e26 rfl (by rw [xup_self, show (p - p).toNat = 0 by omega]; rfl) (by unfold isDg; omega) (fun j x y => by omega)
        exact z
      · skip
        have nd : ¬ isDg (t p) := fun q => by
          unfold isDg at q
          omega
        refine U_171_316 (by omega) (b p) h ?_
        rw [e25]
        refine ⟨?_, ?_⟩
        · first | omega | (unfold xI; omega) | (unfold xJ; omega) | (exfalso; omega)
        refine ⟨fun cc1 => ?_, fun cc1 => ?_⟩
        · skip
          exact k374 _ _ (nxF_up (nxF_up (nxF_up f (by decide)) (by decide)) (by decide)) rfl e26 (xup_self _ _ _ _) rfl pn nl nd (by omega)
        · skip
          refine ⟨fun cc2 => ?_, fun cc2 => ?_⟩
          · skip
            exact k374 _ _ (nxF_up (nxF_up (nxF_up f (by decide)) (by decide)) (by decide)) rfl e26 (xup_self _ _ _ _) rfl pn nl nd (by omega)
          · skip
            refine ⟨fun cc3 => ?_, fun cc3 => ?_⟩
            · skip
              exact k374 _ _ (nxF_up (nxF_up (nxF_up f (by decide)) (by decide)) (by decide)) rfl e26 (xup_self _ _ _ _) rfl pn nl nd (by omega)
            · skip
              refine ⟨fun cc4 => ?_, fun cc4 => ?_⟩
              · skip
                exact k374 _ _ (nxF_up (nxF_up (nxF_up f (by decide)) (by decide)) (by decide)) rfl e26 (xup_self _ _ _ _) rfl pn nl nd (by omega)
              · skip
                exact k374 _ _ (nxF_up (nxF_up (nxF_up f (by decide)) (by decide)) (by decide)) rfl e26 (xup_self _ _ _ _) rfl pn nl nd (by omega)
  have k52 : ∀ h : XH, nxF H h → h 67 25 = p → xq X d 171 Q 52 [(0, (2, 67))] [] h := by
    intro h f e25
    obtain ⟨r70, r24⟩ := rd h f
    refine U_171_52 (by omega) h ?_
    rw [r24, e25]
    refine ⟨fun c1 => ?_, fun c1 => ?_⟩
    · skip
      exact k77 _ (nxF_up f (by decide)) e25 (xup_self _ _ _ _) (by omega)
    · skip
      exact hQ _ (nxF_up (nxF_up f (by decide)) (by decide)) (fun q => ⟨by show h 67 25 = n; omega, by show p = n; omega, rfl⟩) (fun k v e q => by omega)
  have k0 : ∀ (k : Nat) (i : Int) (h : XH), i + k = p → a ≤ i → nxF H h → h 67 25 = i → xq X d 171 Q 0 [(0, (2, 67))] [] h := by
    intro k
    induction k with
    | zero =>
      intro i h hk ai f e25
      obtain ⟨r70, r24⟩ := rd h f
      have z := k52 h f (by omega)
      have tp := fun y => tb p (by omega) y
      refine U_171_0 (by omega) h ?_
      rw [r70, r24, e25]
      refine ⟨fun c1 => ?_, fun c1 => ?_⟩
      · skip
        exact z
      · skip
        refine ⟨?_, ?_⟩
        · first | omega | (unfold xI; omega) | (unfold xJ; omega) | (exfalso; omega)
        refine ⟨fun c2 => ?_, fun c2 => ?_⟩
        · skip
          refine ⟨?_, ?_⟩
          · first | omega | (unfold xI; omega) | (unfold xJ; omega) | (exfalso; omega)
          exfalso
          rw [show i = p by omega] at *
          have tp := tp (by omega)
          have hp := hp (by omega)
          omega
        · skip
          refine ⟨?_, ?_⟩
          · first | omega | (unfold xI; omega) | (unfold xJ; omega) | (exfalso; omega)
          refine ⟨fun c3 => ?_, fun c3 => ?_⟩
          · skip
            exact z
          · skip
            refine ⟨?_, ?_⟩
            · first | omega | (unfold xI; omega) | (unfold xJ; omega) | (exfalso; omega)
            exfalso
            rw [show i = p by omega] at *
            have tp := tp (by omega)
            have hp := hp (by omega)
            omega
    | succ k ih =>
      intro i h hk ai f e25
      obtain ⟨r70, r24⟩ := rd h f
      have ti := tb i (by omega) (by omega)
      have bi := hbl i ai (by omega)
      have z := ih (i + 1) (xup h 67 25 (i + 1)) (by omega) (by omega) (nxF_up f (by decide)) (xup_self _ _ _ _)
      refine U_171_0 (by omega) h ?_
      rw [r70, r24, e25]
      refine ⟨fun c1 => ?_, fun c1 => ?_⟩
      · skip
        exfalso
        omega
      · skip
        refine ⟨?_, ?_⟩
        · first | omega | (unfold xI; omega) | (unfold xJ; omega) | (exfalso; omega)
        refine ⟨fun c2 => ?_, fun c2 => ?_⟩
        · skip
          refine ⟨?_, ?_⟩
          · first | omega | (unfold xI; omega) | (unfold xJ; omega) | (exfalso; omega)
          exact z
        · skip
          refine ⟨?_, ?_⟩
          · first | omega | (unfold xI; omega) | (unfold xJ; omega) | (exfalso; omega)
          refine ⟨fun c3 => ?_, fun c3 => ?_⟩
          · skip
            exfalso
            omega
          · skip
            refine ⟨?_, ?_⟩
            · first | omega | (unfold xI; omega) | (unfold xJ; omega) | (exfalso; omega)
            exact z
  refine U_171 (by omega) H ?_
  exact k0 (p - a).toNat a H (by omega) (Int.le_refl _) (nxF_refl H) h25
