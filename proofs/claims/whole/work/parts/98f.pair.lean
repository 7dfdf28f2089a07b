/-! THE PURE LAYER 73: held: the pair -/
set_option maxRecDepth 8000 in
theorem U_239 {X : Int × (Int → Int)} {d : Nat} {Q : Int → XH → Prop} (hd : 2 ≤ d) (s b : Int) (H : XH) (h : ((((0 ≤ s ∧ s ≤ 3)) → ((((0 ≤ b ∧ b ≤ 2)) → (xc X d 238 [(2, 67), (0, s)] H (fun (J2385 : Int) (h2384 : XH) => ((¬ b = 0) → xq X d 239 Q 64 [(0, (2, 67)), (2, (0, b)), (3, (0, 0)), (4, (0, 0)), (5, (0, 0)), (6, (0, 0))] [] h2384) ∧ (¬ (¬ b = 0) → Q (h2384 97 0) h2384)))) ∧ (¬ ((0 ≤ b ∧ b ≤ 2)) → ((b < 100) → Q (-1) H) ∧ (¬ (b < 100) → (xI (b - 100)) ∧ (0 ≤ H 68 1 ∧ H 68 1 ≤ 8) ∧ ((((0 ≤ b - 100 ∧ b - 100 < H 68 1)) → (xc X d 238 [(2, 67), (0, s)] H (fun (J2387 : Int) (h2386 : XH) => ((¬ b = 0) → xq X d 239 Q 64 [(0, (2, 67)), (2, (0, b)), (3, (0, 0)), (4, (0, 0)), (5, (0, 0)), (6, (0, 0))] [] h2386) ∧ (¬ (¬ b = 0) → Q (h2386 97 0) h2386)))) ∧ (¬ ((0 ≤ b - 100 ∧ b - 100 < H 68 1)) → Q (-1) H)))))) ∧ (¬ ((0 ≤ s ∧ s ≤ 3)) → Q (-1) H))) : xc X (d + 1) 239 [(2, 67), (0, s), (0, b)] H Q := by
  refine ⟨rfl, ?_⟩
  show xq X d 239 Q 100000 [(0, (2, 67)), (1, (0, s)), (2, (0, b))] [] H
  refine xq_run [6, 15, 32, 42, 64] 300 ?_
  show xWM (xE X) xMC d 23 [(0, s), (0, 0), (0, 3)] xKZ H _
  refine xc_in (s_23 (by omega) s 0 3 H  ?_)
  replace h := h
  show xq X d 239 Q 6 [(0, (2, 67)), (1, (0, s)), (2, (0, b))] [(0, xb (0 ≤ s ∧ s ≤ 3))] H
  refine xq_run [6, 15, 32, 42, 64] 300 ?_
  show ((xb (0 ≤ s ∧ s ≤ 3) = 0) → xfR 0 (-1) ∧ xKZ = xKZ ∧ Q (-1) H) ∧ (¬ (xb (0 ≤ s ∧ s ≤ 3) = 0) → xWM (xE X) xMC d 23 [(0, b), (0, 0), (0, 2)] xKZ H _)
  refine ⟨fun k_ => ?_, fun k_ => ?_⟩
  · replace h := h.2 (xbe_0.mp k_)
    exact ⟨trivial, rfl, h⟩
  · replace h := h.1 (xbe_1.mp k_)
    refine xc_in (s_23 (by omega) b 0 2 H  ?_)
    replace h := h
    show xq X d 239 Q 15 [(0, (2, 67)), (1, (0, s)), (2, (0, b))] [(0, xb (0 ≤ b ∧ b ≤ 2))] H
    refine xq_run [6, 15, 32, 42, 64] 300 ?_
    show ((¬ xb (0 ≤ b ∧ b ≤ 2) = 0) → xWM (xE X) xMC d 238 [(2, 67), (0, s)] xKZ H _) ∧ (¬ (¬ xb (0 ≤ b ∧ b ≤ 2) = 0) → ((b < 100) → xfR 0 (-1) ∧ xKZ = xKZ ∧ Q (-1) H) ∧ (¬ (b < 100) → (xI (b - 100)) ∧ xWM (xE X) xMC d 63 [(2, 67), (0, b - 100)] xKZ H _))
    refine ⟨fun k_ => ?_, fun k_ => ?_⟩
    · replace h := h.1 (xbe_1.mp k_)
      refine xc_in (xc_mono (fun J2385 h2384 q_ => ?_) h)
      replace h := q_
      show xq X d 239 Q 42 [(0, (2, 67)), (1, (0, s)), (2, (0, b))] [] h2384
      refine xq_run [6, 15, 32, 42, 64] 300 ?_
      show ((¬ b = 0) → xq X d 239 Q 64 [(0, (2, 67)), (2, (0, b)), (3, (0, 0)), (4, (0, 0)), (5, (0, 0)), (6, (0, 0))] [] h2384) ∧ (¬ (¬ b = 0) → ((0 : Int) ≤ 0 ∧ (0 : Int) < 81) ∧ xfR 0 (h2384 97 0) ∧ xKZ = xKZ ∧ Q (h2384 97 0) h2384)
      refine ⟨fun k_ => ?_, fun k_ => ?_⟩
      · replace h := h.1 k_
        exact h
      · replace h := h.2 k_
        refine ⟨⟨by decide, by decide⟩, ?_⟩
        exact ⟨trivial, rfl, h⟩
    · replace h := h.2 (xbe_n.mp k_)
      refine ⟨fun k_ => ?_, fun k_ => ?_⟩
      · replace h := h.1 k_
        exact ⟨trivial, rfl, h⟩
      · replace h := h.2 k_
        refine ⟨h.1, ?_⟩
        replace h := h.2
        refine xc_in (s_63 (by omega) (b - 100) H (h.1) ?_)
        replace h := h.2
        show xq X d 239 Q 32 [(0, (2, 67)), (1, (0, s)), (2, (0, b))] [(0, xb (0 ≤ b - 100 ∧ b - 100 < H 68 1))] H
        refine xq_run [6, 15, 32, 42, 64] 300 ?_
        show ((¬ xb (0 ≤ b - 100 ∧ b - 100 < H 68 1) = 0) → xWM (xE X) xMC d 238 [(2, 67), (0, s)] xKZ H _) ∧ (¬ (¬ xb (0 ≤ b - 100 ∧ b - 100 < H 68 1) = 0) → xfR 0 (-1) ∧ xKZ = xKZ ∧ Q (-1) H)
        refine ⟨fun k_ => ?_, fun k_ => ?_⟩
        · replace h := h.1 (xbe_1.mp k_)
          refine xc_in (xc_mono (fun J2387 h2386 q_ => ?_) h)
          replace h := q_
          show xq X d 239 Q 42 [(0, (2, 67)), (1, (0, s)), (2, (0, b))] [] h2386
          refine xq_run [6, 15, 32, 42, 64] 300 ?_
          show ((¬ b = 0) → xq X d 239 Q 64 [(0, (2, 67)), (2, (0, b)), (3, (0, 0)), (4, (0, 0)), (5, (0, 0)), (6, (0, 0))] [] h2386) ∧ (¬ (¬ b = 0) → ((0 : Int) ≤ 0 ∧ (0 : Int) < 81) ∧ xfR 0 (h2386 97 0) ∧ xKZ = xKZ ∧ Q (h2386 97 0) h2386)
          refine ⟨fun k_ => ?_, fun k_ => ?_⟩
          · replace h := h.1 k_
            exact h
          · replace h := h.2 k_
            refine ⟨⟨by decide, by decide⟩, ?_⟩
            exact ⟨trivial, rfl, h⟩
        · replace h := h.2 (xbe_n.mp k_)
          exact ⟨trivial, rfl, h⟩
set_option maxRecDepth 8000 in
theorem U_239_64 {X : Int × (Int → Int)} {d : Nat} {Q : Int → XH → Prop} (hd : 0 ≤ d) (v2 v3 v4 v5 v6 : Int) (H : XH) (h : ((v3 < H 67 47) → (xI (9 * v3)) ∧ (xI ((9 * v3) + v4)) ∧ ((0 : Int) ≤ (9 * v3) + v4 ∧ ((9 * v3) + v4 : Int) < 81) ∧ ((H 67 47 ≤ v3) → ((H 67 47 ≤ v3) → (xI (v6 + 1)) ∧ (xI (v4 + 1)) ∧ xq X d 239 Q 64 [(0, (2, 67)), (2, (0, v2)), (3, (0, v3)), (4, (0, v4 + 1)), (5, (0, v5)), (6, (0, v6 + 1))] [] H) ∧ (¬ (H 67 47 ≤ v3) → (xI (9 * v3)) ∧ (xI ((9 * v3) + 9)) ∧ (xI (((9 * v3) + 9) + v4)) ∧ ((0 : Int) ≤ ((9 * v3) + 9) + v4 ∧ (((9 * v3) + 9) + v4 : Int) < 81) ∧ (xI ((H 68 9) + (H 97 (((9 * v3) + 9) + v4)))) ∧ ((¬ H 97 ((9 * v3) + v4) = (H 68 9) + (H 97 (((9 * v3) + 9) + v4))) → (xI (v6 + 1)) ∧ (xI (v4 + 1)) ∧ xq X d 239 Q 64 [(0, (2, 67)), (2, (0, v2)), (3, (0, v3)), (4, (0, v4 + 1)), (5, (0, v5)), (6, (0, v6 + 1))] [] H) ∧ (¬ (¬ H 97 ((9 * v3) + v4) = (H 68 9) + (H 97 (((9 * v3) + 9) + v4))) → (xI (v5 + 1)) ∧ (xI (v3 + 1)) ∧ xq X d 239 Q 64 [(0, (2, 67)), (2, (0, v2)), (3, (0, v3 + 1)), (4, (0, v4)), (5, (0, v5 + 1)), (6, (0, v6))] [] H))) ∧ (¬ (H 67 47 ≤ v3) → ((H 68 1 ≤ v4) → ((H 67 47 ≤ v3) → (xI (v6 + 1)) ∧ (xI (v4 + 1)) ∧ xq X d 239 Q 64 [(0, (2, 67)), (2, (0, v2)), (3, (0, v3)), (4, (0, v4 + 1)), (5, (0, v5)), (6, (0, v6 + 1))] [] H) ∧ (¬ (H 67 47 ≤ v3) → (xI (9 * v3)) ∧ (xI ((9 * v3) + 9)) ∧ (xI (((9 * v3) + 9) + v4)) ∧ ((0 : Int) ≤ ((9 * v3) + 9) + v4 ∧ (((9 * v3) + 9) + v4 : Int) < 81) ∧ (xI ((H 68 9) + (H 97 (((9 * v3) + 9) + v4)))) ∧ ((¬ H 97 ((9 * v3) + v4) = (H 68 9) + (H 97 (((9 * v3) + 9) + v4))) → (xI (v6 + 1)) ∧ (xI (v4 + 1)) ∧ xq X d 239 Q 64 [(0, (2, 67)), (2, (0, v2)), (3, (0, v3)), (4, (0, v4 + 1)), (5, (0, v5)), (6, (0, v6 + 1))] [] H) ∧ (¬ (¬ H 97 ((9 * v3) + v4) = (H 68 9) + (H 97 (((9 * v3) + 9) + v4))) → (xI (v5 + 1)) ∧ (xI (v3 + 1)) ∧ xq X d 239 Q 64 [(0, (2, 67)), (2, (0, v2)), (3, (0, v3 + 1)), (4, (0, v4)), (5, (0, v5 + 1)), (6, (0, v6))] [] H))) ∧ (¬ (H 68 1 ≤ v4) → (xI (8 * v3)) ∧ (xI ((8 * v3) + v4)) ∧ ((0 : Int) ≤ (8 * v3) + v4 ∧ ((8 * v3) + v4 : Int) < 64) ∧ (xI (9 * v3)) ∧ (xI ((9 * v3) + 9)) ∧ (xI (((9 * v3) + 9) + v4)) ∧ (xI ((((9 * v3) + 9) + v4) + 1)) ∧ ((0 : Int) ≤ (((9 * v3) + 9) + v4) + 1 ∧ ((((9 * v3) + 9) + v4) + 1 : Int) < 81) ∧ (xI ((H 98 ((8 * v3) + v4)) + (H 97 ((((9 * v3) + 9) + v4) + 1)))) ∧ ((¬ H 97 ((9 * v3) + v4) = (H 98 ((8 * v3) + v4)) + (H 97 ((((9 * v3) + 9) + v4) + 1))) → ((H 67 47 ≤ v3) → (xI (v6 + 1)) ∧ (xI (v4 + 1)) ∧ xq X d 239 Q 64 [(0, (2, 67)), (2, (0, v2)), (3, (0, v3)), (4, (0, v4 + 1)), (5, (0, v5)), (6, (0, v6 + 1))] [] H) ∧ (¬ (H 67 47 ≤ v3) → (xI (9 * v3)) ∧ (xI ((9 * v3) + 9)) ∧ (xI (((9 * v3) + 9) + v4)) ∧ ((0 : Int) ≤ ((9 * v3) + 9) + v4 ∧ (((9 * v3) + 9) + v4 : Int) < 81) ∧ (xI ((H 68 9) + (H 97 (((9 * v3) + 9) + v4)))) ∧ ((¬ H 97 ((9 * v3) + v4) = (H 68 9) + (H 97 (((9 * v3) + 9) + v4))) → (xI (v6 + 1)) ∧ (xI (v4 + 1)) ∧ xq X d 239 Q 64 [(0, (2, 67)), (2, (0, v2)), (3, (0, v3)), (4, (0, v4 + 1)), (5, (0, v5)), (6, (0, v6 + 1))] [] H) ∧ (¬ (¬ H 97 ((9 * v3) + v4) = (H 68 9) + (H 97 (((9 * v3) + 9) + v4))) → (xI (v5 + 1)) ∧ (xI (v3 + 1)) ∧ xq X d 239 Q 64 [(0, (2, 67)), (2, (0, v2)), (3, (0, v3 + 1)), (4, (0, v4)), (5, (0, v5 + 1)), (6, (0, v6))] [] H))) ∧ (¬ (¬ H 97 ((9 * v3) + v4) = (H 98 ((8 * v3) + v4)) + (H 97 ((((9 * v3) + 9) + v4) + 1))) → (xI (100 + v4)) ∧ ((¬ v2 = 100 + v4) → (xI (v3 + 1)) ∧ (xI (v4 + 1)) ∧ xq X d 239 Q 64 [(0, (2, 67)), (2, (0, v2)), (3, (0, v3 + 1)), (4, (0, v4 + 1)), (5, (0, v5)), (6, (0, v6))] [] H) ∧ (¬ (¬ v2 = 100 + v4) → Q v3 H))))) ∧ (¬ (v3 < H 67 47) → ((H 68 1 ≤ v4) → ((¬ v2 = 1) → ((¬ v2 = 2) → Q (-1) H) ∧ (¬ (¬ v2 = 2) → Q v6 H)) ∧ (¬ (¬ v2 = 1) → Q v5 H)) ∧ (¬ (H 68 1 ≤ v4) → (xI (9 * v3)) ∧ (xI ((9 * v3) + v4)) ∧ ((0 : Int) ≤ (9 * v3) + v4 ∧ ((9 * v3) + v4 : Int) < 81) ∧ ((H 67 47 ≤ v3) → ((H 67 47 ≤ v3) → (xI (v6 + 1)) ∧ (xI (v4 + 1)) ∧ xq X d 239 Q 64 [(0, (2, 67)), (2, (0, v2)), (3, (0, v3)), (4, (0, v4 + 1)), (5, (0, v5)), (6, (0, v6 + 1))] [] H) ∧ (¬ (H 67 47 ≤ v3) → (xI (9 * v3)) ∧ (xI ((9 * v3) + 9)) ∧ (xI (((9 * v3) + 9) + v4)) ∧ ((0 : Int) ≤ ((9 * v3) + 9) + v4 ∧ (((9 * v3) + 9) + v4 : Int) < 81) ∧ (xI ((H 68 9) + (H 97 (((9 * v3) + 9) + v4)))) ∧ ((¬ H 97 ((9 * v3) + v4) = (H 68 9) + (H 97 (((9 * v3) + 9) + v4))) → (xI (v6 + 1)) ∧ (xI (v4 + 1)) ∧ xq X d 239 Q 64 [(0, (2, 67)), (2, (0, v2)), (3, (0, v3)), (4, (0, v4 + 1)), (5, (0, v5)), (6, (0, v6 + 1))] [] H) ∧ (¬ (¬ H 97 ((9 * v3) + v4) = (H 68 9) + (H 97 (((9 * v3) + 9) + v4))) → (xI (v5 + 1)) ∧ (xI (v3 + 1)) ∧ xq X d 239 Q 64 [(0, (2, 67)), (2, (0, v2)), (3, (0, v3 + 1)), (4, (0, v4)), (5, (0, v5 + 1)), (6, (0, v6))] [] H))) ∧ (¬ (H 67 47 ≤ v3) → ((H 68 1 ≤ v4) → ((H 67 47 ≤ v3) → (xI (v6 + 1)) ∧ (xI (v4 + 1)) ∧ xq X d 239 Q 64 [(0, (2, 67)), (2, (0, v2)), (3, (0, v3)), (4, (0, v4 + 1)), (5, (0, v5)), (6, (0, v6 + 1))] [] H) ∧ (¬ (H 67 47 ≤ v3) → (xI (9 * v3)) ∧ (xI ((9 * v3) + 9)) ∧ (xI (((9 * v3) + 9) + v4)) ∧ ((0 : Int) ≤ ((9 * v3) + 9) + v4 ∧ (((9 * v3) + 9) + v4 : Int) < 81) ∧ (xI ((H 68 9) + (H 97 (((9 * v3) + 9) + v4)))) ∧ ((¬ H 97 ((9 * v3) + v4) = (H 68 9) + (H 97 (((9 * v3) + 9) + v4))) → (xI (v6 + 1)) ∧ (xI (v4 + 1)) ∧ xq X d 239 Q 64 [(0, (2, 67)), (2, (0, v2)), (3, (0, v3)), (4, (0, v4 + 1)), (5, (0, v5)), (6, (0, v6 + 1))] [] H) ∧ (¬ (¬ H 97 ((9 * v3) + v4) = (H 68 9) + (H 97 (((9 * v3) + 9) + v4))) → (xI (v5 + 1)) ∧ (xI (v3 + 1)) ∧ xq X d 239 Q 64 [(0, (2, 67)), (2, (0, v2)), (3, (0, v3 + 1)), (4, (0, v4)), (5, (0, v5 + 1)), (6, (0, v6))] [] H))) ∧ (¬ (H 68 1 ≤ v4) → (xI (8 * v3)) ∧ (xI ((8 * v3) + v4)) ∧ ((0 : Int) ≤ (8 * v3) + v4 ∧ ((8 * v3) + v4 : Int) < 64) ∧ (xI (9 * v3)) ∧ (xI ((9 * v3) + 9)) ∧ (xI (((9 * v3) + 9) + v4)) ∧ (xI ((((9 * v3) + 9) + v4) + 1)) ∧ ((0 : Int) ≤ (((9 * v3) + 9) + v4) + 1 ∧ ((((9 * v3) + 9) + v4) + 1 : Int) < 81) ∧ (xI ((H 98 ((8 * v3) + v4)) + (H 97 ((((9 * v3) + 9) + v4) + 1)))) ∧ ((¬ H 97 ((9 * v3) + v4) = (H 98 ((8 * v3) + v4)) + (H 97 ((((9 * v3) + 9) + v4) + 1))) → ((H 67 47 ≤ v3) → (xI (v6 + 1)) ∧ (xI (v4 + 1)) ∧ xq X d 239 Q 64 [(0, (2, 67)), (2, (0, v2)), (3, (0, v3)), (4, (0, v4 + 1)), (5, (0, v5)), (6, (0, v6 + 1))] [] H) ∧ (¬ (H 67 47 ≤ v3) → (xI (9 * v3)) ∧ (xI ((9 * v3) + 9)) ∧ (xI (((9 * v3) + 9) + v4)) ∧ ((0 : Int) ≤ ((9 * v3) + 9) + v4 ∧ (((9 * v3) + 9) + v4 : Int) < 81) ∧ (xI ((H 68 9) + (H 97 (((9 * v3) + 9) + v4)))) ∧ ((¬ H 97 ((9 * v3) + v4) = (H 68 9) + (H 97 (((9 * v3) + 9) + v4))) → (xI (v6 + 1)) ∧ (xI (v4 + 1)) ∧ xq X d 239 Q 64 [(0, (2, 67)), (2, (0, v2)), (3, (0, v3)), (4, (0, v4 + 1)), (5, (0, v5)), (6, (0, v6 + 1))] [] H) ∧ (¬ (¬ H 97 ((9 * v3) + v4) = (H 68 9) + (H 97 (((9 * v3) + 9) + v4))) → (xI (v5 + 1)) ∧ (xI (v3 + 1)) ∧ xq X d 239 Q 64 [(0, (2, 67)), (2, (0, v2)), (3, (0, v3 + 1)), (4, (0, v4)), (5, (0, v5 + 1)), (6, (0, v6))] [] H))) ∧ (¬ (¬ H 97 ((9 * v3) + v4) = (H 98 ((8 * v3) + v4)) + (H 97 ((((9 * v3) + 9) + v4) + 1))) → (xI (100 + v4)) ∧ ((¬ v2 = 100 + v4) → (xI (v3 + 1)) ∧ (xI (v4 + 1)) ∧ xq X d 239 Q 64 [(0, (2, 67)), (2, (0, v2)), (3, (0, v3 + 1)), (4, (0, v4 + 1)), (5, (0, v5)), (6, (0, v6))] [] H) ∧ (¬ (¬ v2 = 100 + v4) → Q v3 H))))))) : xq X d 239 Q 64 [(0, (2, 67)), (2, (0, v2)), (3, (0, v3)), (4, (0, v4)), (5, (0, v5)), (6, (0, v6))] [] H := by
  show xq X d 239 Q 64 [(0, (2, 67)), (2, (0, v2)), (3, (0, v3)), (4, (0, v4)), (5, (0, v5)), (6, (0, v6))] [] H
  refine xq_run [6, 15, 32, 42, 64] 300 ?_
  show ((v3 < H 67 47) → (xI (9 * v3)) ∧ (xI ((9 * v3) + v4)) ∧ ((0 : Int) ≤ (9 * v3) + v4 ∧ ((9 * v3) + v4 : Int) < 81) ∧ ((H 67 47 ≤ v3) → ((H 67 47 ≤ v3) → (xI (v6 + 1)) ∧ (xI (v4 + 1)) ∧ xq X d 239 Q 64 [(0, (2, 67)), (2, (0, v2)), (3, (0, v3)), (4, (0, v4 + 1)), (5, (0, v5)), (6, (0, v6 + 1))] [] H) ∧ (¬ (H 67 47 ≤ v3) → ((0 : Int) ≤ 9 ∧ (9 : Int) < 1180) ∧ (xI (9 * v3)) ∧ (xI ((9 * v3) + 9)) ∧ (xI (((9 * v3) + 9) + v4)) ∧ ((0 : Int) ≤ ((9 * v3) + 9) + v4 ∧ (((9 * v3) + 9) + v4 : Int) < 81) ∧ (xI ((H 68 9) + (H 97 (((9 * v3) + 9) + v4)))) ∧ ((¬ H 97 ((9 * v3) + v4) = (H 68 9) + (H 97 (((9 * v3) + 9) + v4))) → (xI (v6 + 1)) ∧ (xI (v4 + 1)) ∧ xq X d 239 Q 64 [(0, (2, 67)), (2, (0, v2)), (3, (0, v3)), (4, (0, v4 + 1)), (5, (0, v5)), (6, (0, v6 + 1))] [] H) ∧ (¬ (¬ H 97 ((9 * v3) + v4) = (H 68 9) + (H 97 (((9 * v3) + 9) + v4))) → (xI (v5 + 1)) ∧ (xI (v3 + 1)) ∧ xq X d 239 Q 64 [(0, (2, 67)), (2, (0, v2)), (3, (0, v3 + 1)), (4, (0, v4)), (5, (0, v5 + 1)), (6, (0, v6))] [] H))) ∧ (¬ (H 67 47 ≤ v3) → ((0 : Int) ≤ 1 ∧ (1 : Int) < 1180) ∧ ((H 68 1 ≤ v4) → ((H 67 47 ≤ v3) → (xI (v6 + 1)) ∧ (xI (v4 + 1)) ∧ xq X d 239 Q 64 [(0, (2, 67)), (2, (0, v2)), (3, (0, v3)), (4, (0, v4 + 1)), (5, (0, v5)), (6, (0, v6 + 1))] [] H) ∧ (¬ (H 67 47 ≤ v3) → ((0 : Int) ≤ 9 ∧ (9 : Int) < 1180) ∧ (xI (9 * v3)) ∧ (xI ((9 * v3) + 9)) ∧ (xI (((9 * v3) + 9) + v4)) ∧ ((0 : Int) ≤ ((9 * v3) + 9) + v4 ∧ (((9 * v3) + 9) + v4 : Int) < 81) ∧ (xI ((H 68 9) + (H 97 (((9 * v3) + 9) + v4)))) ∧ ((¬ H 97 ((9 * v3) + v4) = (H 68 9) + (H 97 (((9 * v3) + 9) + v4))) → (xI (v6 + 1)) ∧ (xI (v4 + 1)) ∧ xq X d 239 Q 64 [(0, (2, 67)), (2, (0, v2)), (3, (0, v3)), (4, (0, v4 + 1)), (5, (0, v5)), (6, (0, v6 + 1))] [] H) ∧ (¬ (¬ H 97 ((9 * v3) + v4) = (H 68 9) + (H 97 (((9 * v3) + 9) + v4))) → (xI (v5 + 1)) ∧ (xI (v3 + 1)) ∧ xq X d 239 Q 64 [(0, (2, 67)), (2, (0, v2)), (3, (0, v3 + 1)), (4, (0, v4)), (5, (0, v5 + 1)), (6, (0, v6))] [] H))) ∧ (¬ (H 68 1 ≤ v4) → (xI (8 * v3)) ∧ (xI ((8 * v3) + v4)) ∧ ((0 : Int) ≤ (8 * v3) + v4 ∧ ((8 * v3) + v4 : Int) < 64) ∧ (xI (9 * v3)) ∧ (xI ((9 * v3) + 9)) ∧ (xI (((9 * v3) + 9) + v4)) ∧ (xI ((((9 * v3) + 9) + v4) + 1)) ∧ ((0 : Int) ≤ (((9 * v3) + 9) + v4) + 1 ∧ ((((9 * v3) + 9) + v4) + 1 : Int) < 81) ∧ (xI ((H 98 ((8 * v3) + v4)) + (H 97 ((((9 * v3) + 9) + v4) + 1)))) ∧ ((¬ H 97 ((9 * v3) + v4) = (H 98 ((8 * v3) + v4)) + (H 97 ((((9 * v3) + 9) + v4) + 1))) → ((H 67 47 ≤ v3) → (xI (v6 + 1)) ∧ (xI (v4 + 1)) ∧ xq X d 239 Q 64 [(0, (2, 67)), (2, (0, v2)), (3, (0, v3)), (4, (0, v4 + 1)), (5, (0, v5)), (6, (0, v6 + 1))] [] H) ∧ (¬ (H 67 47 ≤ v3) → ((0 : Int) ≤ 9 ∧ (9 : Int) < 1180) ∧ (xI (9 * v3)) ∧ (xI ((9 * v3) + 9)) ∧ (xI (((9 * v3) + 9) + v4)) ∧ ((0 : Int) ≤ ((9 * v3) + 9) + v4 ∧ (((9 * v3) + 9) + v4 : Int) < 81) ∧ (xI ((H 68 9) + (H 97 (((9 * v3) + 9) + v4)))) ∧ ((¬ H 97 ((9 * v3) + v4) = (H 68 9) + (H 97 (((9 * v3) + 9) + v4))) → (xI (v6 + 1)) ∧ (xI (v4 + 1)) ∧ xq X d 239 Q 64 [(0, (2, 67)), (2, (0, v2)), (3, (0, v3)), (4, (0, v4 + 1)), (5, (0, v5)), (6, (0, v6 + 1))] [] H) ∧ (¬ (¬ H 97 ((9 * v3) + v4) = (H 68 9) + (H 97 (((9 * v3) + 9) + v4))) → (xI (v5 + 1)) ∧ (xI (v3 + 1)) ∧ xq X d 239 Q 64 [(0, (2, 67)), (2, (0, v2)), (3, (0, v3 + 1)), (4, (0, v4)), (5, (0, v5 + 1)), (6, (0, v6))] [] H))) ∧ (¬ (¬ H 97 ((9 * v3) + v4) = (H 98 ((8 * v3) + v4)) + (H 97 ((((9 * v3) + 9) + v4) + 1))) → (xI (100 + v4)) ∧ ((¬ v2 = 100 + v4) → (xI (v3 + 1)) ∧ (xI (v4 + 1)) ∧ xq X d 239 Q 64 [(0, (2, 67)), (2, (0, v2)), (3, (0, v3 + 1)), (4, (0, v4 + 1)), (5, (0, v5)), (6, (0, v6))] [] H) ∧ (¬ (¬ v2 = 100 + v4) → xfR 0 v3 ∧ xKZ = xKZ ∧ Q v3 H))))) ∧ (¬ (v3 < H 67 47) → ((0 : Int) ≤ 1 ∧ (1 : Int) < 1180) ∧ ((H 68 1 ≤ v4) → ((¬ v2 = 1) → ((¬ v2 = 2) → xfR 0 (-1) ∧ xKZ = xKZ ∧ Q (-1) H) ∧ (¬ (¬ v2 = 2) → xfR 0 v6 ∧ xKZ = xKZ ∧ Q v6 H)) ∧ (¬ (¬ v2 = 1) → xfR 0 v5 ∧ xKZ = xKZ ∧ Q v5 H)) ∧ (¬ (H 68 1 ≤ v4) → (xI (9 * v3)) ∧ (xI ((9 * v3) + v4)) ∧ ((0 : Int) ≤ (9 * v3) + v4 ∧ ((9 * v3) + v4 : Int) < 81) ∧ ((H 67 47 ≤ v3) → ((H 67 47 ≤ v3) → (xI (v6 + 1)) ∧ (xI (v4 + 1)) ∧ xq X d 239 Q 64 [(0, (2, 67)), (2, (0, v2)), (3, (0, v3)), (4, (0, v4 + 1)), (5, (0, v5)), (6, (0, v6 + 1))] [] H) ∧ (¬ (H 67 47 ≤ v3) → ((0 : Int) ≤ 9 ∧ (9 : Int) < 1180) ∧ (xI (9 * v3)) ∧ (xI ((9 * v3) + 9)) ∧ (xI (((9 * v3) + 9) + v4)) ∧ ((0 : Int) ≤ ((9 * v3) + 9) + v4 ∧ (((9 * v3) + 9) + v4 : Int) < 81) ∧ (xI ((H 68 9) + (H 97 (((9 * v3) + 9) + v4)))) ∧ ((¬ H 97 ((9 * v3) + v4) = (H 68 9) + (H 97 (((9 * v3) + 9) + v4))) → (xI (v6 + 1)) ∧ (xI (v4 + 1)) ∧ xq X d 239 Q 64 [(0, (2, 67)), (2, (0, v2)), (3, (0, v3)), (4, (0, v4 + 1)), (5, (0, v5)), (6, (0, v6 + 1))] [] H) ∧ (¬ (¬ H 97 ((9 * v3) + v4) = (H 68 9) + (H 97 (((9 * v3) + 9) + v4))) → (xI (v5 + 1)) ∧ (xI (v3 + 1)) ∧ xq X d 239 Q 64 [(0, (2, 67)), (2, (0, v2)), (3, (0, v3 + 1)), (4, (0, v4)), (5, (0, v5 + 1)), (6, (0, v6))] [] H))) ∧ (¬ (H 67 47 ≤ v3) → ((0 : Int) ≤ 1 ∧ (1 : Int) < 1180) ∧ ((H 68 1 ≤ v4) → ((H 67 47 ≤ v3) → (xI (v6 + 1)) ∧ (xI (v4 + 1)) ∧ xq X d 239 Q 64 [(0, (2, 67)), (2, (0, v2)), (3, (0, v3)), (4, (0, v4 + 1)), (5, (0, v5)), (6, (0, v6 + 1))] [] H) ∧ (¬ (H 67 47 ≤ v3) → ((0 : Int) ≤ 9 ∧ (9 : Int) < 1180) ∧ (xI (9 * v3)) ∧ (xI ((9 * v3) + 9)) ∧ (xI (((9 * v3) + 9) + v4)) ∧ ((0 : Int) ≤ ((9 * v3) + 9) + v4 ∧ (((9 * v3) + 9) + v4 : Int) < 81) ∧ (xI ((H 68 9) + (H 97 (((9 * v3) + 9) + v4)))) ∧ ((¬ H 97 ((9 * v3) + v4) = (H 68 9) + (H 97 (((9 * v3) + 9) + v4))) → (xI (v6 + 1)) ∧ (xI (v4 + 1)) ∧ xq X d 239 Q 64 [(0, (2, 67)), (2, (0, v2)), (3, (0, v3)), (4, (0, v4 + 1)), (5, (0, v5)), (6, (0, v6 + 1))] [] H) ∧ (¬ (¬ H 97 ((9 * v3) + v4) = (H 68 9) + (H 97 (((9 * v3) + 9) + v4))) → (xI (v5 + 1)) ∧ (xI (v3 + 1)) ∧ xq X d 239 Q 64 [(0, (2, 67)), (2, (0, v2)), (3, (0, v3 + 1)), (4, (0, v4)), (5, (0, v5 + 1)), (6, (0, v6))] [] H))) ∧ (¬ (H 68 1 ≤ v4) → (xI (8 * v3)) ∧ (xI ((8 * v3) + v4)) ∧ ((0 : Int) ≤ (8 * v3) + v4 ∧ ((8 * v3) + v4 : Int) < 64) ∧ (xI (9 * v3)) ∧ (xI ((9 * v3) + 9)) ∧ (xI (((9 * v3) + 9) + v4)) ∧ (xI ((((9 * v3) + 9) + v4) + 1)) ∧ ((0 : Int) ≤ (((9 * v3) + 9) + v4) + 1 ∧ ((((9 * v3) + 9) + v4) + 1 : Int) < 81) ∧ (xI ((H 98 ((8 * v3) + v4)) + (H 97 ((((9 * v3) + 9) + v4) + 1)))) ∧ ((¬ H 97 ((9 * v3) + v4) = (H 98 ((8 * v3) + v4)) + (H 97 ((((9 * v3) + 9) + v4) + 1))) → ((H 67 47 ≤ v3) → (xI (v6 + 1)) ∧ (xI (v4 + 1)) ∧ xq X d 239 Q 64 [(0, (2, 67)), (2, (0, v2)), (3, (0, v3)), (4, (0, v4 + 1)), (5, (0, v5)), (6, (0, v6 + 1))] [] H) ∧ (¬ (H 67 47 ≤ v3) → ((0 : Int) ≤ 9 ∧ (9 : Int) < 1180) ∧ (xI (9 * v3)) ∧ (xI ((9 * v3) + 9)) ∧ (xI (((9 * v3) + 9) + v4)) ∧ ((0 : Int) ≤ ((9 * v3) + 9) + v4 ∧ (((9 * v3) + 9) + v4 : Int) < 81) ∧ (xI ((H 68 9) + (H 97 (((9 * v3) + 9) + v4)))) ∧ ((¬ H 97 ((9 * v3) + v4) = (H 68 9) + (H 97 (((9 * v3) + 9) + v4))) → (xI (v6 + 1)) ∧ (xI (v4 + 1)) ∧ xq X d 239 Q 64 [(0, (2, 67)), (2, (0, v2)), (3, (0, v3)), (4, (0, v4 + 1)), (5, (0, v5)), (6, (0, v6 + 1))] [] H) ∧ (¬ (¬ H 97 ((9 * v3) + v4) = (H 68 9) + (H 97 (((9 * v3) + 9) + v4))) → (xI (v5 + 1)) ∧ (xI (v3 + 1)) ∧ xq X d 239 Q 64 [(0, (2, 67)), (2, (0, v2)), (3, (0, v3 + 1)), (4, (0, v4)), (5, (0, v5 + 1)), (6, (0, v6))] [] H))) ∧ (¬ (¬ H 97 ((9 * v3) + v4) = (H 98 ((8 * v3) + v4)) + (H 97 ((((9 * v3) + 9) + v4) + 1))) → (xI (100 + v4)) ∧ ((¬ v2 = 100 + v4) → (xI (v3 + 1)) ∧ (xI (v4 + 1)) ∧ xq X d 239 Q 64 [(0, (2, 67)), (2, (0, v2)), (3, (0, v3 + 1)), (4, (0, v4 + 1)), (5, (0, v5)), (6, (0, v6))] [] H) ∧ (¬ (¬ v2 = 100 + v4) → xfR 0 v3 ∧ xKZ = xKZ ∧ Q v3 H))))))
  refine ⟨fun k_ => ?_, fun k_ => ?_⟩
  · replace h := h.1 k_
    refine ⟨h.1, ?_⟩
    replace h := h.2
    refine ⟨h.1, ?_⟩
    replace h := h.2
    refine ⟨h.1, ?_⟩
    replace h := h.2
    refine ⟨fun k_ => ?_, fun k_ => ?_⟩
    · replace h := h.1 k_
      refine ⟨fun k_ => ?_, fun k_ => ?_⟩
      · replace h := h.1 k_
        refine ⟨h.1, ?_⟩
        replace h := h.2
        refine ⟨h.1, ?_⟩
        replace h := h.2
        exact h
      · replace h := h.2 k_
        refine ⟨⟨by decide, by decide⟩, ?_⟩
        refine ⟨h.1, ?_⟩
        replace h := h.2
        refine ⟨h.1, ?_⟩
        replace h := h.2
        refine ⟨h.1, ?_⟩
        replace h := h.2
        refine ⟨h.1, ?_⟩
        replace h := h.2
        refine ⟨h.1, ?_⟩
        replace h := h.2
        refine ⟨fun k_ => ?_, fun k_ => ?_⟩
        · replace h := h.1 k_
          refine ⟨h.1, ?_⟩
          replace h := h.2
          refine ⟨h.1, ?_⟩
          replace h := h.2
          exact h
        · replace h := h.2 k_
          refine ⟨h.1, ?_⟩
          replace h := h.2
          refine ⟨h.1, ?_⟩
          replace h := h.2
          exact h
    · replace h := h.2 k_
      refine ⟨⟨by decide, by decide⟩, ?_⟩
      refine ⟨fun k_ => ?_, fun k_ => ?_⟩
      · replace h := h.1 k_
        refine ⟨fun k_ => ?_, fun k_ => ?_⟩
        · replace h := h.1 k_
          refine ⟨h.1, ?_⟩
          replace h := h.2
          refine ⟨h.1, ?_⟩
          replace h := h.2
          exact h
        · replace h := h.2 k_
          refine ⟨⟨by decide, by decide⟩, ?_⟩
          refine ⟨h.1, ?_⟩
          replace h := h.2
          refine ⟨h.1, ?_⟩
          replace h := h.2
          refine ⟨h.1, ?_⟩
          replace h := h.2
          refine ⟨h.1, ?_⟩
          replace h := h.2
          refine ⟨h.1, ?_⟩
          replace h := h.2
          refine ⟨fun k_ => ?_, fun k_ => ?_⟩
          · replace h := h.1 k_
            refine ⟨h.1, ?_⟩
            replace h := h.2
            refine ⟨h.1, ?_⟩
            replace h := h.2
            exact h
          · replace h := h.2 k_
            refine ⟨h.1, ?_⟩
            replace h := h.2
            refine ⟨h.1, ?_⟩
            replace h := h.2
            exact h
      · replace h := h.2 k_
        refine ⟨h.1, ?_⟩
        replace h := h.2
        refine ⟨h.1, ?_⟩
        replace h := h.2
        refine ⟨h.1, ?_⟩
        replace h := h.2
        refine ⟨h.1, ?_⟩
        replace h := h.2
        refine ⟨h.1, ?_⟩
        replace h := h.2
        refine ⟨h.1, ?_⟩
        replace h := h.2
        refine ⟨h.1, ?_⟩
        replace h := h.2
        refine ⟨h.1, ?_⟩
        replace h := h.2
        refine ⟨h.1, ?_⟩
        replace h := h.2
        refine ⟨fun k_ => ?_, fun k_ => ?_⟩
        · replace h := h.1 k_
          refine ⟨fun k_ => ?_, fun k_ => ?_⟩
          · replace h := h.1 k_
            refine ⟨h.1, ?_⟩
            replace h := h.2
            refine ⟨h.1, ?_⟩
            replace h := h.2
            exact h
          · replace h := h.2 k_
            refine ⟨⟨by decide, by decide⟩, ?_⟩
            refine ⟨h.1, ?_⟩
            replace h := h.2
            refine ⟨h.1, ?_⟩
            replace h := h.2
            refine ⟨h.1, ?_⟩
            replace h := h.2
            refine ⟨h.1, ?_⟩
            replace h := h.2
            refine ⟨h.1, ?_⟩
            replace h := h.2
            refine ⟨fun k_ => ?_, fun k_ => ?_⟩
            · replace h := h.1 k_
              refine ⟨h.1, ?_⟩
              replace h := h.2
              refine ⟨h.1, ?_⟩
              replace h := h.2
              exact h
            · replace h := h.2 k_
              refine ⟨h.1, ?_⟩
              replace h := h.2
              refine ⟨h.1, ?_⟩
              replace h := h.2
              exact h
        · replace h := h.2 k_
          refine ⟨h.1, ?_⟩
          replace h := h.2
          refine ⟨fun k_ => ?_, fun k_ => ?_⟩
          · replace h := h.1 k_
            refine ⟨h.1, ?_⟩
            replace h := h.2
            refine ⟨h.1, ?_⟩
            replace h := h.2
            exact h
          · replace h := h.2 k_
            exact ⟨trivial, rfl, h⟩
  · replace h := h.2 k_
    refine ⟨⟨by decide, by decide⟩, ?_⟩
    refine ⟨fun k_ => ?_, fun k_ => ?_⟩
    · replace h := h.1 k_
      refine ⟨fun k_ => ?_, fun k_ => ?_⟩
      · replace h := h.1 k_
        refine ⟨fun k_ => ?_, fun k_ => ?_⟩
        · replace h := h.1 k_
          exact ⟨trivial, rfl, h⟩
        · replace h := h.2 k_
          exact ⟨trivial, rfl, h⟩
      · replace h := h.2 k_
        exact ⟨trivial, rfl, h⟩
    · replace h := h.2 k_
      refine ⟨h.1, ?_⟩
      replace h := h.2
      refine ⟨h.1, ?_⟩
      replace h := h.2
      refine ⟨h.1, ?_⟩
      replace h := h.2
      refine ⟨fun k_ => ?_, fun k_ => ?_⟩
      · replace h := h.1 k_
        refine ⟨fun k_ => ?_, fun k_ => ?_⟩
        · replace h := h.1 k_
          refine ⟨h.1, ?_⟩
          replace h := h.2
          refine ⟨h.1, ?_⟩
          replace h := h.2
          exact h
        · replace h := h.2 k_
          refine ⟨⟨by decide, by decide⟩, ?_⟩
          refine ⟨h.1, ?_⟩
          replace h := h.2
          refine ⟨h.1, ?_⟩
          replace h := h.2
          refine ⟨h.1, ?_⟩
          replace h := h.2
          refine ⟨h.1, ?_⟩
          replace h := h.2
          refine ⟨h.1, ?_⟩
          replace h := h.2
          refine ⟨fun k_ => ?_, fun k_ => ?_⟩
          · replace h := h.1 k_
            refine ⟨h.1, ?_⟩
            replace h := h.2
            refine ⟨h.1, ?_⟩
            replace h := h.2
            exact h
          · replace h := h.2 k_
            refine ⟨h.1, ?_⟩
            replace h := h.2
            refine ⟨h.1, ?_⟩
            replace h := h.2
            exact h
      · replace h := h.2 k_
        refine ⟨⟨by decide, by decide⟩, ?_⟩
        refine ⟨fun k_ => ?_, fun k_ => ?_⟩
        · replace h := h.1 k_
          refine ⟨fun k_ => ?_, fun k_ => ?_⟩
          · replace h := h.1 k_
            refine ⟨h.1, ?_⟩
            replace h := h.2
            refine ⟨h.1, ?_⟩
            replace h := h.2
            exact h
          · replace h := h.2 k_
            refine ⟨⟨by decide, by decide⟩, ?_⟩
            refine ⟨h.1, ?_⟩
            replace h := h.2
            refine ⟨h.1, ?_⟩
            replace h := h.2
            refine ⟨h.1, ?_⟩
            replace h := h.2
            refine ⟨h.1, ?_⟩
            replace h := h.2
            refine ⟨h.1, ?_⟩
            replace h := h.2
            refine ⟨fun k_ => ?_, fun k_ => ?_⟩
            · replace h := h.1 k_
              refine ⟨h.1, ?_⟩
              replace h := h.2
              refine ⟨h.1, ?_⟩
              replace h := h.2
              exact h
            · replace h := h.2 k_
              refine ⟨h.1, ?_⟩
              replace h := h.2
              refine ⟨h.1, ?_⟩
              replace h := h.2
              exact h
        · replace h := h.2 k_
          refine ⟨h.1, ?_⟩
          replace h := h.2
          refine ⟨h.1, ?_⟩
          replace h := h.2
          refine ⟨h.1, ?_⟩
          replace h := h.2
          refine ⟨h.1, ?_⟩
          replace h := h.2
          refine ⟨h.1, ?_⟩
          replace h := h.2
          refine ⟨h.1, ?_⟩
          replace h := h.2
          refine ⟨h.1, ?_⟩
          replace h := h.2
          refine ⟨h.1, ?_⟩
          replace h := h.2
          refine ⟨h.1, ?_⟩
          replace h := h.2
          refine ⟨fun k_ => ?_, fun k_ => ?_⟩
          · replace h := h.1 k_
            refine ⟨fun k_ => ?_, fun k_ => ?_⟩
            · replace h := h.1 k_
              refine ⟨h.1, ?_⟩
              replace h := h.2
              refine ⟨h.1, ?_⟩
              replace h := h.2
              exact h
            · replace h := h.2 k_
              refine ⟨⟨by decide, by decide⟩, ?_⟩
              refine ⟨h.1, ?_⟩
              replace h := h.2
              refine ⟨h.1, ?_⟩
              replace h := h.2
              refine ⟨h.1, ?_⟩
              replace h := h.2
              refine ⟨h.1, ?_⟩
              replace h := h.2
              refine ⟨h.1, ?_⟩
              replace h := h.2
              refine ⟨fun k_ => ?_, fun k_ => ?_⟩
              · replace h := h.1 k_
                refine ⟨h.1, ?_⟩
                replace h := h.2
                refine ⟨h.1, ?_⟩
                replace h := h.2
                exact h
              · replace h := h.2 k_
                refine ⟨h.1, ?_⟩
                replace h := h.2
                refine ⟨h.1, ?_⟩
                replace h := h.2
                exact h
          · replace h := h.2 k_
            refine ⟨h.1, ?_⟩
            replace h := h.2
            refine ⟨fun k_ => ?_, fun k_ => ?_⟩
            · replace h := h.1 k_
              refine ⟨h.1, ?_⟩
              replace h := h.2
              refine ⟨h.1, ?_⟩
              replace h := h.2
              exact h
            · replace h := h.2 k_
              exact ⟨trivial, rfl, h⟩

theorem t_239_a {X : Int × (Int → Int)} {d : Nat} {Q : Int → XH → Prop} (hd : 1 ≤ d) {n m a b i j wa ba cij : Int} {h : XH} (e47 : h 67 47 = n) (e1 : h 68 1 = m) (e9 : h 68 9 = a) (hn : 0 ≤ n ∧ n ≤ 8) (hm : 0 ≤ m ∧ m ≤ 8) (ha : 0 ≤ a ∧ a ≤ 1000) (hi : 0 ≤ i ∧ i ≤ n) (hj : 0 ≤ j ∧ j ≤ m) (hwa : 0 ≤ wa ∧ wa ≤ i) (hba : 0 ≤ ba ∧ ba ≤ j) (tij : h 97 (9 * i + j) = cij) (rij : 0 ≤ cij ∧ cij ≤ 16000) {c1j c11 fij : Int} (a1 : i < n) (a2 : j < m) (t1j : h 97 (9 * i + 9 + j) = c1j) (r1j : 0 ≤ c1j ∧ c1j ≤ 16000) (t11 : h 97 (9 * i + 9 + j + 1) = c11) (r11 : 0 ≤ c11 ∧ c11 ≤ 16000) (tf : h 98 (8 * i + j) = fij) (rf : 0 ≤ fij ∧ fij ≤ 1000) (nR : fij + c11 = cij → b = 100 + j → Q i h) (nP : fij + c11 = cij → ¬ b = 100 + j → xq X d 239 Q 64 [(0, (2, 67)), (2, (0, b)), (3, (0, i + 1)), (4, (0, j + 1)), (5, (0, wa)), (6, (0, ba))] [] h) (nW : ¬ fij + c11 = cij → c1j + a = cij → xq X d 239 Q 64 [(0, (2, 67)), (2, (0, b)), (3, (0, i + 1)), (4, (0, j)), (5, (0, wa + 1)), (6, (0, ba))] [] h) (nB : ¬ fij + c11 = cij → ¬ c1j + a = cij → xq X d 239 Q 64 [(0, (2, 67)), (2, (0, b)), (3, (0, i)), (4, (0, j + 1)), (5, (0, wa)), (6, (0, ba + 1))] [] h) : xq X d 239 Q 64 [(0, (2, 67)), (2, (0, b)), (3, (0, i)), (4, (0, j)), (5, (0, wa)), (6, (0, ba))] [] h := by
  refine U_239_64 (by omega) b i j wa ba h ?_
  rw [e47, e1, e9]
  refine ⟨fun c1 => ?_, fun c1 => ?_⟩
  · skip
    refine ⟨?_, ?_⟩
    · first | omega | (unfold xI; omega) | (exfalso; omega)
    refine ⟨?_, ?_⟩
    · first | omega | (unfold xI; omega) | (exfalso; omega)
    refine ⟨?_, ?_⟩
    · first | omega | (unfold xI; omega) | (exfalso; omega)
    refine ⟨fun c2 => ?_, fun c2 => ?_⟩
    · skip
      refine ⟨fun c3 => ?_, fun c3 => ?_⟩
      · skip
        refine ⟨?_, ?_⟩
        · first | omega | (unfold xI; omega) | (exfalso; omega)
        refine ⟨?_, ?_⟩
        · first | omega | (unfold xI; omega) | (exfalso; omega)
        first | (exfalso; omega) | exact nR (by omega) (by omega) | exact nP (by omega) (by omega) | exact nW (by omega) (by omega) | exact nB (by omega) (by omega)
      · skip
        refine ⟨?_, ?_⟩
        · first | omega | (unfold xI; omega) | (exfalso; omega)
        refine ⟨?_, ?_⟩
        · first | omega | (unfold xI; omega) | (exfalso; omega)
        refine ⟨?_, ?_⟩
        · first | omega | (unfold xI; omega) | (exfalso; omega)
        refine ⟨?_, ?_⟩
        · first | omega | (unfold xI; omega) | (exfalso; omega)
        refine ⟨?_, ?_⟩
        · first | omega | (unfold xI; omega) | (exfalso; omega)
        refine ⟨fun c4 => ?_, fun c4 => ?_⟩
        · skip
          refine ⟨?_, ?_⟩
          · first | omega | (unfold xI; omega) | (exfalso; omega)
          refine ⟨?_, ?_⟩
          · first | omega | (unfold xI; omega) | (exfalso; omega)
          first | (exfalso; omega) | exact nR (by omega) (by omega) | exact nP (by omega) (by omega) | exact nW (by omega) (by omega) | exact nB (by omega) (by omega)
        · skip
          refine ⟨?_, ?_⟩
          · first | omega | (unfold xI; omega) | (exfalso; omega)
          refine ⟨?_, ?_⟩
          · first | omega | (unfold xI; omega) | (exfalso; omega)
          first | (exfalso; omega) | exact nR (by omega) (by omega) | exact nP (by omega) (by omega) | exact nW (by omega) (by omega) | exact nB (by omega) (by omega)
    · skip
      refine ⟨fun c5 => ?_, fun c5 => ?_⟩
      · skip
        refine ⟨fun c6 => ?_, fun c6 => ?_⟩
        · skip
          refine ⟨?_, ?_⟩
          · first | omega | (unfold xI; omega) | (exfalso; omega)
          refine ⟨?_, ?_⟩
          · first | omega | (unfold xI; omega) | (exfalso; omega)
          first | (exfalso; omega) | exact nR (by omega) (by omega) | exact nP (by omega) (by omega) | exact nW (by omega) (by omega) | exact nB (by omega) (by omega)
        · skip
          refine ⟨?_, ?_⟩
          · first | omega | (unfold xI; omega) | (exfalso; omega)
          refine ⟨?_, ?_⟩
          · first | omega | (unfold xI; omega) | (exfalso; omega)
          refine ⟨?_, ?_⟩
          · first | omega | (unfold xI; omega) | (exfalso; omega)
          refine ⟨?_, ?_⟩
          · first | omega | (unfold xI; omega) | (exfalso; omega)
          refine ⟨?_, ?_⟩
          · first | omega | (unfold xI; omega) | (exfalso; omega)
          refine ⟨fun c7 => ?_, fun c7 => ?_⟩
          · skip
            refine ⟨?_, ?_⟩
            · first | omega | (unfold xI; omega) | (exfalso; omega)
            refine ⟨?_, ?_⟩
            · first | omega | (unfold xI; omega) | (exfalso; omega)
            first | (exfalso; omega) | exact nR (by omega) (by omega) | exact nP (by omega) (by omega) | exact nW (by omega) (by omega) | exact nB (by omega) (by omega)
          · skip
            refine ⟨?_, ?_⟩
            · first | omega | (unfold xI; omega) | (exfalso; omega)
            refine ⟨?_, ?_⟩
            · first | omega | (unfold xI; omega) | (exfalso; omega)
            first | (exfalso; omega) | exact nR (by omega) (by omega) | exact nP (by omega) (by omega) | exact nW (by omega) (by omega) | exact nB (by omega) (by omega)
      · skip
        refine ⟨?_, ?_⟩
        · first | omega | (unfold xI; omega) | (exfalso; omega)
        refine ⟨?_, ?_⟩
        · first | omega | (unfold xI; omega) | (exfalso; omega)
        refine ⟨?_, ?_⟩
        · first | omega | (unfold xI; omega) | (exfalso; omega)
        refine ⟨?_, ?_⟩
        · first | omega | (unfold xI; omega) | (exfalso; omega)
        refine ⟨?_, ?_⟩
        · first | omega | (unfold xI; omega) | (exfalso; omega)
        refine ⟨?_, ?_⟩
        · first | omega | (unfold xI; omega) | (exfalso; omega)
        refine ⟨?_, ?_⟩
        · first | omega | (unfold xI; omega) | (exfalso; omega)
        refine ⟨?_, ?_⟩
        · first | omega | (unfold xI; omega) | (exfalso; omega)
        refine ⟨?_, ?_⟩
        · first | omega | (unfold xI; omega) | (exfalso; omega)
        refine ⟨fun c8 => ?_, fun c8 => ?_⟩
        · skip
          refine ⟨fun c9 => ?_, fun c9 => ?_⟩
          · skip
            refine ⟨?_, ?_⟩
            · first | omega | (unfold xI; omega) | (exfalso; omega)
            refine ⟨?_, ?_⟩
            · first | omega | (unfold xI; omega) | (exfalso; omega)
            first | (exfalso; omega) | exact nR (by omega) (by omega) | exact nP (by omega) (by omega) | exact nW (by omega) (by omega) | exact nB (by omega) (by omega)
          · skip
            refine ⟨?_, ?_⟩
            · first | omega | (unfold xI; omega) | (exfalso; omega)
            refine ⟨?_, ?_⟩
            · first | omega | (unfold xI; omega) | (exfalso; omega)
            refine ⟨?_, ?_⟩
            · first | omega | (unfold xI; omega) | (exfalso; omega)
            refine ⟨?_, ?_⟩
            · first | omega | (unfold xI; omega) | (exfalso; omega)
            refine ⟨?_, ?_⟩
            · first | omega | (unfold xI; omega) | (exfalso; omega)
            refine ⟨fun c10 => ?_, fun c10 => ?_⟩
            · skip
              refine ⟨?_, ?_⟩
              · first | omega | (unfold xI; omega) | (exfalso; omega)
              refine ⟨?_, ?_⟩
              · first | omega | (unfold xI; omega) | (exfalso; omega)
              first | (exfalso; omega) | exact nR (by omega) (by omega) | exact nP (by omega) (by omega) | exact nW (by omega) (by omega) | exact nB (by omega) (by omega)
            · skip
              refine ⟨?_, ?_⟩
              · first | omega | (unfold xI; omega) | (exfalso; omega)
              refine ⟨?_, ?_⟩
              · first | omega | (unfold xI; omega) | (exfalso; omega)
              first | (exfalso; omega) | exact nR (by omega) (by omega) | exact nP (by omega) (by omega) | exact nW (by omega) (by omega) | exact nB (by omega) (by omega)
        · skip
          refine ⟨?_, ?_⟩
          · first | omega | (unfold xI; omega) | (exfalso; omega)
          refine ⟨fun c11 => ?_, fun c11 => ?_⟩
          · skip
            refine ⟨?_, ?_⟩
            · first | omega | (unfold xI; omega) | (exfalso; omega)
            refine ⟨?_, ?_⟩
            · first | omega | (unfold xI; omega) | (exfalso; omega)
            first | (exfalso; omega) | exact nR (by omega) (by omega) | exact nP (by omega) (by omega) | exact nW (by omega) (by omega) | exact nB (by omega) (by omega)
          · skip
            first | (exfalso; omega) | exact nR (by omega) (by omega) | exact nP (by omega) (by omega) | exact nW (by omega) (by omega) | exact nB (by omega) (by omega)
  · skip
    refine ⟨fun c12 => ?_, fun c12 => ?_⟩
    · skip
      refine ⟨fun c13 => ?_, fun c13 => ?_⟩
      · skip
        refine ⟨fun c14 => ?_, fun c14 => ?_⟩
        · skip
          first | (exfalso; omega) | exact nR (by omega) (by omega) | exact nP (by omega) (by omega) | exact nW (by omega) (by omega) | exact nB (by omega) (by omega)
        · skip
          first | (exfalso; omega) | exact nR (by omega) (by omega) | exact nP (by omega) (by omega) | exact nW (by omega) (by omega) | exact nB (by omega) (by omega)
      · skip
        first | (exfalso; omega) | exact nR (by omega) (by omega) | exact nP (by omega) (by omega) | exact nW (by omega) (by omega) | exact nB (by omega) (by omega)
    · skip
      refine ⟨?_, ?_⟩
      · first | omega | (unfold xI; omega) | (exfalso; omega)
      refine ⟨?_, ?_⟩
      · first | omega | (unfold xI; omega) | (exfalso; omega)
      refine ⟨?_, ?_⟩
      · first | omega | (unfold xI; omega) | (exfalso; omega)
      refine ⟨fun c15 => ?_, fun c15 => ?_⟩
      · skip
        refine ⟨fun c16 => ?_, fun c16 => ?_⟩
        · skip
          refine ⟨?_, ?_⟩
          · first | omega | (unfold xI; omega) | (exfalso; omega)
          refine ⟨?_, ?_⟩
          · first | omega | (unfold xI; omega) | (exfalso; omega)
          first | (exfalso; omega) | exact nR (by omega) (by omega) | exact nP (by omega) (by omega) | exact nW (by omega) (by omega) | exact nB (by omega) (by omega)
        · skip
          refine ⟨?_, ?_⟩
          · first | omega | (unfold xI; omega) | (exfalso; omega)
          refine ⟨?_, ?_⟩
          · first | omega | (unfold xI; omega) | (exfalso; omega)
          refine ⟨?_, ?_⟩
          · first | omega | (unfold xI; omega) | (exfalso; omega)
          refine ⟨?_, ?_⟩
          · first | omega | (unfold xI; omega) | (exfalso; omega)
          refine ⟨?_, ?_⟩
          · first | omega | (unfold xI; omega) | (exfalso; omega)
          refine ⟨fun c17 => ?_, fun c17 => ?_⟩
          · skip
            refine ⟨?_, ?_⟩
            · first | omega | (unfold xI; omega) | (exfalso; omega)
            refine ⟨?_, ?_⟩
            · first | omega | (unfold xI; omega) | (exfalso; omega)
            first | (exfalso; omega) | exact nR (by omega) (by omega) | exact nP (by omega) (by omega) | exact nW (by omega) (by omega) | exact nB (by omega) (by omega)
          · skip
            refine ⟨?_, ?_⟩
            · first | omega | (unfold xI; omega) | (exfalso; omega)
            refine ⟨?_, ?_⟩
            · first | omega | (unfold xI; omega) | (exfalso; omega)
            first | (exfalso; omega) | exact nR (by omega) (by omega) | exact nP (by omega) (by omega) | exact nW (by omega) (by omega) | exact nB (by omega) (by omega)
      · skip
        refine ⟨fun c18 => ?_, fun c18 => ?_⟩
        · skip
          refine ⟨fun c19 => ?_, fun c19 => ?_⟩
          · skip
            refine ⟨?_, ?_⟩
            · first | omega | (unfold xI; omega) | (exfalso; omega)
            refine ⟨?_, ?_⟩
            · first | omega | (unfold xI; omega) | (exfalso; omega)
            first | (exfalso; omega) | exact nR (by omega) (by omega) | exact nP (by omega) (by omega) | exact nW (by omega) (by omega) | exact nB (by omega) (by omega)
          · skip
            refine ⟨?_, ?_⟩
            · first | omega | (unfold xI; omega) | (exfalso; omega)
            refine ⟨?_, ?_⟩
            · first | omega | (unfold xI; omega) | (exfalso; omega)
            refine ⟨?_, ?_⟩
            · first | omega | (unfold xI; omega) | (exfalso; omega)
            refine ⟨?_, ?_⟩
            · first | omega | (unfold xI; omega) | (exfalso; omega)
            refine ⟨?_, ?_⟩
            · first | omega | (unfold xI; omega) | (exfalso; omega)
            refine ⟨fun c20 => ?_, fun c20 => ?_⟩
            · skip
              refine ⟨?_, ?_⟩
              · first | omega | (unfold xI; omega) | (exfalso; omega)
              refine ⟨?_, ?_⟩
              · first | omega | (unfold xI; omega) | (exfalso; omega)
              first | (exfalso; omega) | exact nR (by omega) (by omega) | exact nP (by omega) (by omega) | exact nW (by omega) (by omega) | exact nB (by omega) (by omega)
            · skip
              refine ⟨?_, ?_⟩
              · first | omega | (unfold xI; omega) | (exfalso; omega)
              refine ⟨?_, ?_⟩
              · first | omega | (unfold xI; omega) | (exfalso; omega)
              first | (exfalso; omega) | exact nR (by omega) (by omega) | exact nP (by omega) (by omega) | exact nW (by omega) (by omega) | exact nB (by omega) (by omega)
        · skip
          refine ⟨?_, ?_⟩
          · first | omega | (unfold xI; omega) | (exfalso; omega)
          refine ⟨?_, ?_⟩
          · first | omega | (unfold xI; omega) | (exfalso; omega)
          refine ⟨?_, ?_⟩
          · first | omega | (unfold xI; omega) | (exfalso; omega)
          refine ⟨?_, ?_⟩
          · first | omega | (unfold xI; omega) | (exfalso; omega)
          refine ⟨?_, ?_⟩
          · first | omega | (unfold xI; omega) | (exfalso; omega)
          refine ⟨?_, ?_⟩
          · first | omega | (unfold xI; omega) | (exfalso; omega)
          refine ⟨?_, ?_⟩
          · first | omega | (unfold xI; omega) | (exfalso; omega)
          refine ⟨?_, ?_⟩
          · first | omega | (unfold xI; omega) | (exfalso; omega)
          refine ⟨?_, ?_⟩
          · first | omega | (unfold xI; omega) | (exfalso; omega)
          refine ⟨fun c21 => ?_, fun c21 => ?_⟩
          · skip
            refine ⟨fun c22 => ?_, fun c22 => ?_⟩
            · skip
              refine ⟨?_, ?_⟩
              · first | omega | (unfold xI; omega) | (exfalso; omega)
              refine ⟨?_, ?_⟩
              · first | omega | (unfold xI; omega) | (exfalso; omega)
              first | (exfalso; omega) | exact nR (by omega) (by omega) | exact nP (by omega) (by omega) | exact nW (by omega) (by omega) | exact nB (by omega) (by omega)
            · skip
              refine ⟨?_, ?_⟩
              · first | omega | (unfold xI; omega) | (exfalso; omega)
              refine ⟨?_, ?_⟩
              · first | omega | (unfold xI; omega) | (exfalso; omega)
              refine ⟨?_, ?_⟩
              · first | omega | (unfold xI; omega) | (exfalso; omega)
              refine ⟨?_, ?_⟩
              · first | omega | (unfold xI; omega) | (exfalso; omega)
              refine ⟨?_, ?_⟩
              · first | omega | (unfold xI; omega) | (exfalso; omega)
              refine ⟨fun c23 => ?_, fun c23 => ?_⟩
              · skip
                refine ⟨?_, ?_⟩
                · first | omega | (unfold xI; omega) | (exfalso; omega)
                refine ⟨?_, ?_⟩
                · first | omega | (unfold xI; omega) | (exfalso; omega)
                first | (exfalso; omega) | exact nR (by omega) (by omega) | exact nP (by omega) (by omega) | exact nW (by omega) (by omega) | exact nB (by omega) (by omega)
              · skip
                refine ⟨?_, ?_⟩
                · first | omega | (unfold xI; omega) | (exfalso; omega)
                refine ⟨?_, ?_⟩
                · first | omega | (unfold xI; omega) | (exfalso; omega)
                first | (exfalso; omega) | exact nR (by omega) (by omega) | exact nP (by omega) (by omega) | exact nW (by omega) (by omega) | exact nB (by omega) (by omega)
          · skip
            refine ⟨?_, ?_⟩
            · first | omega | (unfold xI; omega) | (exfalso; omega)
            refine ⟨fun c24 => ?_, fun c24 => ?_⟩
            · skip
              refine ⟨?_, ?_⟩
              · first | omega | (unfold xI; omega) | (exfalso; omega)
              refine ⟨?_, ?_⟩
              · first | omega | (unfold xI; omega) | (exfalso; omega)
              first | (exfalso; omega) | exact nR (by omega) (by omega) | exact nP (by omega) (by omega) | exact nW (by omega) (by omega) | exact nB (by omega) (by omega)
            · skip
              first | (exfalso; omega) | exact nR (by omega) (by omega) | exact nP (by omega) (by omega) | exact nW (by omega) (by omega) | exact nB (by omega) (by omega)

theorem t_239_b {X : Int × (Int → Int)} {d : Nat} {Q : Int → XH → Prop} (hd : 1 ≤ d) {n m a b i j wa ba cij : Int} {h : XH} (e47 : h 67 47 = n) (e1 : h 68 1 = m) (e9 : h 68 9 = a) (hn : 0 ≤ n ∧ n ≤ 8) (hm : 0 ≤ m ∧ m ≤ 8) (ha : 0 ≤ a ∧ a ≤ 1000) (hi : 0 ≤ i ∧ i ≤ n) (hj : 0 ≤ j ∧ j ≤ m) (hwa : 0 ≤ wa ∧ wa ≤ i) (hba : 0 ≤ ba ∧ ba ≤ j) (tij : h 97 (9 * i + j) = cij) (rij : 0 ≤ cij ∧ cij ≤ 16000) {c1j : Int} (a1 : i < n) (a2 : ¬ j < m) (t1j : h 97 (9 * i + 9 + j) = c1j) (r1j : 0 ≤ c1j ∧ c1j ≤ 16000) (eq : c1j + a = cij) (nW : xq X d 239 Q 64 [(0, (2, 67)), (2, (0, b)), (3, (0, i + 1)), (4, (0, j)), (5, (0, wa + 1)), (6, (0, ba))] [] h) : xq X d 239 Q 64 [(0, (2, 67)), (2, (0, b)), (3, (0, i)), (4, (0, j)), (5, (0, wa)), (6, (0, ba))] [] h := by
  refine U_239_64 (by omega) b i j wa ba h ?_
  rw [e47, e1, e9]
  refine ⟨fun c1 => ?_, fun c1 => ?_⟩
  · skip
    refine ⟨?_, ?_⟩
    · first | omega | (unfold xI; omega) | (exfalso; omega)
    refine ⟨?_, ?_⟩
    · first | omega | (unfold xI; omega) | (exfalso; omega)
    refine ⟨?_, ?_⟩
    · first | omega | (unfold xI; omega) | (exfalso; omega)
    refine ⟨fun c2 => ?_, fun c2 => ?_⟩
    · skip
      refine ⟨fun c3 => ?_, fun c3 => ?_⟩
      · skip
        refine ⟨?_, ?_⟩
        · first | omega | (unfold xI; omega) | (exfalso; omega)
        refine ⟨?_, ?_⟩
        · first | omega | (unfold xI; omega) | (exfalso; omega)
        first | (exfalso; omega) | exact nW
      · skip
        refine ⟨?_, ?_⟩
        · first | omega | (unfold xI; omega) | (exfalso; omega)
        refine ⟨?_, ?_⟩
        · first | omega | (unfold xI; omega) | (exfalso; omega)
        refine ⟨?_, ?_⟩
        · first | omega | (unfold xI; omega) | (exfalso; omega)
        refine ⟨?_, ?_⟩
        · first | omega | (unfold xI; omega) | (exfalso; omega)
        refine ⟨?_, ?_⟩
        · first | omega | (unfold xI; omega) | (exfalso; omega)
        refine ⟨fun c4 => ?_, fun c4 => ?_⟩
        · skip
          refine ⟨?_, ?_⟩
          · first | omega | (unfold xI; omega) | (exfalso; omega)
          refine ⟨?_, ?_⟩
          · first | omega | (unfold xI; omega) | (exfalso; omega)
          first | (exfalso; omega) | exact nW
        · skip
          refine ⟨?_, ?_⟩
          · first | omega | (unfold xI; omega) | (exfalso; omega)
          refine ⟨?_, ?_⟩
          · first | omega | (unfold xI; omega) | (exfalso; omega)
          first | (exfalso; omega) | exact nW
    · skip
      refine ⟨fun c5 => ?_, fun c5 => ?_⟩
      · skip
        refine ⟨fun c6 => ?_, fun c6 => ?_⟩
        · skip
          refine ⟨?_, ?_⟩
          · first | omega | (unfold xI; omega) | (exfalso; omega)
          refine ⟨?_, ?_⟩
          · first | omega | (unfold xI; omega) | (exfalso; omega)
          first | (exfalso; omega) | exact nW
        · skip
          refine ⟨?_, ?_⟩
          · first | omega | (unfold xI; omega) | (exfalso; omega)
          refine ⟨?_, ?_⟩
          · first | omega | (unfold xI; omega) | (exfalso; omega)
          refine ⟨?_, ?_⟩
          · first | omega | (unfold xI; omega) | (exfalso; omega)
          refine ⟨?_, ?_⟩
          · first | omega | (unfold xI; omega) | (exfalso; omega)
          refine ⟨?_, ?_⟩
          · first | omega | (unfold xI; omega) | (exfalso; omega)
          refine ⟨fun c7 => ?_, fun c7 => ?_⟩
          · skip
            refine ⟨?_, ?_⟩
            · first | omega | (unfold xI; omega) | (exfalso; omega)
            refine ⟨?_, ?_⟩
            · first | omega | (unfold xI; omega) | (exfalso; omega)
            first | (exfalso; omega) | exact nW
          · skip
            refine ⟨?_, ?_⟩
            · first | omega | (unfold xI; omega) | (exfalso; omega)
            refine ⟨?_, ?_⟩
            · first | omega | (unfold xI; omega) | (exfalso; omega)
            first | (exfalso; omega) | exact nW
      · skip
        refine ⟨?_, ?_⟩
        · first | omega | (unfold xI; omega) | (exfalso; omega)
        refine ⟨?_, ?_⟩
        · first | omega | (unfold xI; omega) | (exfalso; omega)
        refine ⟨?_, ?_⟩
        · first | omega | (unfold xI; omega) | (exfalso; omega)
        refine ⟨?_, ?_⟩
        · first | omega | (unfold xI; omega) | (exfalso; omega)
        refine ⟨?_, ?_⟩
        · first | omega | (unfold xI; omega) | (exfalso; omega)
        refine ⟨?_, ?_⟩
        · first | omega | (unfold xI; omega) | (exfalso; omega)
        refine ⟨?_, ?_⟩
        · first | omega | (unfold xI; omega) | (exfalso; omega)
        refine ⟨?_, ?_⟩
        · first | omega | (unfold xI; omega) | (exfalso; omega)
        refine ⟨?_, ?_⟩
        · first | omega | (unfold xI; omega) | (exfalso; omega)
        refine ⟨fun c8 => ?_, fun c8 => ?_⟩
        · skip
          refine ⟨fun c9 => ?_, fun c9 => ?_⟩
          · skip
            refine ⟨?_, ?_⟩
            · first | omega | (unfold xI; omega) | (exfalso; omega)
            refine ⟨?_, ?_⟩
            · first | omega | (unfold xI; omega) | (exfalso; omega)
            first | (exfalso; omega) | exact nW
          · skip
            refine ⟨?_, ?_⟩
            · first | omega | (unfold xI; omega) | (exfalso; omega)
            refine ⟨?_, ?_⟩
            · first | omega | (unfold xI; omega) | (exfalso; omega)
            refine ⟨?_, ?_⟩
            · first | omega | (unfold xI; omega) | (exfalso; omega)
            refine ⟨?_, ?_⟩
            · first | omega | (unfold xI; omega) | (exfalso; omega)
            refine ⟨?_, ?_⟩
            · first | omega | (unfold xI; omega) | (exfalso; omega)
            refine ⟨fun c10 => ?_, fun c10 => ?_⟩
            · skip
              refine ⟨?_, ?_⟩
              · first | omega | (unfold xI; omega) | (exfalso; omega)
              refine ⟨?_, ?_⟩
              · first | omega | (unfold xI; omega) | (exfalso; omega)
              first | (exfalso; omega) | exact nW
            · skip
              refine ⟨?_, ?_⟩
              · first | omega | (unfold xI; omega) | (exfalso; omega)
              refine ⟨?_, ?_⟩
              · first | omega | (unfold xI; omega) | (exfalso; omega)
              first | (exfalso; omega) | exact nW
        · skip
          refine ⟨?_, ?_⟩
          · first | omega | (unfold xI; omega) | (exfalso; omega)
          refine ⟨fun c11 => ?_, fun c11 => ?_⟩
          · skip
            refine ⟨?_, ?_⟩
            · first | omega | (unfold xI; omega) | (exfalso; omega)
            refine ⟨?_, ?_⟩
            · first | omega | (unfold xI; omega) | (exfalso; omega)
            first | (exfalso; omega) | exact nW
          · skip
            first | (exfalso; omega) | exact nW
  · skip
    refine ⟨fun c12 => ?_, fun c12 => ?_⟩
    · skip
      refine ⟨fun c13 => ?_, fun c13 => ?_⟩
      · skip
        refine ⟨fun c14 => ?_, fun c14 => ?_⟩
        · skip
          first | (exfalso; omega) | exact nW
        · skip
          first | (exfalso; omega) | exact nW
      · skip
        first | (exfalso; omega) | exact nW
    · skip
      refine ⟨?_, ?_⟩
      · first | omega | (unfold xI; omega) | (exfalso; omega)
      refine ⟨?_, ?_⟩
      · first | omega | (unfold xI; omega) | (exfalso; omega)
      refine ⟨?_, ?_⟩
      · first | omega | (unfold xI; omega) | (exfalso; omega)
      refine ⟨fun c15 => ?_, fun c15 => ?_⟩
      · skip
        refine ⟨fun c16 => ?_, fun c16 => ?_⟩
        · skip
          refine ⟨?_, ?_⟩
          · first | omega | (unfold xI; omega) | (exfalso; omega)
          refine ⟨?_, ?_⟩
          · first | omega | (unfold xI; omega) | (exfalso; omega)
          first | (exfalso; omega) | exact nW
        · skip
          refine ⟨?_, ?_⟩
          · first | omega | (unfold xI; omega) | (exfalso; omega)
          refine ⟨?_, ?_⟩
          · first | omega | (unfold xI; omega) | (exfalso; omega)
          refine ⟨?_, ?_⟩
          · first | omega | (unfold xI; omega) | (exfalso; omega)
          refine ⟨?_, ?_⟩
          · first | omega | (unfold xI; omega) | (exfalso; omega)
          refine ⟨?_, ?_⟩
          · first | omega | (unfold xI; omega) | (exfalso; omega)
          refine ⟨fun c17 => ?_, fun c17 => ?_⟩
          · skip
            refine ⟨?_, ?_⟩
            · first | omega | (unfold xI; omega) | (exfalso; omega)
            refine ⟨?_, ?_⟩
            · first | omega | (unfold xI; omega) | (exfalso; omega)
            first | (exfalso; omega) | exact nW
          · skip
            refine ⟨?_, ?_⟩
            · first | omega | (unfold xI; omega) | (exfalso; omega)
            refine ⟨?_, ?_⟩
            · first | omega | (unfold xI; omega) | (exfalso; omega)
            first | (exfalso; omega) | exact nW
      · skip
        refine ⟨fun c18 => ?_, fun c18 => ?_⟩
        · skip
          refine ⟨fun c19 => ?_, fun c19 => ?_⟩
          · skip
            refine ⟨?_, ?_⟩
            · first | omega | (unfold xI; omega) | (exfalso; omega)
            refine ⟨?_, ?_⟩
            · first | omega | (unfold xI; omega) | (exfalso; omega)
            first | (exfalso; omega) | exact nW
          · skip
            refine ⟨?_, ?_⟩
            · first | omega | (unfold xI; omega) | (exfalso; omega)
            refine ⟨?_, ?_⟩
            · first | omega | (unfold xI; omega) | (exfalso; omega)
            refine ⟨?_, ?_⟩
            · first | omega | (unfold xI; omega) | (exfalso; omega)
            refine ⟨?_, ?_⟩
            · first | omega | (unfold xI; omega) | (exfalso; omega)
            refine ⟨?_, ?_⟩
            · first | omega | (unfold xI; omega) | (exfalso; omega)
            refine ⟨fun c20 => ?_, fun c20 => ?_⟩
            · skip
              refine ⟨?_, ?_⟩
              · first | omega | (unfold xI; omega) | (exfalso; omega)
              refine ⟨?_, ?_⟩
              · first | omega | (unfold xI; omega) | (exfalso; omega)
              first | (exfalso; omega) | exact nW
            · skip
              refine ⟨?_, ?_⟩
              · first | omega | (unfold xI; omega) | (exfalso; omega)
              refine ⟨?_, ?_⟩
              · first | omega | (unfold xI; omega) | (exfalso; omega)
              first | (exfalso; omega) | exact nW
        · skip
          refine ⟨?_, ?_⟩
          · first | omega | (unfold xI; omega) | (exfalso; omega)
          refine ⟨?_, ?_⟩
          · first | omega | (unfold xI; omega) | (exfalso; omega)
          refine ⟨?_, ?_⟩
          · first | omega | (unfold xI; omega) | (exfalso; omega)
          refine ⟨?_, ?_⟩
          · first | omega | (unfold xI; omega) | (exfalso; omega)
          refine ⟨?_, ?_⟩
          · first | omega | (unfold xI; omega) | (exfalso; omega)
          refine ⟨?_, ?_⟩
          · first | omega | (unfold xI; omega) | (exfalso; omega)
          refine ⟨?_, ?_⟩
          · first | omega | (unfold xI; omega) | (exfalso; omega)
          refine ⟨?_, ?_⟩
          · first | omega | (unfold xI; omega) | (exfalso; omega)
          refine ⟨?_, ?_⟩
          · first | omega | (unfold xI; omega) | (exfalso; omega)
          refine ⟨fun c21 => ?_, fun c21 => ?_⟩
          · skip
            refine ⟨fun c22 => ?_, fun c22 => ?_⟩
            · skip
              refine ⟨?_, ?_⟩
              · first | omega | (unfold xI; omega) | (exfalso; omega)
              refine ⟨?_, ?_⟩
              · first | omega | (unfold xI; omega) | (exfalso; omega)
              first | (exfalso; omega) | exact nW
            · skip
              refine ⟨?_, ?_⟩
              · first | omega | (unfold xI; omega) | (exfalso; omega)
              refine ⟨?_, ?_⟩
              · first | omega | (unfold xI; omega) | (exfalso; omega)
              refine ⟨?_, ?_⟩
              · first | omega | (unfold xI; omega) | (exfalso; omega)
              refine ⟨?_, ?_⟩
              · first | omega | (unfold xI; omega) | (exfalso; omega)
              refine ⟨?_, ?_⟩
              · first | omega | (unfold xI; omega) | (exfalso; omega)
              refine ⟨fun c23 => ?_, fun c23 => ?_⟩
              · skip
                refine ⟨?_, ?_⟩
                · first | omega | (unfold xI; omega) | (exfalso; omega)
                refine ⟨?_, ?_⟩
                · first | omega | (unfold xI; omega) | (exfalso; omega)
                first | (exfalso; omega) | exact nW
              · skip
                refine ⟨?_, ?_⟩
                · first | omega | (unfold xI; omega) | (exfalso; omega)
                refine ⟨?_, ?_⟩
                · first | omega | (unfold xI; omega) | (exfalso; omega)
                first | (exfalso; omega) | exact nW
          · skip
            refine ⟨?_, ?_⟩
            · first | omega | (unfold xI; omega) | (exfalso; omega)
            refine ⟨fun c24 => ?_, fun c24 => ?_⟩
            · skip
              refine ⟨?_, ?_⟩
              · first | omega | (unfold xI; omega) | (exfalso; omega)
              refine ⟨?_, ?_⟩
              · first | omega | (unfold xI; omega) | (exfalso; omega)
              first | (exfalso; omega) | exact nW
            · skip
              first | (exfalso; omega) | exact nW

theorem t_239_c {X : Int × (Int → Int)} {d : Nat} {Q : Int → XH → Prop} (hd : 1 ≤ d) {n m a b i j wa ba cij : Int} {h : XH} (e47 : h 67 47 = n) (e1 : h 68 1 = m) (e9 : h 68 9 = a) (hn : 0 ≤ n ∧ n ≤ 8) (hm : 0 ≤ m ∧ m ≤ 8) (ha : 0 ≤ a ∧ a ≤ 1000) (hi : 0 ≤ i ∧ i ≤ n) (hj : 0 ≤ j ∧ j ≤ m) (hwa : 0 ≤ wa ∧ wa ≤ i) (hba : 0 ≤ ba ∧ ba ≤ j) (tij : h 97 (9 * i + j) = cij) (rij : 0 ≤ cij ∧ cij ≤ 16000) (a1 : ¬ i < n) (q1 : m ≤ j → b = 1 → Q wa h) (q2 : m ≤ j → b = 2 → Q ba h) (q3 : m ≤ j → ¬ b = 1 → ¬ b = 2 → Q (-1) h) (nB : j < m → xq X d 239 Q 64 [(0, (2, 67)), (2, (0, b)), (3, (0, i)), (4, (0, j + 1)), (5, (0, wa)), (6, (0, ba + 1))] [] h) : xq X d 239 Q 64 [(0, (2, 67)), (2, (0, b)), (3, (0, i)), (4, (0, j)), (5, (0, wa)), (6, (0, ba))] [] h := by
  refine U_239_64 (by omega) b i j wa ba h ?_
  rw [e47, e1, e9]
  refine ⟨fun c1 => ?_, fun c1 => ?_⟩
  · skip
    refine ⟨?_, ?_⟩
    · first | omega | (unfold xI; omega) | (exfalso; omega)
    refine ⟨?_, ?_⟩
    · first | omega | (unfold xI; omega) | (exfalso; omega)
    refine ⟨?_, ?_⟩
    · first | omega | (unfold xI; omega) | (exfalso; omega)
    refine ⟨fun c2 => ?_, fun c2 => ?_⟩
    · skip
      refine ⟨fun c3 => ?_, fun c3 => ?_⟩
      · skip
        refine ⟨?_, ?_⟩
        · first | omega | (unfold xI; omega) | (exfalso; omega)
        refine ⟨?_, ?_⟩
        · first | omega | (unfold xI; omega) | (exfalso; omega)
        first | (exfalso; omega) | exact q1 (by omega) (by omega) | exact q2 (by omega) (by omega) | exact q3 (by omega) (by omega) (by omega) | exact nB (by omega)
      · skip
        refine ⟨?_, ?_⟩
        · first | omega | (unfold xI; omega) | (exfalso; omega)
        refine ⟨?_, ?_⟩
        · first | omega | (unfold xI; omega) | (exfalso; omega)
        refine ⟨?_, ?_⟩
        · first | omega | (unfold xI; omega) | (exfalso; omega)
        refine ⟨?_, ?_⟩
        · first | omega | (unfold xI; omega) | (exfalso; omega)
        refine ⟨?_, ?_⟩
        · first | omega | (unfold xI; omega) | (exfalso; omega)
        refine ⟨fun c4 => ?_, fun c4 => ?_⟩
        · skip
          refine ⟨?_, ?_⟩
          · first | omega | (unfold xI; omega) | (exfalso; omega)
          refine ⟨?_, ?_⟩
          · first | omega | (unfold xI; omega) | (exfalso; omega)
          first | (exfalso; omega) | exact q1 (by omega) (by omega) | exact q2 (by omega) (by omega) | exact q3 (by omega) (by omega) (by omega) | exact nB (by omega)
        · skip
          refine ⟨?_, ?_⟩
          · first | omega | (unfold xI; omega) | (exfalso; omega)
          refine ⟨?_, ?_⟩
          · first | omega | (unfold xI; omega) | (exfalso; omega)
          first | (exfalso; omega) | exact q1 (by omega) (by omega) | exact q2 (by omega) (by omega) | exact q3 (by omega) (by omega) (by omega) | exact nB (by omega)
    · skip
      refine ⟨fun c5 => ?_, fun c5 => ?_⟩
      · skip
        refine ⟨fun c6 => ?_, fun c6 => ?_⟩
        · skip
          refine ⟨?_, ?_⟩
          · first | omega | (unfold xI; omega) | (exfalso; omega)
          refine ⟨?_, ?_⟩
          · first | omega | (unfold xI; omega) | (exfalso; omega)
          first | (exfalso; omega) | exact q1 (by omega) (by omega) | exact q2 (by omega) (by omega) | exact q3 (by omega) (by omega) (by omega) | exact nB (by omega)
        · skip
          refine ⟨?_, ?_⟩
          · first | omega | (unfold xI; omega) | (exfalso; omega)
          refine ⟨?_, ?_⟩
          · first | omega | (unfold xI; omega) | (exfalso; omega)
          refine ⟨?_, ?_⟩
          · first | omega | (unfold xI; omega) | (exfalso; omega)
          refine ⟨?_, ?_⟩
          · first | omega | (unfold xI; omega) | (exfalso; omega)
          refine ⟨?_, ?_⟩
          · first | omega | (unfold xI; omega) | (exfalso; omega)
          refine ⟨fun c7 => ?_, fun c7 => ?_⟩
          · skip
            refine ⟨?_, ?_⟩
            · first | omega | (unfold xI; omega) | (exfalso; omega)
            refine ⟨?_, ?_⟩
            · first | omega | (unfold xI; omega) | (exfalso; omega)
            first | (exfalso; omega) | exact q1 (by omega) (by omega) | exact q2 (by omega) (by omega) | exact q3 (by omega) (by omega) (by omega) | exact nB (by omega)
          · skip
            refine ⟨?_, ?_⟩
            · first | omega | (unfold xI; omega) | (exfalso; omega)
            refine ⟨?_, ?_⟩
            · first | omega | (unfold xI; omega) | (exfalso; omega)
            first | (exfalso; omega) | exact q1 (by omega) (by omega) | exact q2 (by omega) (by omega) | exact q3 (by omega) (by omega) (by omega) | exact nB (by omega)
      · skip
        refine ⟨?_, ?_⟩
        · first | omega | (unfold xI; omega) | (exfalso; omega)
        refine ⟨?_, ?_⟩
        · first | omega | (unfold xI; omega) | (exfalso; omega)
        refine ⟨?_, ?_⟩
        · first | omega | (unfold xI; omega) | (exfalso; omega)
        refine ⟨?_, ?_⟩
        · first | omega | (unfold xI; omega) | (exfalso; omega)
        refine ⟨?_, ?_⟩
        · first | omega | (unfold xI; omega) | (exfalso; omega)
        refine ⟨?_, ?_⟩
        · first | omega | (unfold xI; omega) | (exfalso; omega)
        refine ⟨?_, ?_⟩
        · first | omega | (unfold xI; omega) | (exfalso; omega)
        refine ⟨?_, ?_⟩
        · first | omega | (unfold xI; omega) | (exfalso; omega)
        refine ⟨?_, ?_⟩
        · first | omega | (unfold xI; omega) | (exfalso; omega)
        refine ⟨fun c8 => ?_, fun c8 => ?_⟩
        · skip
          refine ⟨fun c9 => ?_, fun c9 => ?_⟩
          · skip
            refine ⟨?_, ?_⟩
            · first | omega | (unfold xI; omega) | (exfalso; omega)
            refine ⟨?_, ?_⟩
            · first | omega | (unfold xI; omega) | (exfalso; omega)
            first | (exfalso; omega) | exact q1 (by omega) (by omega) | exact q2 (by omega) (by omega) | exact q3 (by omega) (by omega) (by omega) | exact nB (by omega)
          · skip
            refine ⟨?_, ?_⟩
            · first | omega | (unfold xI; omega) | (exfalso; omega)
            refine ⟨?_, ?_⟩
            · first | omega | (unfold xI; omega) | (exfalso; omega)
            refine ⟨?_, ?_⟩
            · first | omega | (unfold xI; omega) | (exfalso; omega)
            refine ⟨?_, ?_⟩
            · first | omega | (unfold xI; omega) | (exfalso; omega)
            refine ⟨?_, ?_⟩
            · first | omega | (unfold xI; omega) | (exfalso; omega)
            refine ⟨fun c10 => ?_, fun c10 => ?_⟩
            · skip
              refine ⟨?_, ?_⟩
              · first | omega | (unfold xI; omega) | (exfalso; omega)
              refine ⟨?_, ?_⟩
              · first | omega | (unfold xI; omega) | (exfalso; omega)
              first | (exfalso; omega) | exact q1 (by omega) (by omega) | exact q2 (by omega) (by omega) | exact q3 (by omega) (by omega) (by omega) | exact nB (by omega)
            · skip
              refine ⟨?_, ?_⟩
              · first | omega | (unfold xI; omega) | (exfalso; omega)
              refine ⟨?_, ?_⟩
              · first | omega | (unfold xI; omega) | (exfalso; omega)
              first | (exfalso; omega) | exact q1 (by omega) (by omega) | exact q2 (by omega) (by omega) | exact q3 (by omega) (by omega) (by omega) | exact nB (by omega)
        · skip
          refine ⟨?_, ?_⟩
          · first | omega | (unfold xI; omega) | (exfalso; omega)
          refine ⟨fun c11 => ?_, fun c11 => ?_⟩
          · skip
            refine ⟨?_, ?_⟩
            · first | omega | (unfold xI; omega) | (exfalso; omega)
            refine ⟨?_, ?_⟩
            · first | omega | (unfold xI; omega) | (exfalso; omega)
            first | (exfalso; omega) | exact q1 (by omega) (by omega) | exact q2 (by omega) (by omega) | exact q3 (by omega) (by omega) (by omega) | exact nB (by omega)
          · skip
            first | (exfalso; omega) | exact q1 (by omega) (by omega) | exact q2 (by omega) (by omega) | exact q3 (by omega) (by omega) (by omega) | exact nB (by omega)
  · skip
    refine ⟨fun c12 => ?_, fun c12 => ?_⟩
    · skip
      refine ⟨fun c13 => ?_, fun c13 => ?_⟩
      · skip
        refine ⟨fun c14 => ?_, fun c14 => ?_⟩
        · skip
          first | (exfalso; omega) | exact q1 (by omega) (by omega) | exact q2 (by omega) (by omega) | exact q3 (by omega) (by omega) (by omega) | exact nB (by omega)
        · skip
          first | (exfalso; omega) | exact q1 (by omega) (by omega) | exact q2 (by omega) (by omega) | exact q3 (by omega) (by omega) (by omega) | exact nB (by omega)
      · skip
        first | (exfalso; omega) | exact q1 (by omega) (by omega) | exact q2 (by omega) (by omega) | exact q3 (by omega) (by omega) (by omega) | exact nB (by omega)
    · skip
      refine ⟨?_, ?_⟩
      · first | omega | (unfold xI; omega) | (exfalso; omega)
      refine ⟨?_, ?_⟩
      · first | omega | (unfold xI; omega) | (exfalso; omega)
      refine ⟨?_, ?_⟩
      · first | omega | (unfold xI; omega) | (exfalso; omega)
      refine ⟨fun c15 => ?_, fun c15 => ?_⟩
      · skip
        refine ⟨fun c16 => ?_, fun c16 => ?_⟩
        · skip
          refine ⟨?_, ?_⟩
          · first | omega | (unfold xI; omega) | (exfalso; omega)
          refine ⟨?_, ?_⟩
          · first | omega | (unfold xI; omega) | (exfalso; omega)
          first | (exfalso; omega) | exact q1 (by omega) (by omega) | exact q2 (by omega) (by omega) | exact q3 (by omega) (by omega) (by omega) | exact nB (by omega)
        · skip
          refine ⟨?_, ?_⟩
          · first | omega | (unfold xI; omega) | (exfalso; omega)
          refine ⟨?_, ?_⟩
          · first | omega | (unfold xI; omega) | (exfalso; omega)
          refine ⟨?_, ?_⟩
          · first | omega | (unfold xI; omega) | (exfalso; omega)
          refine ⟨?_, ?_⟩
          · first | omega | (unfold xI; omega) | (exfalso; omega)
          refine ⟨?_, ?_⟩
          · first | omega | (unfold xI; omega) | (exfalso; omega)
          refine ⟨fun c17 => ?_, fun c17 => ?_⟩
          · skip
            refine ⟨?_, ?_⟩
            · first | omega | (unfold xI; omega) | (exfalso; omega)
            refine ⟨?_, ?_⟩
            · first | omega | (unfold xI; omega) | (exfalso; omega)
            first | (exfalso; omega) | exact q1 (by omega) (by omega) | exact q2 (by omega) (by omega) | exact q3 (by omega) (by omega) (by omega) | exact nB (by omega)
          · skip
            refine ⟨?_, ?_⟩
            · first | omega | (unfold xI; omega) | (exfalso; omega)
            refine ⟨?_, ?_⟩
            · first | omega | (unfold xI; omega) | (exfalso; omega)
            first | (exfalso; omega) | exact q1 (by omega) (by omega) | exact q2 (by omega) (by omega) | exact q3 (by omega) (by omega) (by omega) | exact nB (by omega)
      · skip
        refine ⟨fun c18 => ?_, fun c18 => ?_⟩
        · skip
          refine ⟨fun c19 => ?_, fun c19 => ?_⟩
          · skip
            refine ⟨?_, ?_⟩
            · first | omega | (unfold xI; omega) | (exfalso; omega)
            refine ⟨?_, ?_⟩
            · first | omega | (unfold xI; omega) | (exfalso; omega)
            first | (exfalso; omega) | exact q1 (by omega) (by omega) | exact q2 (by omega) (by omega) | exact q3 (by omega) (by omega) (by omega) | exact nB (by omega)
          · skip
            refine ⟨?_, ?_⟩
            · first | omega | (unfold xI; omega) | (exfalso; omega)
            refine ⟨?_, ?_⟩
            · first | omega | (unfold xI; omega) | (exfalso; omega)
            refine ⟨?_, ?_⟩
            · first | omega | (unfold xI; omega) | (exfalso; omega)
            refine ⟨?_, ?_⟩
            · first | omega | (unfold xI; omega) | (exfalso; omega)
            refine ⟨?_, ?_⟩
            · first | omega | (unfold xI; omega) | (exfalso; omega)
            refine ⟨fun c20 => ?_, fun c20 => ?_⟩
            · skip
              refine ⟨?_, ?_⟩
              · first | omega | (unfold xI; omega) | (exfalso; omega)
              refine ⟨?_, ?_⟩
              · first | omega | (unfold xI; omega) | (exfalso; omega)
              first | (exfalso; omega) | exact q1 (by omega) (by omega) | exact q2 (by omega) (by omega) | exact q3 (by omega) (by omega) (by omega) | exact nB (by omega)
            · skip
              refine ⟨?_, ?_⟩
              · first | omega | (unfold xI; omega) | (exfalso; omega)
              refine ⟨?_, ?_⟩
              · first | omega | (unfold xI; omega) | (exfalso; omega)
              first | (exfalso; omega) | exact q1 (by omega) (by omega) | exact q2 (by omega) (by omega) | exact q3 (by omega) (by omega) (by omega) | exact nB (by omega)
        · skip
          refine ⟨?_, ?_⟩
          · first | omega | (unfold xI; omega) | (exfalso; omega)
          refine ⟨?_, ?_⟩
          · first | omega | (unfold xI; omega) | (exfalso; omega)
          refine ⟨?_, ?_⟩
          · first | omega | (unfold xI; omega) | (exfalso; omega)
          refine ⟨?_, ?_⟩
          · first | omega | (unfold xI; omega) | (exfalso; omega)
          refine ⟨?_, ?_⟩
          · first | omega | (unfold xI; omega) | (exfalso; omega)
          refine ⟨?_, ?_⟩
          · first | omega | (unfold xI; omega) | (exfalso; omega)
          refine ⟨?_, ?_⟩
          · first | omega | (unfold xI; omega) | (exfalso; omega)
          refine ⟨?_, ?_⟩
          · first | omega | (unfold xI; omega) | (exfalso; omega)
          refine ⟨?_, ?_⟩
          · first | omega | (unfold xI; omega) | (exfalso; omega)
          refine ⟨fun c21 => ?_, fun c21 => ?_⟩
          · skip
            refine ⟨fun c22 => ?_, fun c22 => ?_⟩
            · skip
              refine ⟨?_, ?_⟩
              · first | omega | (unfold xI; omega) | (exfalso; omega)
              refine ⟨?_, ?_⟩
              · first | omega | (unfold xI; omega) | (exfalso; omega)
              first | (exfalso; omega) | exact q1 (by omega) (by omega) | exact q2 (by omega) (by omega) | exact q3 (by omega) (by omega) (by omega) | exact nB (by omega)
            · skip
              refine ⟨?_, ?_⟩
              · first | omega | (unfold xI; omega) | (exfalso; omega)
              refine ⟨?_, ?_⟩
              · first | omega | (unfold xI; omega) | (exfalso; omega)
              refine ⟨?_, ?_⟩
              · first | omega | (unfold xI; omega) | (exfalso; omega)
              refine ⟨?_, ?_⟩
              · first | omega | (unfold xI; omega) | (exfalso; omega)
              refine ⟨?_, ?_⟩
              · first | omega | (unfold xI; omega) | (exfalso; omega)
              refine ⟨fun c23 => ?_, fun c23 => ?_⟩
              · skip
                refine ⟨?_, ?_⟩
                · first | omega | (unfold xI; omega) | (exfalso; omega)
                refine ⟨?_, ?_⟩
                · first | omega | (unfold xI; omega) | (exfalso; omega)
                first | (exfalso; omega) | exact q1 (by omega) (by omega) | exact q2 (by omega) (by omega) | exact q3 (by omega) (by omega) (by omega) | exact nB (by omega)
              · skip
                refine ⟨?_, ?_⟩
                · first | omega | (unfold xI; omega) | (exfalso; omega)
                refine ⟨?_, ?_⟩
                · first | omega | (unfold xI; omega) | (exfalso; omega)
                first | (exfalso; omega) | exact q1 (by omega) (by omega) | exact q2 (by omega) (by omega) | exact q3 (by omega) (by omega) (by omega) | exact nB (by omega)
          · skip
            refine ⟨?_, ?_⟩
            · first | omega | (unfold xI; omega) | (exfalso; omega)
            refine ⟨fun c24 => ?_, fun c24 => ?_⟩
            · skip
              refine ⟨?_, ?_⟩
              · first | omega | (unfold xI; omega) | (exfalso; omega)
              refine ⟨?_, ?_⟩
              · first | omega | (unfold xI; omega) | (exfalso; omega)
              first | (exfalso; omega) | exact q1 (by omega) (by omega) | exact q2 (by omega) (by omega) | exact q3 (by omega) (by omega) (by omega) | exact nB (by omega)
            · skip
              first | (exfalso; omega) | exact q1 (by omega) (by omega) | exact q2 (by omega) (by omega) | exact q3 (by omega) (by omega) (by omega) | exact nB (by omega)

theorem trV_keep {C F : Int → Int → Int} {n m a k : Int} : ∀ (r : Nat) (i j wa ba : Int) (P : Int → Int), k < j → (trV C F n m a r i j wa ba P).2.2 k = P k
  | 0, _, _, _, _, _, _ => rfl
  | r + 1, i, j, wa, ba, P, h => by
    by_cases q0 : n ≤ i ∧ m ≤ j
    · rw [trV_e q0]
    · by_cases q1 : (i < n ∧ j < m) ∧ F i j + C (i + 1) (j + 1) = C i j
      · rw [trV_p q1, trV_keep r (i + 1) (j + 1) wa ba _ (by omega), if_neg (by omega)]
      · by_cases q2 : i < n ∧ C (i + 1) j + a = C i j
        · rw [trV_w q1 q2]
          exact trV_keep r (i + 1) j (wa + 1) ba P h
        · rw [trV_b q0 q1 q2]
          exact trV_keep r i (j + 1) wa (ba + 1) P (by omega)
theorem t_239_64 {X : Int × (Int → Int)} {d : Nat} {Q : Int → XH → Prop} (hd : 1 ≤ d) {n m a c b : Int} {f y : Int → Int} {h : XH} (I : hcI n m a c f y) (e47 : h 67 47 = n) (e1 : h 68 1 = m) (e9 : h 68 9 = a) (tb : ∀ i j, 0 ≤ i → i ≤ n → 0 ≤ j → j ≤ m → h 97 (9 * i + j) = csV (lfV f y) n m a c i j) (tf : ∀ i j, 0 ≤ i → i < n → 0 ≤ j → j < m → h 98 (8 * i + j) = lfV f y i j) (pb : b = 1 ∨ b = 2 ∨ (100 ≤ b ∧ b < 100 + m)) (Z : Int × Int × (Int → Int)) (hQ1 : b = 1 → Q Z.1 h) (hQ2 : b = 2 → Q Z.2.1 h) (hQ3 : 100 ≤ b → Q (Z.2.2 (b - 100)) h) : ∀ (r : Nat) (i j wa ba : Int) (P : Int → Int), (n - i) + (m - j) ≤ (r : Int) → (0 ≤ i ∧ i ≤ n) → (0 ≤ j ∧ j ≤ m) → (0 ≤ wa ∧ wa ≤ i) → (0 ≤ ba ∧ ba ≤ j) → (100 ≤ b → P (b - 100) = -1) → trV (csV (lfV f y) n m a c) (lfV f y) n m a r i j wa ba P = Z → xq X d 239 Q 64 [(0, (2, 67)), (2, (0, b)), (3, (0, i)), (4, (0, j)), (5, (0, wa)), (6, (0, ba))] [] h := by
  have rng := hcI_rng I
  have fr := lfV_rng I.2.2.2.2.1 I.2.2.2.2.2
  obtain ⟨I1, I2, I3, I4, -, -⟩ := I
  have eqm := fun (i j : Int) (q : i < n) (q2 : j = m) => csV_eqm (F := lfV f y) (n := n) (m := m) (a := a) (b := c) q q2
  generalize csV (lfV f y) n m a c = C at *
  intro r
  induction r with
  | zero =>
    intro i j wa ba P hr hi hj hwa hba hP ez
    rw [trV_e ⟨by omega, by omega⟩] at ez
    subst ez
    have q3 : ¬ b = 1 → ¬ b = 2 → Q (-1) h := fun x1 x2 => by
      have z := hQ3 (by omega)
      rw [show ((wa, ba, P) : Int × Int × (Int → Int)).2.2 (b - 100) = -1 from hP (by omega)] at z
      exact z
    refine U_239_64 (by omega) b i j wa ba h ?_
    rw [e47, e1]
    refine ⟨fun c1 => ?_, fun c1 => ?_⟩
    · skip
      refine ⟨?_, ?_⟩
      · first | omega | (unfold xI; omega) | (exfalso; omega)
      refine ⟨?_, ?_⟩
      · first | omega | (unfold xI; omega) | (exfalso; omega)
      refine ⟨?_, ?_⟩
      · first | omega | (unfold xI; omega) | (exfalso; omega)
      refine ⟨fun c2 => ?_, fun c2 => ?_⟩
      · skip
        refine ⟨fun c3 => ?_, fun c3 => ?_⟩
        · skip
          refine ⟨?_, ?_⟩
          · first | omega | (unfold xI; omega) | (exfalso; omega)
          refine ⟨?_, ?_⟩
          · first | omega | (unfold xI; omega) | (exfalso; omega)
          first | (exfalso; omega) | exact hQ1 (by omega) | exact hQ2 (by omega) | exact q3 (by omega) (by omega)
        · skip
          refine ⟨?_, ?_⟩
          · first | omega | (unfold xI; omega) | (exfalso; omega)
          refine ⟨?_, ?_⟩
          · first | omega | (unfold xI; omega) | (exfalso; omega)
          refine ⟨?_, ?_⟩
          · first | omega | (unfold xI; omega) | (exfalso; omega)
          refine ⟨?_, ?_⟩
          · first | omega | (unfold xI; omega) | (exfalso; omega)
          refine ⟨?_, ?_⟩
          · first | omega | (unfold xI; omega) | (exfalso; omega)
          refine ⟨fun c4 => ?_, fun c4 => ?_⟩
          · skip
            refine ⟨?_, ?_⟩
            · first | omega | (unfold xI; omega) | (exfalso; omega)
            refine ⟨?_, ?_⟩
            · first | omega | (unfold xI; omega) | (exfalso; omega)
            first | (exfalso; omega) | exact hQ1 (by omega) | exact hQ2 (by omega) | exact q3 (by omega) (by omega)
          · skip
            refine ⟨?_, ?_⟩
            · first | omega | (unfold xI; omega) | (exfalso; omega)
            refine ⟨?_, ?_⟩
            · first | omega | (unfold xI; omega) | (exfalso; omega)
            first | (exfalso; omega) | exact hQ1 (by omega) | exact hQ2 (by omega) | exact q3 (by omega) (by omega)
      · skip
        refine ⟨fun c5 => ?_, fun c5 => ?_⟩
        · skip
          refine ⟨fun c6 => ?_, fun c6 => ?_⟩
          · skip
            refine ⟨?_, ?_⟩
            · first | omega | (unfold xI; omega) | (exfalso; omega)
            refine ⟨?_, ?_⟩
            · first | omega | (unfold xI; omega) | (exfalso; omega)
            first | (exfalso; omega) | exact hQ1 (by omega) | exact hQ2 (by omega) | exact q3 (by omega) (by omega)
          · skip
            refine ⟨?_, ?_⟩
            · first | omega | (unfold xI; omega) | (exfalso; omega)
            refine ⟨?_, ?_⟩
            · first | omega | (unfold xI; omega) | (exfalso; omega)
            refine ⟨?_, ?_⟩
            · first | omega | (unfold xI; omega) | (exfalso; omega)
            refine ⟨?_, ?_⟩
            · first | omega | (unfold xI; omega) | (exfalso; omega)
            refine ⟨?_, ?_⟩
            · first | omega | (unfold xI; omega) | (exfalso; omega)
            refine ⟨fun c7 => ?_, fun c7 => ?_⟩
            · skip
              refine ⟨?_, ?_⟩
              · first | omega | (unfold xI; omega) | (exfalso; omega)
              refine ⟨?_, ?_⟩
              · first | omega | (unfold xI; omega) | (exfalso; omega)
              first | (exfalso; omega) | exact hQ1 (by omega) | exact hQ2 (by omega) | exact q3 (by omega) (by omega)
            · skip
              refine ⟨?_, ?_⟩
              · first | omega | (unfold xI; omega) | (exfalso; omega)
              refine ⟨?_, ?_⟩
              · first | omega | (unfold xI; omega) | (exfalso; omega)
              first | (exfalso; omega) | exact hQ1 (by omega) | exact hQ2 (by omega) | exact q3 (by omega) (by omega)
        · skip
          refine ⟨?_, ?_⟩
          · first | omega | (unfold xI; omega) | (exfalso; omega)
          refine ⟨?_, ?_⟩
          · first | omega | (unfold xI; omega) | (exfalso; omega)
          refine ⟨?_, ?_⟩
          · first | omega | (unfold xI; omega) | (exfalso; omega)
          refine ⟨?_, ?_⟩
          · first | omega | (unfold xI; omega) | (exfalso; omega)
          refine ⟨?_, ?_⟩
          · first | omega | (unfold xI; omega) | (exfalso; omega)
          refine ⟨?_, ?_⟩
          · first | omega | (unfold xI; omega) | (exfalso; omega)
          refine ⟨?_, ?_⟩
          · first | omega | (unfold xI; omega) | (exfalso; omega)
          refine ⟨?_, ?_⟩
          · first | omega | (unfold xI; omega) | (exfalso; omega)
          refine ⟨?_, ?_⟩
          · first | omega | (unfold xI; omega) | (exfalso; omega)
          refine ⟨fun c8 => ?_, fun c8 => ?_⟩
          · skip
            refine ⟨fun c9 => ?_, fun c9 => ?_⟩
            · skip
              refine ⟨?_, ?_⟩
              · first | omega | (unfold xI; omega) | (exfalso; omega)
              refine ⟨?_, ?_⟩
              · first | omega | (unfold xI; omega) | (exfalso; omega)
              first | (exfalso; omega) | exact hQ1 (by omega) | exact hQ2 (by omega) | exact q3 (by omega) (by omega)
            · skip
              refine ⟨?_, ?_⟩
              · first | omega | (unfold xI; omega) | (exfalso; omega)
              refine ⟨?_, ?_⟩
              · first | omega | (unfold xI; omega) | (exfalso; omega)
              refine ⟨?_, ?_⟩
              · first | omega | (unfold xI; omega) | (exfalso; omega)
              refine ⟨?_, ?_⟩
              · first | omega | (unfold xI; omega) | (exfalso; omega)
              refine ⟨?_, ?_⟩
              · first | omega | (unfold xI; omega) | (exfalso; omega)
              refine ⟨fun c10 => ?_, fun c10 => ?_⟩
              · skip
                refine ⟨?_, ?_⟩
                · first | omega | (unfold xI; omega) | (exfalso; omega)
                refine ⟨?_, ?_⟩
                · first | omega | (unfold xI; omega) | (exfalso; omega)
                first | (exfalso; omega) | exact hQ1 (by omega) | exact hQ2 (by omega) | exact q3 (by omega) (by omega)
              · skip
                refine ⟨?_, ?_⟩
                · first | omega | (unfold xI; omega) | (exfalso; omega)
                refine ⟨?_, ?_⟩
                · first | omega | (unfold xI; omega) | (exfalso; omega)
                first | (exfalso; omega) | exact hQ1 (by omega) | exact hQ2 (by omega) | exact q3 (by omega) (by omega)
          · skip
            refine ⟨?_, ?_⟩
            · first | omega | (unfold xI; omega) | (exfalso; omega)
            refine ⟨fun c11 => ?_, fun c11 => ?_⟩
            · skip
              refine ⟨?_, ?_⟩
              · first | omega | (unfold xI; omega) | (exfalso; omega)
              refine ⟨?_, ?_⟩
              · first | omega | (unfold xI; omega) | (exfalso; omega)
              first | (exfalso; omega) | exact hQ1 (by omega) | exact hQ2 (by omega) | exact q3 (by omega) (by omega)
            · skip
              first | (exfalso; omega) | exact hQ1 (by omega) | exact hQ2 (by omega) | exact q3 (by omega) (by omega)
    · skip
      refine ⟨fun c12 => ?_, fun c12 => ?_⟩
      · skip
        refine ⟨fun c13 => ?_, fun c13 => ?_⟩
        · skip
          refine ⟨fun c14 => ?_, fun c14 => ?_⟩
          · skip
            first | (exfalso; omega) | exact hQ1 (by omega) | exact hQ2 (by omega) | exact q3 (by omega) (by omega)
          · skip
            first | (exfalso; omega) | exact hQ1 (by omega) | exact hQ2 (by omega) | exact q3 (by omega) (by omega)
        · skip
          first | (exfalso; omega) | exact hQ1 (by omega) | exact hQ2 (by omega) | exact q3 (by omega) (by omega)
      · skip
        refine ⟨?_, ?_⟩
        · first | omega | (unfold xI; omega) | (exfalso; omega)
        refine ⟨?_, ?_⟩
        · first | omega | (unfold xI; omega) | (exfalso; omega)
        refine ⟨?_, ?_⟩
        · first | omega | (unfold xI; omega) | (exfalso; omega)
        refine ⟨fun c15 => ?_, fun c15 => ?_⟩
        · skip
          refine ⟨fun c16 => ?_, fun c16 => ?_⟩
          · skip
            refine ⟨?_, ?_⟩
            · first | omega | (unfold xI; omega) | (exfalso; omega)
            refine ⟨?_, ?_⟩
            · first | omega | (unfold xI; omega) | (exfalso; omega)
            first | (exfalso; omega) | exact hQ1 (by omega) | exact hQ2 (by omega) | exact q3 (by omega) (by omega)
          · skip
            refine ⟨?_, ?_⟩
            · first | omega | (unfold xI; omega) | (exfalso; omega)
            refine ⟨?_, ?_⟩
            · first | omega | (unfold xI; omega) | (exfalso; omega)
            refine ⟨?_, ?_⟩
            · first | omega | (unfold xI; omega) | (exfalso; omega)
            refine ⟨?_, ?_⟩
            · first | omega | (unfold xI; omega) | (exfalso; omega)
            refine ⟨?_, ?_⟩
            · first | omega | (unfold xI; omega) | (exfalso; omega)
            refine ⟨fun c17 => ?_, fun c17 => ?_⟩
            · skip
              refine ⟨?_, ?_⟩
              · first | omega | (unfold xI; omega) | (exfalso; omega)
              refine ⟨?_, ?_⟩
              · first | omega | (unfold xI; omega) | (exfalso; omega)
              first | (exfalso; omega) | exact hQ1 (by omega) | exact hQ2 (by omega) | exact q3 (by omega) (by omega)
            · skip
              refine ⟨?_, ?_⟩
              · first | omega | (unfold xI; omega) | (exfalso; omega)
              refine ⟨?_, ?_⟩
              · first | omega | (unfold xI; omega) | (exfalso; omega)
              first | (exfalso; omega) | exact hQ1 (by omega) | exact hQ2 (by omega) | exact q3 (by omega) (by omega)
        · skip
          refine ⟨fun c18 => ?_, fun c18 => ?_⟩
          · skip
            refine ⟨fun c19 => ?_, fun c19 => ?_⟩
            · skip
              refine ⟨?_, ?_⟩
              · first | omega | (unfold xI; omega) | (exfalso; omega)
              refine ⟨?_, ?_⟩
              · first | omega | (unfold xI; omega) | (exfalso; omega)
              first | (exfalso; omega) | exact hQ1 (by omega) | exact hQ2 (by omega) | exact q3 (by omega) (by omega)
            · skip
              refine ⟨?_, ?_⟩
              · first | omega | (unfold xI; omega) | (exfalso; omega)
              refine ⟨?_, ?_⟩
              · first | omega | (unfold xI; omega) | (exfalso; omega)
              refine ⟨?_, ?_⟩
              · first | omega | (unfold xI; omega) | (exfalso; omega)
              refine ⟨?_, ?_⟩
              · first | omega | (unfold xI; omega) | (exfalso; omega)
              refine ⟨?_, ?_⟩
              · first | omega | (unfold xI; omega) | (exfalso; omega)
              refine ⟨fun c20 => ?_, fun c20 => ?_⟩
              · skip
                refine ⟨?_, ?_⟩
                · first | omega | (unfold xI; omega) | (exfalso; omega)
                refine ⟨?_, ?_⟩
                · first | omega | (unfold xI; omega) | (exfalso; omega)
                first | (exfalso; omega) | exact hQ1 (by omega) | exact hQ2 (by omega) | exact q3 (by omega) (by omega)
              · skip
                refine ⟨?_, ?_⟩
                · first | omega | (unfold xI; omega) | (exfalso; omega)
                refine ⟨?_, ?_⟩
                · first | omega | (unfold xI; omega) | (exfalso; omega)
                first | (exfalso; omega) | exact hQ1 (by omega) | exact hQ2 (by omega) | exact q3 (by omega) (by omega)
          · skip
            refine ⟨?_, ?_⟩
            · first | omega | (unfold xI; omega) | (exfalso; omega)
            refine ⟨?_, ?_⟩
            · first | omega | (unfold xI; omega) | (exfalso; omega)
            refine ⟨?_, ?_⟩
            · first | omega | (unfold xI; omega) | (exfalso; omega)
            refine ⟨?_, ?_⟩
            · first | omega | (unfold xI; omega) | (exfalso; omega)
            refine ⟨?_, ?_⟩
            · first | omega | (unfold xI; omega) | (exfalso; omega)
            refine ⟨?_, ?_⟩
            · first | omega | (unfold xI; omega) | (exfalso; omega)
            refine ⟨?_, ?_⟩
            · first | omega | (unfold xI; omega) | (exfalso; omega)
            refine ⟨?_, ?_⟩
            · first | omega | (unfold xI; omega) | (exfalso; omega)
            refine ⟨?_, ?_⟩
            · first | omega | (unfold xI; omega) | (exfalso; omega)
            refine ⟨fun c21 => ?_, fun c21 => ?_⟩
            · skip
              refine ⟨fun c22 => ?_, fun c22 => ?_⟩
              · skip
                refine ⟨?_, ?_⟩
                · first | omega | (unfold xI; omega) | (exfalso; omega)
                refine ⟨?_, ?_⟩
                · first | omega | (unfold xI; omega) | (exfalso; omega)
                first | (exfalso; omega) | exact hQ1 (by omega) | exact hQ2 (by omega) | exact q3 (by omega) (by omega)
              · skip
                refine ⟨?_, ?_⟩
                · first | omega | (unfold xI; omega) | (exfalso; omega)
                refine ⟨?_, ?_⟩
                · first | omega | (unfold xI; omega) | (exfalso; omega)
                refine ⟨?_, ?_⟩
                · first | omega | (unfold xI; omega) | (exfalso; omega)
                refine ⟨?_, ?_⟩
                · first | omega | (unfold xI; omega) | (exfalso; omega)
                refine ⟨?_, ?_⟩
                · first | omega | (unfold xI; omega) | (exfalso; omega)
                refine ⟨fun c23 => ?_, fun c23 => ?_⟩
                · skip
                  refine ⟨?_, ?_⟩
                  · first | omega | (unfold xI; omega) | (exfalso; omega)
                  refine ⟨?_, ?_⟩
                  · first | omega | (unfold xI; omega) | (exfalso; omega)
                  first | (exfalso; omega) | exact hQ1 (by omega) | exact hQ2 (by omega) | exact q3 (by omega) (by omega)
                · skip
                  refine ⟨?_, ?_⟩
                  · first | omega | (unfold xI; omega) | (exfalso; omega)
                  refine ⟨?_, ?_⟩
                  · first | omega | (unfold xI; omega) | (exfalso; omega)
                  first | (exfalso; omega) | exact hQ1 (by omega) | exact hQ2 (by omega) | exact q3 (by omega) (by omega)
            · skip
              refine ⟨?_, ?_⟩
              · first | omega | (unfold xI; omega) | (exfalso; omega)
              refine ⟨fun c24 => ?_, fun c24 => ?_⟩
              · skip
                refine ⟨?_, ?_⟩
                · first | omega | (unfold xI; omega) | (exfalso; omega)
                refine ⟨?_, ?_⟩
                · first | omega | (unfold xI; omega) | (exfalso; omega)
                first | (exfalso; omega) | exact hQ1 (by omega) | exact hQ2 (by omega) | exact q3 (by omega) (by omega)
              · skip
                first | (exfalso; omega) | exact hQ1 (by omega) | exact hQ2 (by omega) | exact q3 (by omega) (by omega)
  | succ r ih =>
    intro i j wa ba P hr hi hj hwa hba hP ez
    have tij := tb i j hi.1 hi.2 hj.1 hj.2
    have t1j : i < n → h 97 (9 * i + 9 + j) = C (i + 1) j := fun q => by
      rw [show 9 * i + 9 + j = 9 * (i + 1) + j by omega]
      exact tb (i + 1) j (by omega) (by omega) hj.1 hj.2
    have t11 : i < n → j < m → h 97 (9 * i + 9 + j + 1) = C (i + 1) (j + 1) := fun q q2 => by
      rw [show 9 * i + 9 + j + 1 = 9 * (i + 1) + (j + 1) by omega]
      exact tb (i + 1) (j + 1) (by omega) (by omega) (by omega) (by omega)
    have tfi := tf i j hi.1
    have rij := rng i j hi.1 hj.1
    have r1j := rng (i + 1) j (by omega) hj.1
    have r11 := rng (i + 1) (j + 1) (by omega) (by omega)
    have frr := fr i j hi.1
    have q1 : n ≤ i → m ≤ j → b = 1 → Q wa h := fun x1 x2 x3 => by
      rw [trV_e ⟨x1, x2⟩] at ez
      subst ez
      exact hQ1 x3
    have q2 : n ≤ i → m ≤ j → b = 2 → Q ba h := fun x1 x2 x3 => by
      rw [trV_e ⟨x1, x2⟩] at ez
      subst ez
      exact hQ2 x3
    have q3 : n ≤ i → m ≤ j → ¬ b = 1 → ¬ b = 2 → Q (-1) h := fun x1 x2 x3 x4 => by
      rw [trV_e ⟨x1, x2⟩] at ez
      subst ez
      have z := hQ3 (by omega)
      rw [show ((wa, ba, P) : Int × Int × (Int → Int)).2.2 (b - 100) = -1 from hP (by omega)] at z
      exact z
    have nR : ((i < n ∧ j < m) ∧ lfV f y i j + C (i + 1) (j + 1) = C i j) → b = 100 + j → Q i h := fun q e => by
      rw [trV_p q] at ez
      have z := hQ3 (by omega)
      rw [← ez, trV_keep _ _ _ _ _ _ (by omega), if_pos (by omega)] at z
      exact z
    have nP : ((i < n ∧ j < m) ∧ lfV f y i j + C (i + 1) (j + 1) = C i j) → ¬ b = 100 + j → xq X d 239 Q 64 [(0, (2, 67)), (2, (0, b)), (3, (0, i + 1)), (4, (0, j + 1)), (5, (0, wa)), (6, (0, ba))] [] h := fun q e => by
      rw [trV_p q] at ez
      exact ih (i + 1) (j + 1) wa ba _ (by omega) (by omega) (by omega) (by omega) (by omega) (fun x => by rw [if_neg (by omega)]; exact hP x) ez
    have nW : ¬ ((i < n ∧ j < m) ∧ lfV f y i j + C (i + 1) (j + 1) = C i j) → i < n → C (i + 1) j + a = C i j → xq X d 239 Q 64 [(0, (2, 67)), (2, (0, b)), (3, (0, i + 1)), (4, (0, j)), (5, (0, wa + 1)), (6, (0, ba))] [] h := fun q x2 x3 => by
      rw [trV_w q ⟨x2, x3⟩] at ez
      exact ih (i + 1) j (wa + 1) ba P (by omega) (by omega) (by omega) (by omega) (by omega) hP ez
    have nB : ¬ ((i < n ∧ j < m) ∧ lfV f y i j + C (i + 1) (j + 1) = C i j) → ¬ (i < n ∧ C (i + 1) j + a = C i j) → ¬ (n ≤ i ∧ m ≤ j) → xq X d 239 Q 64 [(0, (2, 67)), (2, (0, b)), (3, (0, i)), (4, (0, j + 1)), (5, (0, wa)), (6, (0, ba + 1))] [] h := fun q x2 x3 => by
      rw [trV_b x3 q x2] at ez
      have jm : j < m := by
        by_cases y1 : i < n
        · by_cases y2 : j < m
          · exact y2
          · exact absurd ⟨y1, eqm i j y1 (by omega)⟩ x2
        · omega
      exact ih i (j + 1) wa (ba + 1) P (by omega) (by omega) (by omega) (by omega) (by omega) hP ez
    by_cases a1 : i < n
    · by_cases a2 : j < m
      · exact t_239_a hd e47 e1 e9 I1 I2 I3 hi hj hwa hba tij rij a1 a2 (t1j a1) r1j (t11 a1 a2) r11 (tfi a1 hj.1 a2) (frr a1 hj.1 a2) (fun x z => nR ⟨⟨a1, a2⟩, x⟩ z) (fun x z => nP ⟨⟨a1, a2⟩, x⟩ z) (fun x z => nW (fun q => x q.2) a1 z) (fun x z => nB (fun q => x q.2) (fun q => z q.2) (by omega))
      · exact t_239_b hd e47 e1 e9 I1 I2 I3 hi hj hwa hba tij rij a1 a2 (t1j a1) r1j (eqm i j a1 (by omega)) (nW (fun q => a2 q.1.2) a1 (eqm i j a1 (by omega)))
    · exact t_239_c hd e47 e1 e9 I1 I2 I3 hi hj hwa hba tij rij a1 (q1 (by omega)) (q2 (by omega)) (q3 (by omega)) (fun x => nB (fun q => a1 q.1.1) (fun q => a1 q.1) (by omega))

theorem s_239w {X : Int × (Int → Int)} {d : Nat} {Q : Int → XH → Prop} (hd : 13 ≤ d) {lo : Option (List (Int × List Int))} (s b : Int) (hb : b ≤ 2147483647) (H : XH) (hg : GOk (H 67 0) (H 67 1) (H 68)) (hl : lwN lo H) (hQ : ∀ h1 : XH, frM H h1 → Q (vHd lo (H 67 0) (H 67 1) (H 68) s b) h1) : xc X d 239 [(2, 67), (0, s), (0, b)] H Q := by
  cases d with
  | zero => omega
  | succ d =>
  have lyb := hg.lyb
  have msg := hg.msg
  have no : ¬ (0 ≤ s ∧ s ≤ 3 ∧ (b = 0 ∨ b = 1 ∨ b = 2 ∨ (100 ≤ b ∧ b - 100 < H 68 1))) → Q (-1) H := fun q => by
    have z := hQ _ (frM_refl H)
    unfold vHd at z
    by_cases x0 : 0 ≤ s ∧ s ≤ 3
    · rw [if_pos x0, if_neg (by omega), if_neg (by omega), if_neg (by omega), if_neg (by omega)] at z
      exact z
    · rw [if_neg x0] at z
      exact z
  have go : (0 ≤ s ∧ s ≤ 3) → b = 1 ∨ b = 2 ∨ (100 ≤ b ∧ b < 100 + H 68 1) → ∀ h1, frM H h1 → h1 67 47 = (wkW lo (H 67 0) (H 67 1) (H 68) s).1 → (∀ i j, 0 ≤ i → i ≤ (wkW lo (H 67 0) (H 67 1) (H 68) s).1 → 0 ≤ j → j ≤ H 68 1 → h1 97 (9 * i + j) = hdC lo (H 67 0) (H 67 1) (H 68) s i j) → (∀ i j, 0 ≤ i → i < (wkW lo (H 67 0) (H 67 1) (H 68) s).1 → 0 ≤ j → j < H 68 1 → h1 98 (8 * i + j) = lfV (wkW lo (H 67 0) (H 67 1) (H 68) s).2 (fun k => H 68 (560 + k)) i j) → xq X d 239 Q 64 [(0, (2, 67)), (2, (0, b)), (3, (0, 0)), (4, (0, 0)), (5, (0, 0)), (6, (0, 0))] [] h1 := fun ps pb h1 F e47 tb tf => by
    have I := hcI_of (lo := lo) hg ps
    have I1 := I.1
    have e68 : h1 68 = H 68 := F.1 68 (by decide) (by decide)
    have z := hQ _ F
    unfold vHd at z
    rw [if_pos ps, if_neg (by omega)] at z
    refine t_239_64 (by omega) I e47 (by rw [e68]) (by rw [e68]) tb tf pb (hdT lo (H 67 0) (H 67 1) (H 68) s) (fun q => ?_) (fun q => ?_) (fun q => ?_) 16 0 0 0 0 (fun _ => -1) (by omega) (by omega) (by omega) (by decide) (by decide) (fun _ => rfl) rfl
    · rw [if_pos q] at z
      exact z
    · rw [if_neg (by omega), if_pos q] at z
      exact z
    · rw [if_neg (by omega), if_neg (by omega), if_pos (by omega)] at z
      exact z
  have go0 : (0 ≤ s ∧ s ≤ 3) → b = 0 → ∀ h1, frM H h1 → (∀ i j, 0 ≤ i → i ≤ (wkW lo (H 67 0) (H 67 1) (H 68) s).1 → 0 ≤ j → j ≤ H 68 1 → h1 97 (9 * i + j) = hdC lo (H 67 0) (H 67 1) (H 68) s i j) → Q (h1 97 0) h1 := fun ps pb h1 F tb => by
    have I := hcI_of (lo := lo) hg ps
    have z := hQ _ F
    unfold vHd at z
    rw [if_pos ps, if_pos pb] at z
    have e := tb 0 0 (by decide) I.1.1 (by decide) lyb.1
    rw [show h1 97 0 = hdC lo (H 67 0) (H 67 1) (H 68) s 0 0 from e]
    exact z
  refine U_239 (by omega) s b H ?_
  refine ⟨fun c1 => ?_, fun c1 => ?_⟩
  · skip
    refine ⟨fun c2 => ?_, fun c2 => ?_⟩
    · skip
      refine s_238w (by omega) s H hg hl (by omega) (fun h2404 F1 F2 F3 F4 => ?_)
      refine ⟨fun c3 => ?_, fun c3 => ?_⟩
      · skip
        first | (exfalso; omega) | exact no (by omega) | exact go (by omega) (by omega) _ F1 F2 F3 F4 | exact go0 (by omega) (by omega) _ F1 F3
      · skip
        first | (exfalso; omega) | exact no (by omega) | exact go (by omega) (by omega) _ F1 F2 F3 F4 | exact go0 (by omega) (by omega) _ F1 F3
    · skip
      refine ⟨fun c4 => ?_, fun c4 => ?_⟩
      · skip
        first | (exfalso; omega) | exact no (by omega) | exact go (by omega) (by omega) _ F1 F2 F3 F4 | exact go0 (by omega) (by omega) _ F1 F3
      · skip
        refine ⟨?_, ?_⟩
        · first | omega | (unfold xI; omega) | (exfalso; omega)
        refine ⟨?_, ?_⟩
        · first | omega | (unfold xI; omega) | (exfalso; omega)
        refine ⟨fun c5 => ?_, fun c5 => ?_⟩
        · skip
          refine s_238w (by omega) s H hg hl (by omega) (fun h2406 F1 F2 F3 F4 => ?_)
          refine ⟨fun c6 => ?_, fun c6 => ?_⟩
          · skip
            first | (exfalso; omega) | exact no (by omega) | exact go (by omega) (by omega) _ F1 F2 F3 F4 | exact go0 (by omega) (by omega) _ F1 F3
          · skip
            first | (exfalso; omega) | exact no (by omega) | exact go (by omega) (by omega) _ F1 F2 F3 F4 | exact go0 (by omega) (by omega) _ F1 F3
        · skip
          first | (exfalso; omega) | exact no (by omega) | exact go (by omega) (by omega) _ F1 F2 F3 F4 | exact go0 (by omega) (by omega) _ F1 F3
  · skip
    first | (exfalso; omega) | exact no (by omega) | exact go (by omega) (by omega) _ F1 F2 F3 F4 | exact go0 (by omega) (by omega) _ F1 F3

theorem p_held {X : Int × (Int → Int)} {d : Nat} (hd : 15 ≤ d) (s b : Int) (hb : b ≤ 2147483647) (H : XH) (hi : InvS H) (hl : InvL H) : xc X d 237 [(2, 0), (0, s), (0, b)] H (fun r H1 => xc X d 239 [(2, 67), (0, s), (0, b)] H1 (qOk H r)) := by
  obtain ⟨lo, l1, l2⟩ := law_lo hi hl
  exact s_237w (by omega) s b hb H hi l1 (fun h1 f => s_239w (by omega) s b hb h1 (frC_S f hi).1 (lwN_frC f l2) (fun h2 f' => ⟨by rw [f 67 (by decide) (by decide), f 68 (by decide) (by decide)], frQ_CM f f'⟩))
