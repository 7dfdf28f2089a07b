/-! THE PURE LAYER 36: the best way, the class -/
theorem U_99 {X : Int × (Int → Int)} {d : Nat} {Q : Int → XH → Prop} (hd : 0 ≤ d) (w n : Int) (g : Int → Int) (H : XH) (h : (xI ((H 7 1) - 1)) ∧ xq X d 99 Q 31 [(0, (2, 46)), (1, (2, 1)), (2, (2, 39)), (3, (0, H 2 2)), (4, (0, (H 7 1) - 1)), (5, (0, H 9 1)), (6, (0, 0))] [] H) : xc X (d + 1) 99 [(2, 46), (2, 1), (2, 39)] H Q := by
  refine ⟨rfl, ?_⟩
  show xq X d 99 Q 100000 [(0, (2, 46)), (1, (2, 1)), (2, (2, 39))] [] H
  refine xq_run [31, 47, 57, 65, 82, 113, 145, 181, 187, 205] 300 ?_
  show (xI ((H 7 1) - 1)) ∧ xq X d 99 Q 31 [(0, (2, 46)), (1, (2, 1)), (2, (2, 39)), (3, (0, H 2 2)), (4, (0, (H 7 1) - 1)), (5, (0, H 9 1)), (6, (0, 0))] [] H
  refine ⟨h.1, ?_⟩
  replace h := h.2
  exact h
theorem U_99_31 {X : Int × (Int → Int)} {d : Nat} {Q : Int → XH → Prop} (hd : 4 ≤ d) (v3 v4 v5 v6 : Int) (w n : Int) (g : Int → Int) (H : XH) (h : ((v3 ≤ v6) → xq X d 99 Q 57 [(0, (2, 46)), (1, (2, 1)), (2, (2, 39)), (3, (0, v3)), (4, (0, v4)), (5, (0, v5)), (6, (0, v4))] [] H) ∧ (¬ (v3 ≤ v6) → (InvS H) ∧ (0 ≤ v6 ∧ v6 < H 67 1) ∧ (∀ (h352 : XH), ((∀ o, ¬ o = 47 → ¬ o = 48 → h352 o = H o) ∧ (∀ k, ¬ (v6 * 64 ≤ k ∧ k < v6 * 64 + 64) → h352 47 k = H 47 k) ∧ DS (H 67 0) (H 67 1) (fun e => H 68 (20 + e)) v6 (fun c => h352 47 (v6 * 64 + c))) → (xI (v6 + 1)) ∧ xq X d 99 Q 31 [(0, (2, 46)), (1, (2, 1)), (2, (2, 39)), (3, (0, v3)), (4, (0, v4)), (5, (0, v5)), (6, (0, v6 + 1))] [] h352))) : xq X d 99 Q 31 [(0, (2, 46)), (1, (2, 1)), (2, (2, 39)), (3, (0, v3)), (4, (0, v4)), (5, (0, v5)), (6, (0, v6))] [] H := by
  show xq X d 99 Q 31 [(0, (2, 46)), (1, (2, 1)), (2, (2, 39)), (3, (0, v3)), (4, (0, v4)), (5, (0, v5)), (6, (0, v6))] [] H
  refine xq_run [31, 47, 57, 65, 82, 113, 145, 181, 187, 205] 300 ?_
  show ((v3 ≤ v6) → xq X d 99 Q 57 [(0, (2, 46)), (1, (2, 1)), (2, (2, 39)), (3, (0, v3)), (4, (0, v4)), (5, (0, v5)), (6, (0, v4))] [] H) ∧ (¬ (v3 ≤ v6) → xWM (xE X) xMC d 90 [(2, 46), (2, 2), (0, v6)] xKZ H _)
  refine ⟨fun k_ => ?_, fun k_ => ?_⟩
  · replace h := h.1 k_
    exact h
  · replace h := h.2 k_
    refine xc_in (s_90 (by omega) v6 H (h.1) (h.2.1) ?_)
    intro h352 q_0
    replace h := h.2.2 h352 q_0
    show xq X d 99 Q 47 [(0, (2, 46)), (1, (2, 1)), (2, (2, 39)), (3, (0, v3)), (4, (0, v4)), (5, (0, v5)), (6, (0, v6))] [] h352
    refine xq_run [31, 47, 57, 65, 82, 113, 145, 181, 187, 205] 300 ?_
    show (xI (v6 + 1)) ∧ xq X d 99 Q 31 [(0, (2, 46)), (1, (2, 1)), (2, (2, 39)), (3, (0, v3)), (4, (0, v4)), (5, (0, v5)), (6, (0, v6 + 1))] [] h352
    refine ⟨h.1, ?_⟩
    replace h := h.2
    exact h
theorem U_99_57 {X : Int × (Int → Int)} {d : Nat} {Q : Int → XH → Prop} (hd : 5 ≤ d) (v3 v4 v5 v6 : Int) (w n : Int) (g : Int → Int) (H : XH) (h : ((v6 < 0) → (rdH H v3 (H 9 5) 0 v5) ∧ (xq X d 99 Q 187 [(0, (2, 46)), (3, (0, v3)), (4, (0, v4)), (5, (0, v5)), (6, (0, H 9 5)), (7, (0, 0))] [] (xup H 46 4 (mnR (fun c => ctH H (H 9 5) 0 c v5) (v3).toNat)))) ∧ (¬ (v6 < 0) → xq X d 99 Q 65 [(0, (2, 46)), (1, (2, 1)), (2, (2, 39)), (3, (0, v3)), (4, (0, v4)), (5, (0, v5)), (6, (0, v6)), (7, (0, 0))] [] H)) : xq X d 99 Q 57 [(0, (2, 46)), (1, (2, 1)), (2, (2, 39)), (3, (0, v3)), (4, (0, v4)), (5, (0, v5)), (6, (0, v6))] [] H := by
  show xq X d 99 Q 57 [(0, (2, 46)), (1, (2, 1)), (2, (2, 39)), (3, (0, v3)), (4, (0, v4)), (5, (0, v5)), (6, (0, v6))] [] H
  refine xq_run [31, 47, 57, 65, 82, 113, 145, 181, 187, 205] 300 ?_
  show ((v6 < 0) → xWM (xE X) xMC d 98 [(2, 46), (0, H 9 5), (0, 0), (0, v3), (0, v5)] xKZ H _) ∧ (¬ (v6 < 0) → xq X d 99 Q 65 [(0, (2, 46)), (1, (2, 1)), (2, (2, 39)), (3, (0, v3)), (4, (0, v4)), (5, (0, v5)), (6, (0, v6)), (7, (0, 0))] [] H)
  refine ⟨fun k_ => ?_, fun k_ => ?_⟩
  · replace h := h.1 k_
    refine xc_in (s_98 (by omega) (H 9 5) 0 v3 v5 H (h.1) ?_)
    replace h := h.2
    show xq X d 99 Q 181 [(6, (0, H 9 5)), (0, (2, 46)), (1, (2, 1)), (2, (2, 39)), (3, (0, v3)), (4, (0, v4)), (5, (0, v5))] [(0, mnR (fun c => ctH H (H 9 5) 0 c v5) (v3).toNat), (2, 46)] H
    refine xq_run [31, 47, 57, 65, 82, 113, 145, 181, 187, 205] 300 ?_
    show xq X d 99 Q 187 [(0, (2, 46)), (3, (0, v3)), (4, (0, v4)), (5, (0, v5)), (6, (0, H 9 5)), (7, (0, 0))] [] (xup H 46 4 (mnR (fun c => ctH H (H 9 5) 0 c v5) (v3).toNat))
    exact h
  · replace h := h.2 k_
    exact h
theorem U_99_187 {X : Int × (Int → Int)} {d : Nat} {Q : Int → XH → Prop} (hd : 4 ≤ d) (v3 v4 v5 v6 v7 : Int) (w n : Int) (g : Int → Int) (H : XH) (h : ((v4 < v7) → ((H 46 4 = (-1)) → Q 0 H) ∧ (¬ (H 46 4 = (-1)) → Q 1 H)) ∧ (¬ (v4 < v7) → (rdH H v3 v6 v7 v5) ∧ (((0 : Int) ≤ v7 ∧ (v7 : Int) < 8) ∧ (xI (v7 + 1)) ∧ xq X d 99 Q 187 [(0, (2, 46)), (3, (0, v3)), (4, (0, v4)), (5, (0, v5)), (6, (0, mnB (fun c => ctH H v6 v7 c v5) (v3).toNat)), (7, (0, v7 + 1))] [] (xup H 50 v7 (mnB (fun c => ctH H v6 v7 c v5) (v3).toNat))))) : xq X d 99 Q 187 [(0, (2, 46)), (3, (0, v3)), (4, (0, v4)), (5, (0, v5)), (6, (0, v6)), (7, (0, v7))] [] H := by
  show xq X d 99 Q 187 [(0, (2, 46)), (3, (0, v3)), (4, (0, v4)), (5, (0, v5)), (6, (0, v6)), (7, (0, v7))] [] H
  refine xq_run [31, 47, 57, 65, 82, 113, 145, 181, 187, 205] 300 ?_
  show ((v4 < v7) → ((H 46 4 = (-1)) → xfR 3 0 ∧ xKZ = xKZ ∧ Q 0 H) ∧ (¬ (H 46 4 = (-1)) → xfR 3 1 ∧ xKZ = xKZ ∧ Q 1 H)) ∧ (¬ (v4 < v7) → xWM (xE X) xMC d 97 [(2, 46), (0, v6), (0, v7), (0, v3), (0, v5)] xKZ H _)
  refine ⟨fun k_ => ?_, fun k_ => ?_⟩
  · replace h := h.1 k_
    refine ⟨fun k_ => ?_, fun k_ => ?_⟩
    · replace h := h.1 k_
      exact ⟨xfR3_0, rfl, h⟩
    · replace h := h.2 k_
      exact ⟨xfR3_1, rfl, h⟩
  · replace h := h.2 k_
    refine xc_in (s_97 (by omega) v6 v7 v3 v5 H (h.1) ?_)
    replace h := h.2
    show xq X d 99 Q 205 [(0, (2, 46)), (3, (0, v3)), (4, (0, v4)), (5, (0, v5)), (6, (0, v6)), (7, (0, v7))] [(0, mnB (fun c => ctH H v6 v7 c v5) (v3).toNat)] H
    refine xq_run [31, 47, 57, 65, 82, 113, 145, 181, 187, 205] 300 ?_
    show ((0 : Int) ≤ v7 ∧ (v7 : Int) < 8) ∧ (xI (v7 + 1)) ∧ xq X d 99 Q 187 [(0, (2, 46)), (3, (0, v3)), (4, (0, v4)), (5, (0, v5)), (6, (0, mnB (fun c => ctH H v6 v7 c v5) (v3).toNat)), (7, (0, v7 + 1))] [] (xup H 50 v7 (mnB (fun c => ctH H v6 v7 c v5) (v3).toNat))
    refine ⟨h.1, ?_⟩
    replace h := h.2
    refine ⟨h.1, ?_⟩
    replace h := h.2
    exact h
theorem U_99_65 {X : Int × (Int → Int)} {d : Nat} {Q : Int → XH → Prop} (hd : 5 ≤ d) (v3 v4 v5 v6 v7 : Int) (w n : Int) (g : Int → Int) (H : XH) (h : ((v3 ≤ v7) → (xI (v6 + (-1))) ∧ xq X d 99 Q 57 [(0, (2, 46)), (1, (2, 1)), (2, (2, 39)), (3, (0, v3)), (4, (0, v4)), (5, (0, v5)), (6, (0, v6 + (-1)))] [] H) ∧ (¬ (v3 ≤ v7) → (lkA w n g H) ∧ (0 ≤ v6 ∧ v6 < g 1) ∧ (0 ≤ v7 ∧ v7 < n) ∧ (((alB w n g v6 v7 = 0) → (xI (v6 * 64)) ∧ (xI ((v6 * 64) + v7)) ∧ ((0 : Int) ≤ (v6 * 64) + v7 ∧ ((v6 * 64) + v7 : Int) < 512) ∧ (xI (v7 + 1)) ∧ xq X d 99 Q 65 [(0, (2, 46)), (1, (2, 1)), (2, (2, 39)), (3, (0, v3)), (4, (0, v4)), (5, (0, v5)), (6, (0, v6)), (7, (0, v7 + 1))] [] (xup H 49 ((v6 * 64) + v7) (-1))) ∧ (¬ (alB w n g v6 v7 = 0) → ((¬ v6 = v4) → (xI (v6 + 1)) ∧ (rdH H v3 v7 (v6 + 1) v5) ∧ ((xI (v6 * 64)) ∧ (xI ((v6 * 64) + v7)) ∧ ((¬ mnR (fun c => ctH H v7 (v6 + 1) c v5) (v3).toNat = (-1)) → (lkA w n g H) ∧ (0 ≤ v6 ∧ v6 < g 1) ∧ (0 ≤ v7 ∧ v7 < n) ∧ ((xI ((frV w n g v6 v7) + (mnR (fun c => ctH H v7 (v6 + 1) c v5) (v3).toNat))) ∧ ((0 : Int) ≤ (v6 * 64) + v7 ∧ ((v6 * 64) + v7 : Int) < 512) ∧ (xI (v7 + 1)) ∧ xq X d 99 Q 65 [(0, (2, 46)), (1, (2, 1)), (2, (2, 39)), (3, (0, v3)), (4, (0, v4)), (5, (0, v5)), (6, (0, v6)), (7, (0, v7 + 1))] [] (xup H 49 ((v6 * 64) + v7) ((frV w n g v6 v7) + (mnR (fun c => ctH H v7 (v6 + 1) c v5) (v3).toNat))))) ∧ (¬ (¬ mnR (fun c => ctH H v7 (v6 + 1) c v5) (v3).toNat = (-1)) → ((0 : Int) ≤ (v6 * 64) + v7 ∧ ((v6 * 64) + v7 : Int) < 512) ∧ (xI (v7 + 1)) ∧ xq X d 99 Q 65 [(0, (2, 46)), (1, (2, 1)), (2, (2, 39)), (3, (0, v3)), (4, (0, v4)), (5, (0, v5)), (6, (0, v6)), (7, (0, v7 + 1))] [] (xup H 49 ((v6 * 64) + v7) (-1))))) ∧ (¬ (¬ v6 = v4) → (xI (v6 * 64)) ∧ (xI ((v6 * 64) + v7)) ∧ (lkA w n g H) ∧ (0 ≤ v6 ∧ v6 < g 1) ∧ (0 ≤ v7 ∧ v7 < n) ∧ ((xI ((frV w n g v6 v7) + 0)) ∧ ((0 : Int) ≤ (v6 * 64) + v7 ∧ ((v6 * 64) + v7 : Int) < 512) ∧ (xI (v7 + 1)) ∧ xq X d 99 Q 65 [(0, (2, 46)), (1, (2, 1)), (2, (2, 39)), (3, (0, v3)), (4, (0, v4)), (5, (0, v5)), (6, (0, v6)), (7, (0, v7 + 1))] [] (xup H 49 ((v6 * 64) + v7) ((frV w n g v6 v7) + 0)))))))) : xq X d 99 Q 65 [(0, (2, 46)), (1, (2, 1)), (2, (2, 39)), (3, (0, v3)), (4, (0, v4)), (5, (0, v5)), (6, (0, v6)), (7, (0, v7))] [] H := by
  show xq X d 99 Q 65 [(0, (2, 46)), (1, (2, 1)), (2, (2, 39)), (3, (0, v3)), (4, (0, v4)), (5, (0, v5)), (6, (0, v6)), (7, (0, v7))] [] H
  refine xq_run [31, 47, 57, 65, 82, 113, 145, 181, 187, 205] 300 ?_
  show ((v3 ≤ v7) → (xI (v6 + (-1))) ∧ xq X d 99 Q 57 [(0, (2, 46)), (1, (2, 1)), (2, (2, 39)), (3, (0, v3)), (4, (0, v4)), (5, (0, v5)), (6, (0, v6 + (-1)))] [] H) ∧ (¬ (v3 ≤ v7) → xWM (xE X) xMC d 68 [(2, 39), (0, v6), (0, v7)] xKZ H _)
  refine ⟨fun k_ => ?_, fun k_ => ?_⟩
  · replace h := h.1 k_
    refine ⟨h.1, ?_⟩
    replace h := h.2
    exact h
  · replace h := h.2 k_
    refine xc_in (s_68 (by omega) w n g v6 v7 H (h.1) (h.2.1) (h.2.2.1) ?_)
    replace h := h.2.2.2
    show xq X d 99 Q 82 [(8, (0, (-1))), (0, (2, 46)), (1, (2, 1)), (2, (2, 39)), (3, (0, v3)), (4, (0, v4)), (5, (0, v5)), (6, (0, v6)), (7, (0, v7))] [(0, alB w n g v6 v7)] H
    refine xq_run [31, 47, 57, 65, 82, 113, 145, 181, 187, 205] 300 ?_
    show ((alB w n g v6 v7 = 0) → (xI (v6 * 64)) ∧ (xI ((v6 * 64) + v7)) ∧ ((¬ (-1) = (-1)) → _) ∧ (¬ (¬ (-1) = (-1)) → ((0 : Int) ≤ (v6 * 64) + v7 ∧ ((v6 * 64) + v7 : Int) < 512) ∧ (xI (v7 + 1)) ∧ xq X d 99 Q 65 [(0, (2, 46)), (1, (2, 1)), (2, (2, 39)), (3, (0, v3)), (4, (0, v4)), (5, (0, v5)), (6, (0, v6)), (7, (0, v7 + 1))] [] (xup H 49 ((v6 * 64) + v7) (-1)))) ∧ (¬ (alB w n g v6 v7 = 0) → ((¬ v6 = v4) → (xI (v6 + 1)) ∧ xWM (xE X) xMC d 98 [(2, 46), (0, v7), (0, v6 + 1), (0, v3), (0, v5)] xKZ H _) ∧ (¬ (¬ v6 = v4) → xq X d 99 Q 113 [(9, (0, alB w n g v6 v7)), (8, (0, (-1))), (0, (2, 46)), (1, (2, 1)), (2, (2, 39)), (3, (0, v3)), (4, (0, v4)), (5, (0, v5)), (6, (0, v6)), (7, (0, v7))] [(0, 0)] H))
    refine ⟨fun k_ => ?_, fun k_ => ?_⟩
    · replace h := h.1 k_
      refine ⟨h.1, ?_⟩
      replace h := h.2
      refine ⟨h.1, ?_⟩
      replace h := h.2
      refine ⟨fun k_ => absurd k_ (by decide), fun k_ => ?_⟩
      refine ⟨h.1, ?_⟩
      replace h := h.2
      refine ⟨h.1, ?_⟩
      replace h := h.2
      exact h
    · replace h := h.2 k_
      refine ⟨fun k_ => ?_, fun k_ => ?_⟩
      · replace h := h.1 k_
        refine ⟨h.1, ?_⟩
        replace h := h.2
        refine xc_in (s_98 (by omega) v7 (v6 + 1) v3 v5 H (h.1) ?_)
        replace h := h.2
        show xq X d 99 Q 113 [(9, (0, alB w n g v6 v7)), (8, (0, (-1))), (0, (2, 46)), (1, (2, 1)), (2, (2, 39)), (3, (0, v3)), (4, (0, v4)), (5, (0, v5)), (6, (0, v6)), (7, (0, v7))] [(0, mnR (fun c => ctH H v7 (v6 + 1) c v5) (v3).toNat)] H
        refine xq_run [31, 47, 57, 65, 82, 113, 145, 181, 187, 205] 300 ?_
        show (xI (v6 * 64)) ∧ (xI ((v6 * 64) + v7)) ∧ ((¬ mnR (fun c => ctH H v7 (v6 + 1) c v5) (v3).toNat = (-1)) → xWM (xE X) xMC d 61 [(2, 39), (0, v6), (0, v7)] xKZ H _) ∧ (¬ (¬ mnR (fun c => ctH H v7 (v6 + 1) c v5) (v3).toNat = (-1)) → ((0 : Int) ≤ (v6 * 64) + v7 ∧ ((v6 * 64) + v7 : Int) < 512) ∧ (xI (v7 + 1)) ∧ xq X d 99 Q 65 [(0, (2, 46)), (1, (2, 1)), (2, (2, 39)), (3, (0, v3)), (4, (0, v4)), (5, (0, v5)), (6, (0, v6)), (7, (0, v7 + 1))] [] (xup H 49 ((v6 * 64) + v7) (-1)))
        refine ⟨h.1, ?_⟩
        replace h := h.2
        refine ⟨h.1, ?_⟩
        replace h := h.2
        refine ⟨fun k_ => ?_, fun k_ => ?_⟩
        · replace h := h.1 k_
          refine xc_in (s_61b (by omega) w n g v6 v7 H (h.1) (h.2.1) (h.2.2.1) ?_)
          replace h := h.2.2.2
          show xq X d 99 Q 145 [(8, (0, mnR (fun c => ctH H v7 (v6 + 1) c v5) (v3).toNat)), (9, (0, alB w n g v6 v7)), (0, (2, 46)), (1, (2, 1)), (2, (2, 39)), (3, (0, v3)), (4, (0, v4)), (5, (0, v5)), (6, (0, v6)), (7, (0, v7))] [(0, frV w n g v6 v7), (0, (v6 * 64) + v7), (2, 49)] H
          refine xq_run [31, 47, 57, 65, 82, 113, 145, 181, 187, 205] 300 ?_
          show (xI ((frV w n g v6 v7) + (mnR (fun c => ctH H v7 (v6 + 1) c v5) (v3).toNat))) ∧ ((0 : Int) ≤ (v6 * 64) + v7 ∧ ((v6 * 64) + v7 : Int) < 512) ∧ (xI (v7 + 1)) ∧ xq X d 99 Q 65 [(0, (2, 46)), (1, (2, 1)), (2, (2, 39)), (3, (0, v3)), (4, (0, v4)), (5, (0, v5)), (6, (0, v6)), (7, (0, v7 + 1))] [] (xup H 49 ((v6 * 64) + v7) ((frV w n g v6 v7) + (mnR (fun c => ctH H v7 (v6 + 1) c v5) (v3).toNat)))
          refine ⟨h.1, ?_⟩
          replace h := h.2
          refine ⟨h.1, ?_⟩
          replace h := h.2
          refine ⟨h.1, ?_⟩
          replace h := h.2
          exact h
        · replace h := h.2 k_
          refine ⟨h.1, ?_⟩
          replace h := h.2
          refine ⟨h.1, ?_⟩
          replace h := h.2
          exact h
      · replace h := h.2 k_
        show xq X d 99 Q 113 [(9, (0, alB w n g v6 v7)), (8, (0, (-1))), (0, (2, 46)), (1, (2, 1)), (2, (2, 39)), (3, (0, v3)), (4, (0, v4)), (5, (0, v5)), (6, (0, v6)), (7, (0, v7))] [(0, 0)] H
        refine xq_run [31, 47, 57, 65, 82, 113, 145, 181, 187, 205] 300 ?_
        show (xI (v6 * 64)) ∧ (xI ((v6 * 64) + v7)) ∧ ((¬ 0 = (-1)) → xWM (xE X) xMC d 61 [(2, 39), (0, v6), (0, v7)] xKZ H _) ∧ (¬ (¬ 0 = (-1)) → _)
        refine ⟨h.1, ?_⟩
        replace h := h.2
        refine ⟨h.1, ?_⟩
        replace h := h.2
        refine ⟨fun k_ => ?_, fun k_ => absurd (by decide) k_⟩
        refine xc_in (s_61b (by omega) w n g v6 v7 H (h.1) (h.2.1) (h.2.2.1) ?_)
        replace h := h.2.2.2
        show xq X d 99 Q 145 [(8, (0, 0)), (9, (0, alB w n g v6 v7)), (0, (2, 46)), (1, (2, 1)), (2, (2, 39)), (3, (0, v3)), (4, (0, v4)), (5, (0, v5)), (6, (0, v6)), (7, (0, v7))] [(0, frV w n g v6 v7), (0, (v6 * 64) + v7), (2, 49)] H
        refine xq_run [31, 47, 57, 65, 82, 113, 145, 181, 187, 205] 300 ?_
        show (xI ((frV w n g v6 v7) + 0)) ∧ ((0 : Int) ≤ (v6 * 64) + v7 ∧ ((v6 * 64) + v7 : Int) < 512) ∧ (xI (v7 + 1)) ∧ xq X d 99 Q 65 [(0, (2, 46)), (1, (2, 1)), (2, (2, 39)), (3, (0, v3)), (4, (0, v4)), (5, (0, v5)), (6, (0, v6)), (7, (0, v7 + 1))] [] (xup H 49 ((v6 * 64) + v7) ((frV w n g v6 v7) + 0))
        refine ⟨h.1, ?_⟩
        replace h := h.2
        refine ⟨h.1, ?_⟩
        replace h := h.2
        refine ⟨h.1, ?_⟩
        replace h := h.2
        exact h

theorem yA_rng (w n : Int) (g : Int → Int) (h5 : -1 ≤ g 5 ∧ g 5 < n) (hT : ∀ k : Nat, (k : Int) + 1 ≤ g 1 → ∀ f, -1 ≤ f → f < n → ∀ c : Int, 0 ≤ c → c < n.toNat → -1 ≤ yT w n g k f c) : ∀ l : Nat, (l : Int) ≤ g 1 → -1 ≤ yA w n g l ∧ yA w n g l < n
  | 0, _ => h5
  | l + 1, h => by
    have ih := yA_rng w n g h5 hT l (by omega)
    have e : yA w n g (l + 1) = mnB (wyT (wyD w n g) (alB w n g) (frV w n g) (g 7) n.toNat ((g 1).toNat : Int) ((g 1).toNat - (l + 1)) (yA w n g l)) n.toNat := rfl
    have e1 : ((g 1).toNat : Int) = g 1 := by omega
    rw [e, e1]
    have ma := mn_at (ct := wyT (wyD w n g) (alB w n g) (frV w n g) (g 7) n.toNat (g 1) ((g 1).toNat - (l + 1)) (yA w n g l)) n.toNat (hT ((g 1).toNat - (l + 1)) (by omega) _ ih.1 ih.2)
    rcases ma with ⟨-, b, -⟩ | ⟨a, -⟩ <;> omega
theorem yA_s (w n : Int) (g : Int → Int) (h1 : 0 ≤ g 1) (l : Nat) : yA w n g (l + 1) = mnB (yT w n g ((g 1).toNat - (l + 1)) (yA w n g l)) n.toNat := by
  have e1 : ((g 1).toNat : Int) = g 1 := by omega
  show mnB (wyT (wyD w n g) (alB w n g) (frV w n g) (g 7) n.toNat ((g 1).toNat : Int) ((g 1).toNat - (l + 1)) (yA w n g l)) n.toNat = _
  rw [e1]
  rfl
theorem rd_ro {w n : Int} {g : Int → Int} {h : XH} (hg : GOk w n g) (hy : yOk w n g) (hd : roD w n g h) {k j : Nat} (hkm : (k : Int) ≤ g 1) (hj : j < k) (hk : roK w n g k h) {f l : Int} (f0 : -1 ≤ f) (f1 : f < n) (hl : l = g 1 - ((j + 1 : Nat) : Int)) : rdH h n f l (g 7) := by
  have nn := hg.nn
  have lyb := hg.lyb
  refine ⟨by omega, by omega, hg.pce, ⟨f0, f1⟩, fun a b a0 a1 b0 b1 => ?_, fun c c0 c1 => ?_⟩
  · rw [hd a b a0 a1 b0 b1]
    have := (hy a a0 a1).rg b b0 b1
    omega
  · rw [hl, hk j hj c c0 c1]
    split
    · omega
    · next q =>
      have a := alB_fr hg (l := g 1 - ((j + 1 : Nat) : Int)) (c := c) (by omega) (by omega)
      have b := yR_rng hg hy j (by omega) (f := c) (by omega) c1
      have := hg.bnd
      omega

theorem s_99 {X : Int × (Int → Int)} {d : Nat} {Q : Int → XH → Prop} (hd : 9 ≤ d) (H : XH) (hi : InvS H) (hk : lkA (H 67 0) (H 67 1) (H 68) H) (h1m : 1 ≤ H 68 1) (hQ : ∀ (b : Int) (h1 : XH), (frC H h1 ∧ ((yR (H 67 0) (H 67 1) (H 68) (H 68 1).toNat (H 68 5) = -1 ∧ b = 0) ∨ (¬ yR (H 67 0) (H 67 1) (H 68) (H 68 1).toNat (H 68 5) = -1 ∧ b = 1 ∧ h1 46 4 = yR (H 67 0) (H 67 1) (H 68) (H 68 1).toNat (H 68 5) ∧ ∀ l : Int, 0 ≤ l → l < H 68 1 → h1 50 l = yA (H 67 0) (H 67 1) (H 68) (l + 1).toNat))) → Q b h1) : xc X d 99 [(2, 46), (2, 1), (2, 39)] H Q := by
  cases d with
  | zero => omega
  | succ d =>
  have hg := hi.1
  have hs := hi.2
  have nn := hg.nn
  have ww := hg.ww
  have l0 := hs.l0
  have l2 := hs.l2
  have hc := hs.c
  have r1 := hs.r1
  have r5 := hs.r5
  have lyb := hg.lyb
  have pce := hg.pce
  have stc := hg.stc
  obtain ⟨M, hM⟩ : ∃ M : Nat, (H 68 1).toNat = M := ⟨_, rfl⟩
  have hM1 : (M : Int) = H 68 1 := by omega
  rw [hM] at hQ
  -- choosing
  have keyC : yOk (H 67 0) (H 67 1) (H 68) → ∀ (k : Nat) (l : Nat) (h : XH), l + k = M → roI H h → roD (H 67 0) (H 67 1) (H 68) h → roK (H 67 0) (H 67 1) (H 68) M h → h 46 4 = yR (H 67 0) (H 67 1) (H 68) M (H 68 5) → (∀ j : Int, 0 ≤ j → j < l → h 50 j = yA (H 67 0) (H 67 1) (H 68) (j + 1).toNat) → xq X d 99 Q 187 [(0, (2, 46)), (3, (0, H 67 1)), (4, (0, H 68 1 - 1)), (5, (0, H 68 7)), (6, (0, yA (H 67 0) (H 67 1) (H 68) l)), (7, (0, (l : Int)))] [] h := by
    intro hy k
    have hT := fun (k : Nat) (q : (k : Int) + 1 ≤ H 68 1) (f : Int) (f0 : -1 ≤ f) (f1 : f < H 67 1) (c : Int) (c0 : 0 ≤ c) (c1 : c < (H 67 1).toNat) => ((yT_rng hg hy k q f f0 f1).1 c c0 c1).1
    induction k with
    | zero =>
      intro l h hl f hd2 hk2 h4 hj
      refine U_99_187 (by omega) (H 67 1) (H 68 1 - 1) (H 68 7) _ (l : Int) (H 67 0) (H 67 1) (H 68) h ?_
      refine ⟨fun c1 => ?_, fun c1 => ?_⟩
      · skip
        refine ⟨fun c2 => ?_, fun c2 => ?_⟩
        · skip
          exact hQ 0 h ⟨fun o a b => f o (by omega), Or.inl ⟨by omega, rfl⟩⟩
        · skip
          exact hQ 1 h ⟨fun o a b => f o (by omega), Or.inr ⟨by omega, rfl, h4, fun j a b => hj j a (by omega)⟩⟩
      · skip
        refine ⟨?_, ?_⟩
        · first | omega | (unfold xI; omega) | (exfalso; omega)
        refine ⟨?_, ?_⟩
        · first | omega | (unfold xI; omega) | (exfalso; omega)
        refine ⟨?_, ?_⟩
        · first | omega | (unfold xI; omega) | (exfalso; omega)
        exfalso
        omega
    | succ k ih =>
      intro l h hl f hd2 hk2 h4 hj
      have ar := yA_rng (H 67 0) (H 67 1) (H 68) (by omega) hT l (by omega)
      have rd : rdH h (H 67 1) (yA (H 67 0) (H 67 1) (H 68) l) (l : Int) (H 68 7) := rd_ro hg hy hd2 (k := M) (j := M - (l + 1)) (by omega) (by omega) hk2 ar.1 ar.2 (by omega)
      have eB : mnB (fun c => ctH h (yA (H 67 0) (H 67 1) (H 68) l) (l : Int) c (H 68 7)) (H 67 1).toNat = yA (H 67 0) (H 67 1) (H 68) (l + 1) := by
        rw [yA_s _ _ _ (by omega), hM]
        refine (mn_congr _ (fun e e0 e1 => ?_)).2
        have z := ro_ct hg hy (by omega) hd2 (k := M) (by omega) (j := M - (l + 1)) (by omega) hk2 ar.1 ar.2 e0 (c := e) (by omega)
        rw [show H 68 1 - ((M - (l + 1) + 1 : Nat) : Int) = (l : Int) by omega] at z
        exact z
      refine U_99_187 (by omega) (H 67 1) (H 68 1 - 1) (H 68 7) _ (l : Int) (H 67 0) (H 67 1) (H 68) h ?_
      rw [eB]
      refine ⟨fun c1 => ?_, fun c1 => ?_⟩
      · skip
        refine ⟨fun c2 => ?_, fun c2 => ?_⟩
        · skip
          exfalso
          omega
        · skip
          exfalso
          omega
      · skip
        refine ⟨?_, ?_⟩
        · first | omega | exact rd | (unfold xI; omega) | (exfalso; omega)
        refine ⟨?_, ?_⟩
        · first | omega | exact rd | (unfold xI; omega) | (exfalso; omega)
        refine ⟨?_, ?_⟩
        · first | omega | exact rd | (unfold xI; omega) | (exfalso; omega)
        refine ih (l + 1) _ (by omega) (fun o q => by rw [xup_ne (by omega)]; exact f o q) hd2 hk2 h4 (fun j a b => ?_)
        by_cases q : j = l
        · rw [q, xup_self, show ((l : Int) + 1).toNat = l + 1 by omega]
        · rw [xup_k q]
          exact hj j a (by omega)
  -- the costs, from the last layer on
  have keyL : yOk (H 67 0) (H 67 1) (H 68) → ∀ (j : Nat) (h : XH), j ≤ M → roI H h → roD (H 67 0) (H 67 1) (H 68) h → roK (H 67 0) (H 67 1) (H 68) (M - j) h → xq X d 99 Q 57 [(0, (2, 46)), (1, (2, 1)), (2, (2, 39)), (3, (0, H 67 1)), (4, (0, H 68 1 - 1)), (5, (0, H 68 7)), (6, (0, (j : Int) - 1))] [] h := by
    intro hy j
    induction j with
    | zero =>
      intro h hj f hd2 hk2
      have f9 := f 9 (by decide)
      rw [Nat.sub_zero] at hk2
      obtain ⟨M', hM'⟩ : ∃ M', M = M' + 1 := ⟨M - 1, by omega⟩
      have rd : rdH h (H 67 1) (H 68 5) 0 (H 68 7) := rd_ro hg hy hd2 (k := M) (j := M') (by omega) (by omega) hk2 (by omega) (by omega) (by omega)
      have eR : mnR (fun c => ctH h (H 68 5) 0 c (H 68 7)) (H 67 1).toNat = yR (H 67 0) (H 67 1) (H 68) M (H 68 5) := by
        rw [hM']
        refine (mn_congr (ct' := yT (H 67 0) (H 67 1) (H 68) M' (H 68 5)) _ (fun e e0 e1 => ?_)).1
        have z := ro_ct hg hy (by omega) hd2 (k := M) (by omega) (j := M') (by omega) hk2 (f := H 68 5) (by omega) (by omega) e0 (c := e) (by omega)
        rw [show H 68 1 - ((M' + 1 : Nat) : Int) = 0 by omega] at z
        exact z
      have z := keyC hy M 0 (xup h 46 4 (yR (H 67 0) (H 67 1) (H 68) M (H 68 5))) (by omega) (fun o q => by rw [xup_ne (by omega)]; exact f o q) hd2 hk2 rfl (fun j a b => by omega)
      have e0 : yA (H 67 0) (H 67 1) (H 68) 0 = H 68 5 := rfl
      rw [e0] at z
      refine U_99_57 (by omega) (H 67 1) (H 68 1 - 1) (H 68 7) _ (H 67 0) (H 67 1) (H 68) h ?_
      rw [f9, r5, eR]
      refine ⟨fun c1 => ?_, fun c1 => ?_⟩
      · skip
        refine ⟨?_, ?_⟩
        · first | omega | exact rd | (unfold xI; omega) | (exfalso; omega)
        exact z
      · skip
        exfalso
        omega
    | succ j ih =>
      intro h hj f hd2 hk2
      have keyE : ∀ (k : Nat) (c : Int) (h' : XH), c + k = H 67 1 → 0 ≤ c → roI H h' → roD (H 67 0) (H 67 1) (H 68) h' → roK (H 67 0) (H 67 1) (H 68) (M - (j + 1)) h' → (∀ e, 0 ≤ e → e < c → h' 49 ((j : Int) * 64 + e) = if alB (H 67 0) (H 67 1) (H 68) (j : Int) e = 0 ∨ yR (H 67 0) (H 67 1) (H 68) (M - (j + 1)) e = -1 then -1 else frV (H 67 0) (H 67 1) (H 68) (j : Int) e + yR (H 67 0) (H 67 1) (H 68) (M - (j + 1)) e) → xq X d 99 Q 65 [(0, (2, 46)), (1, (2, 1)), (2, (2, 39)), (3, (0, H 67 1)), (4, (0, H 68 1 - 1)), (5, (0, H 68 7)), (6, (0, (j : Int))), (7, (0, c))] [] h' := by
        intro k
        induction k with
        | zero =>
          intro c h' hc c0 f' hd' hk' he
          refine U_99_65 (by omega) (H 67 1) (H 68 1 - 1) (H 68 7) (j : Int) c (H 67 0) (H 67 1) (H 68) h' ?_
          refine ⟨fun c1 => ?_, fun c1 => ?_⟩
          · skip
            refine ⟨?_, ?_⟩
            · first | omega | exact roI_lk f' hk | (unfold xI; omega) | (exfalso; omega)
            refine ih h' (by omega) f' hd' (fun i hi2 e e0 e1 => ?_)
            by_cases q : i = M - (j + 1)
            · rw [q, show H 68 1 - ((M - (j + 1) + 1 : Nat) : Int) = (j : Int) by omega]
              exact he e e0 (by omega)
            · exact hk' i (by omega) e e0 e1
          · skip
            refine ⟨?_, ?_⟩
            · first | omega | exact roI_lk f' hk | (unfold xI; omega) | (exfalso; omega)
            refine ⟨?_, ?_⟩
            · first | omega | exact roI_lk f' hk | (unfold xI; omega) | (exfalso; omega)
            refine ⟨?_, ?_⟩
            · first | omega | exact roI_lk f' hk | (unfold xI; omega) | (exfalso; omega)
            refine ⟨fun c2 => ?_, fun c2 => ?_⟩
            · skip
              refine ⟨?_, ?_⟩
              · first | omega | exact roI_lk f' hk | (unfold xI; omega) | (exfalso; omega)
              refine ⟨?_, ?_⟩
              · first | omega | exact roI_lk f' hk | (unfold xI; omega) | (exfalso; omega)
              refine ⟨?_, ?_⟩
              · first | omega | exact roI_lk f' hk | (unfold xI; omega) | (exfalso; omega)
              refine ⟨?_, ?_⟩
              · first | omega | exact roI_lk f' hk | (unfold xI; omega) | (exfalso; omega)
              exfalso
              omega
            · skip
              refine ⟨fun c3 => ?_, fun c3 => ?_⟩
              · skip
                refine ⟨?_, ?_⟩
                · first | omega | exact roI_lk f' hk | (unfold xI; omega) | (exfalso; omega)
                refine ⟨?_, ?_⟩
                · first | omega | exact roI_lk f' hk | (unfold xI; omega) | (exfalso; omega)
                refine ⟨?_, ?_⟩
                · first | omega | exact roI_lk f' hk | (unfold xI; omega) | (exfalso; omega)
                refine ⟨?_, ?_⟩
                · first | omega | exact roI_lk f' hk | (unfold xI; omega) | (exfalso; omega)
                refine ⟨fun c4 => ?_, fun c4 => ?_⟩
                · skip
                  refine ⟨?_, ?_⟩
                  · first | omega | exact roI_lk f' hk | (unfold xI; omega) | (exfalso; omega)
                  refine ⟨?_, ?_⟩
                  · first | omega | exact roI_lk f' hk | (unfold xI; omega) | (exfalso; omega)
                  refine ⟨?_, ?_⟩
                  · first | omega | exact roI_lk f' hk | (unfold xI; omega) | (exfalso; omega)
                  refine ⟨?_, ?_⟩
                  · first | omega | exact roI_lk f' hk | (unfold xI; omega) | (exfalso; omega)
                  refine ⟨?_, ?_⟩
                  · first | omega | exact roI_lk f' hk | (unfold xI; omega) | (exfalso; omega)
                  refine ⟨?_, ?_⟩
                  · first | omega | exact roI_lk f' hk | (unfold xI; omega) | (exfalso; omega)
                  exfalso
                  omega
                · skip
                  refine ⟨?_, ?_⟩
                  · first | omega | exact roI_lk f' hk | (unfold xI; omega) | (exfalso; omega)
                  refine ⟨?_, ?_⟩
                  · first | omega | exact roI_lk f' hk | (unfold xI; omega) | (exfalso; omega)
                  exfalso
                  omega
              · skip
                refine ⟨?_, ?_⟩
                · first | omega | exact roI_lk f' hk | (unfold xI; omega) | (exfalso; omega)
                refine ⟨?_, ?_⟩
                · first | omega | exact roI_lk f' hk | (unfold xI; omega) | (exfalso; omega)
                refine ⟨?_, ?_⟩
                · first | omega | exact roI_lk f' hk | (unfold xI; omega) | (exfalso; omega)
                refine ⟨?_, ?_⟩
                · first | omega | exact roI_lk f' hk | (unfold xI; omega) | (exfalso; omega)
                refine ⟨?_, ?_⟩
                · first | omega | exact roI_lk f' hk | (unfold xI; omega) | (exfalso; omega)
                refine ⟨?_, ?_⟩
                · first | omega | exact roI_lk f' hk | (unfold xI; omega) | (exfalso; omega)
                refine ⟨?_, ?_⟩
                · first | omega | exact roI_lk f' hk | (unfold xI; omega) | (exfalso; omega)
                refine ⟨?_, ?_⟩
                · first | omega | exact roI_lk f' hk | (unfold xI; omega) | (exfalso; omega)
                exfalso
                omega
        | succ k ihk =>
          intro c h' hc c0 f' hd' hk' he
          have fr := frV_rng hg (l := (j : Int)) (c := c) (by omega)
          have yr := yR_rng hg hy (M - (j + 1)) (by omega) (f := c) (by omega) (by omega)
          have nx : ∀ x, x = (if alB (H 67 0) (H 67 1) (H 68) (j : Int) c = 0 ∨ yR (H 67 0) (H 67 1) (H 68) (M - (j + 1)) c = -1 then -1 else frV (H 67 0) (H 67 1) (H 68) (j : Int) c + yR (H 67 0) (H 67 1) (H 68) (M - (j + 1)) c) → xq X d 99 Q 65 [(0, (2, 46)), (1, (2, 1)), (2, (2, 39)), (3, (0, H 67 1)), (4, (0, H 68 1 - 1)), (5, (0, H 68 7)), (6, (0, (j : Int))), (7, (0, c + 1))] [] (xup h' 49 ((j : Int) * 64 + c) x) := fun x hx => by
            refine ihk (c + 1) _ (by omega) (by omega) (fun o q => by rw [xup_ne (by omega)]; exact f' o q) hd' (fun i hi2 e e0 e1 => ?_) (fun e e0 e1 => ?_)
            · rw [xup_k (by omega)]
              exact hk' i hi2 e e0 e1
            · by_cases q : e = c
              · rw [q, xup_self]
                exact hx
              · rw [xup_k (by omega)]
                exact he e e0 (by omega)
          have rd : ¬ (j : Int) = H 68 1 - 1 → rdH h' (H 67 1) c ((j : Int) + 1) (H 68 7) := fun q => rd_ro hg hy hd' (k := M - (j + 1)) (j := M - (j + 2)) (by omega) (by omega) hk' (by omega) (by omega) (by omega)
          have eR : ¬ (j : Int) = H 68 1 - 1 → mnR (fun e => ctH h' c ((j : Int) + 1) e (H 68 7)) (H 67 1).toNat = yR (H 67 0) (H 67 1) (H 68) (M - (j + 1)) c := fun q => by
            rw [show M - (j + 1) = (M - (j + 2)) + 1 by omega]
            refine (mn_congr (ct' := yT (H 67 0) (H 67 1) (H 68) (M - (j + 2)) c) _ (fun e e0 e1 => ?_)).1
            have z := ro_ct hg hy (by omega) hd' (k := M - (j + 1)) (by omega) (j := M - (j + 2)) (by omega) hk' (f := c) (by omega) (by omega) e0 (c := e) (by omega)
            rw [show H 68 1 - ((M - (j + 2) + 1 : Nat) : Int) = (j : Int) + 1 by omega] at z
            exact z
          have e00 : (j : Int) = H 68 1 - 1 → yR (H 67 0) (H 67 1) (H 68) (M - (j + 1)) c = 0 := fun q => by
            rw [show M - (j + 1) = 0 by omega]
            rfl
          have alr : ¬ alB (H 67 0) (H 67 1) (H 68) (j : Int) c = 0 → 0 ≤ frV (H 67 0) (H 67 1) (H 68) (j : Int) c := fun q => (alB_fr hg (l := (j : Int)) (c := c) (by omega) q).1
          refine U_99_65 (by omega) (H 67 1) (H 68 1 - 1) (H 68 7) (j : Int) c (H 67 0) (H 67 1) (H 68) h' ?_
          refine ⟨fun c1 => ?_, fun c1 => ?_⟩
          · skip
            refine ⟨?_, ?_⟩
            · first | omega | exact roI_lk f' hk | exact rd (by assumption) | (unfold xI; omega) | (have eR := eR (by assumption); have alr := alr (by assumption); rw [eR]; unfold xI; omega) | (have alr := alr (by assumption); unfold xI; omega) | (exfalso; omega)
            exfalso
            omega
          · skip
            refine ⟨?_, ?_⟩
            · first | omega | exact roI_lk f' hk | exact rd (by assumption) | (unfold xI; omega) | (have eR := eR (by assumption); have alr := alr (by assumption); rw [eR]; unfold xI; omega) | (have alr := alr (by assumption); unfold xI; omega) | (exfalso; omega)
            refine ⟨?_, ?_⟩
            · first | omega | exact roI_lk f' hk | exact rd (by assumption) | (unfold xI; omega) | (have eR := eR (by assumption); have alr := alr (by assumption); rw [eR]; unfold xI; omega) | (have alr := alr (by assumption); unfold xI; omega) | (exfalso; omega)
            refine ⟨?_, ?_⟩
            · first | omega | exact roI_lk f' hk | exact rd (by assumption) | (unfold xI; omega) | (have eR := eR (by assumption); have alr := alr (by assumption); rw [eR]; unfold xI; omega) | (have alr := alr (by assumption); unfold xI; omega) | (exfalso; omega)
            refine ⟨fun c2 => ?_, fun c2 => ?_⟩
            · skip
              refine ⟨?_, ?_⟩
              · first | omega | exact roI_lk f' hk | exact rd (by assumption) | (unfold xI; omega) | (have eR := eR (by assumption); have alr := alr (by assumption); rw [eR]; unfold xI; omega) | (have alr := alr (by assumption); unfold xI; omega) | (exfalso; omega)
              refine ⟨?_, ?_⟩
              · first | omega | exact roI_lk f' hk | exact rd (by assumption) | (unfold xI; omega) | (have eR := eR (by assumption); have alr := alr (by assumption); rw [eR]; unfold xI; omega) | (have alr := alr (by assumption); unfold xI; omega) | (exfalso; omega)
              refine ⟨?_, ?_⟩
              · first | omega | exact roI_lk f' hk | exact rd (by assumption) | (unfold xI; omega) | (have eR := eR (by assumption); have alr := alr (by assumption); rw [eR]; unfold xI; omega) | (have alr := alr (by assumption); unfold xI; omega) | (exfalso; omega)
              refine ⟨?_, ?_⟩
              · first | omega | exact roI_lk f' hk | exact rd (by assumption) | (unfold xI; omega) | (have eR := eR (by assumption); have alr := alr (by assumption); rw [eR]; unfold xI; omega) | (have alr := alr (by assumption); unfold xI; omega) | (exfalso; omega)
              exact nx _ (by rw [if_pos (Or.inl (by assumption))])
            · skip
              refine ⟨fun c3 => ?_, fun c3 => ?_⟩
              · skip
                refine ⟨?_, ?_⟩
                · first | omega | exact roI_lk f' hk | exact rd (by assumption) | (unfold xI; omega) | (have eR := eR (by assumption); have alr := alr (by assumption); rw [eR]; unfold xI; omega) | (have alr := alr (by assumption); unfold xI; omega) | (exfalso; omega)
                refine ⟨?_, ?_⟩
                · first | omega | exact roI_lk f' hk | exact rd (by assumption) | (unfold xI; omega) | (have eR := eR (by assumption); have alr := alr (by assumption); rw [eR]; unfold xI; omega) | (have alr := alr (by assumption); unfold xI; omega) | (exfalso; omega)
                refine ⟨?_, ?_⟩
                · first | omega | exact roI_lk f' hk | exact rd (by assumption) | (unfold xI; omega) | (have eR := eR (by assumption); have alr := alr (by assumption); rw [eR]; unfold xI; omega) | (have alr := alr (by assumption); unfold xI; omega) | (exfalso; omega)
                refine ⟨?_, ?_⟩
                · first | omega | exact roI_lk f' hk | exact rd (by assumption) | (unfold xI; omega) | (have eR := eR (by assumption); have alr := alr (by assumption); rw [eR]; unfold xI; omega) | (have alr := alr (by assumption); unfold xI; omega) | (exfalso; omega)
                refine ⟨fun c4 => ?_, fun c4 => ?_⟩
                · skip
                  refine ⟨?_, ?_⟩
                  · first | omega | exact roI_lk f' hk | exact rd (by assumption) | (unfold xI; omega) | (have eR := eR (by assumption); have alr := alr (by assumption); rw [eR]; unfold xI; omega) | (have alr := alr (by assumption); unfold xI; omega) | (exfalso; omega)
                  refine ⟨?_, ?_⟩
                  · first | omega | exact roI_lk f' hk | exact rd (by assumption) | (unfold xI; omega) | (have eR := eR (by assumption); have alr := alr (by assumption); rw [eR]; unfold xI; omega) | (have alr := alr (by assumption); unfold xI; omega) | (exfalso; omega)
                  refine ⟨?_, ?_⟩
                  · first | omega | exact roI_lk f' hk | exact rd (by assumption) | (unfold xI; omega) | (have eR := eR (by assumption); have alr := alr (by assumption); rw [eR]; unfold xI; omega) | (have alr := alr (by assumption); unfold xI; omega) | (exfalso; omega)
                  refine ⟨?_, ?_⟩
                  · first | omega | exact roI_lk f' hk | exact rd (by assumption) | (unfold xI; omega) | (have eR := eR (by assumption); have alr := alr (by assumption); rw [eR]; unfold xI; omega) | (have alr := alr (by assumption); unfold xI; omega) | (exfalso; omega)
                  refine ⟨?_, ?_⟩
                  · first | omega | exact roI_lk f' hk | exact rd (by assumption) | (unfold xI; omega) | (have eR := eR (by assumption); have alr := alr (by assumption); rw [eR]; unfold xI; omega) | (have alr := alr (by assumption); unfold xI; omega) | (exfalso; omega)
                  refine ⟨?_, ?_⟩
                  · first | omega | exact roI_lk f' hk | exact rd (by assumption) | (unfold xI; omega) | (have eR := eR (by assumption); have alr := alr (by assumption); rw [eR]; unfold xI; omega) | (have alr := alr (by assumption); unfold xI; omega) | (exfalso; omega)
                  have eR := eR (by assumption)
                  rw [eR] at *
                  exact nx _ (by rw [if_neg (by omega)])
                · skip
                  refine ⟨?_, ?_⟩
                  · first | omega | exact roI_lk f' hk | exact rd (by assumption) | (unfold xI; omega) | (have eR := eR (by assumption); have alr := alr (by assumption); rw [eR]; unfold xI; omega) | (have alr := alr (by assumption); unfold xI; omega) | (exfalso; omega)
                  refine ⟨?_, ?_⟩
                  · first | omega | exact roI_lk f' hk | exact rd (by assumption) | (unfold xI; omega) | (have eR := eR (by assumption); have alr := alr (by assumption); rw [eR]; unfold xI; omega) | (have alr := alr (by assumption); unfold xI; omega) | (exfalso; omega)
                  have eR := eR (by assumption)
                  rw [eR] at *
                  exact nx _ (by rw [if_pos (by omega)])
              · skip
                refine ⟨?_, ?_⟩
                · first | omega | exact roI_lk f' hk | exact rd (by assumption) | (unfold xI; omega) | (have eR := eR (by assumption); have alr := alr (by assumption); rw [eR]; unfold xI; omega) | (have alr := alr (by assumption); unfold xI; omega) | (exfalso; omega)
                refine ⟨?_, ?_⟩
                · first | omega | exact roI_lk f' hk | exact rd (by assumption) | (unfold xI; omega) | (have eR := eR (by assumption); have alr := alr (by assumption); rw [eR]; unfold xI; omega) | (have alr := alr (by assumption); unfold xI; omega) | (exfalso; omega)
                refine ⟨?_, ?_⟩
                · first | omega | exact roI_lk f' hk | exact rd (by assumption) | (unfold xI; omega) | (have eR := eR (by assumption); have alr := alr (by assumption); rw [eR]; unfold xI; omega) | (have alr := alr (by assumption); unfold xI; omega) | (exfalso; omega)
                refine ⟨?_, ?_⟩
                · first | omega | exact roI_lk f' hk | exact rd (by assumption) | (unfold xI; omega) | (have eR := eR (by assumption); have alr := alr (by assumption); rw [eR]; unfold xI; omega) | (have alr := alr (by assumption); unfold xI; omega) | (exfalso; omega)
                refine ⟨?_, ?_⟩
                · first | omega | exact roI_lk f' hk | exact rd (by assumption) | (unfold xI; omega) | (have eR := eR (by assumption); have alr := alr (by assumption); rw [eR]; unfold xI; omega) | (have alr := alr (by assumption); unfold xI; omega) | (exfalso; omega)
                refine ⟨?_, ?_⟩
                · first | omega | exact roI_lk f' hk | exact rd (by assumption) | (unfold xI; omega) | (have eR := eR (by assumption); have alr := alr (by assumption); rw [eR]; unfold xI; omega) | (have alr := alr (by assumption); unfold xI; omega) | (exfalso; omega)
                refine ⟨?_, ?_⟩
                · first | omega | exact roI_lk f' hk | exact rd (by assumption) | (unfold xI; omega) | (have eR := eR (by assumption); have alr := alr (by assumption); rw [eR]; unfold xI; omega) | (have alr := alr (by assumption); unfold xI; omega) | (exfalso; omega)
                refine ⟨?_, ?_⟩
                · first | omega | exact roI_lk f' hk | exact rd (by assumption) | (unfold xI; omega) | (have eR := eR (by assumption); have alr := alr (by assumption); rw [eR]; unfold xI; omega) | (have alr := alr (by assumption); unfold xI; omega) | (exfalso; omega)
                have e00 := e00 (by omega)
                exact nx _ (by rw [if_neg (by omega), e00])
      have z := keyE (H 67 1).toNat 0 h (by omega) (by decide) f hd2 hk2 (fun e e0 e1 => by omega)
      have ej : ((j + 1 : Nat) : Int) - 1 = (j : Int) := by omega
      rw [ej]
      refine U_99_57 (by omega) (H 67 1) (H 68 1 - 1) (H 68 7) (j : Int) (H 67 0) (H 67 1) (H 68) h ?_
      refine ⟨fun c1 => ?_, fun c1 => ?_⟩
      · skip
        refine ⟨?_, ?_⟩
        · first | omega | (unfold xI; omega) | (exfalso; omega)
        exfalso
        omega
      · skip
        exact z
  -- the rows of paces
  have keyM : ∀ (k : Nat) (i : Int) (h : XH), i + k = H 67 1 → 0 ≤ i → roI H h → (∀ a, 0 ≤ a → a < i → DS (H 67 0) (H 67 1) (fun e => H 68 (20 + e)) a (wyD (H 67 0) (H 67 1) (H 68) a) ∧ ∀ b, 0 ≤ b → b < H 67 1 → h 47 (a * 64 + b) = wyD (H 67 0) (H 67 1) (H 68) a b) → xq X d 99 Q 31 [(0, (2, 46)), (1, (2, 1)), (2, (2, 39)), (3, (0, H 67 1)), (4, (0, H 68 1 - 1)), (5, (0, H 68 7)), (6, (0, i))] [] h := by
    intro k
    induction k with
    | zero =>
      intro i h hk2 i0 f ha
      have z := keyL (fun a a0 a1 => (ha a a0 (by omega)).1) M h (Nat.le_refl _) f (fun a b a0 a1 b0 b1 => (ha a a0 (by omega)).2 b b0 b1) (fun j hj => by omega)
      rw [hM1] at z
      refine U_99_31 (by omega) (H 67 1) (H 68 1 - 1) (H 68 7) i (H 67 0) (H 67 1) (H 68) h ?_
      refine ⟨fun c1 => ?_, fun c1 => ?_⟩
      · skip
        exact z
      · skip
        refine ⟨?_, ?_⟩
        · first | omega | exact roI_S f hi | (unfold xI; omega) | (exfalso; omega)
        refine ⟨?_, ?_⟩
        · first | omega | exact roI_S f hi | (unfold xI; omega) | (exfalso; omega)
        intro h359 c2
        refine ⟨?_, ?_⟩
        · first | omega | exact roI_S f hi | (unfold xI; omega) | (exfalso; omega)
        exfalso
        omega
    | succ k ih =>
      intro i h hk2 i0 f ha
      have f67 := f 67 (by decide)
      have f68 := f 68 (by decide)
      refine U_99_31 (by omega) (H 67 1) (H 68 1 - 1) (H 68 7) i (H 67 0) (H 67 1) (H 68) h ?_
      rw [f67, f68]
      refine ⟨fun c1 => ?_, fun c1 => ?_⟩
      · skip
        exfalso
        omega
      · skip
        refine ⟨?_, ?_⟩
        · first | omega | exact roI_S f hi | (unfold xI; omega) | (exfalso; omega)
        refine ⟨?_, ?_⟩
        · first | omega | exact roI_S f hi | (unfold xI; omega) | (exfalso; omega)
        intro h360 c2
        have uu := c2
        refine ⟨?_, ?_⟩
        · first | omega | exact roI_S f hi | (unfold xI; omega) | (exfalso; omega)
        obtain ⟨u1, u2, u3⟩ := uu
        refine ih (i + 1) _ (by omega) (by omega) (fun o q => by rw [u1 o (by omega) (by omega)]; exact f o q) (fun a a0 a1 => ?_)
        by_cases q : a = i
        · rw [q]
          exact ⟨DS_e u3, fun b b0 b1 => DS_v u3 b0 b1⟩
        · refine ⟨(ha a a0 (by omega)).1, fun b b0 b1 => ?_⟩
          rw [u2 _ (by omega)]
          exact (ha a a0 (by omega)).2 b b0 b1
  refine U_99 (by omega) (H 67 0) (H 67 1) (H 68) H ?_
  rw [l2, hc, r1]
  refine ⟨?_, ?_⟩
  · first | omega | (unfold xI; omega)
  exact keyM (H 67 1).toNat 0 H (by omega) (by decide) (fun _ _ => rfl) (fun a a0 a1 => by omega)

theorem U_100 {X : Int × (Int → Int)} {d : Nat} {Q : Int → XH → Prop} (hd : 9 ≤ d) (l : Int) (w n : Int) (g : Int → Int) (H : XH) (h : ((H 7 1 < 1) → Q (-1) H) ∧ (¬ (H 7 1 < 1) → ((l = (-1)) → (InvS H) ∧ (∀ (h361 : XH), (frC H h361 ∧ lkOk (H 67 0) (H 67 1) (H 68) (h361 40) (h361 41) (h361 42) (h361 39)) → (InvS h361) ∧ (lkA (h361 67 0) (h361 67 1) (h361 68) h361) ∧ (1 ≤ h361 68 1) ∧ (∀ (J363 : Int) (h362 : XH), (frC h361 h362 ∧ ((yR (h361 67 0) (h361 67 1) (h361 68) (h361 68 1).toNat (h361 68 5) = -1 ∧ J363 = 0) ∨ (¬ yR (h361 67 0) (h361 67 1) (h361 68) (h361 68 1).toNat (h361 68 5) = -1 ∧ J363 = 1 ∧ h362 46 4 = yR (h361 67 0) (h361 67 1) (h361 68) (h361 68 1).toNat (h361 68 5) ∧ ∀ l : Int, 0 ≤ l → l < h361 68 1 → h362 50 l = yA (h361 67 0) (h361 67 1) (h361 68) (l + 1).toNat))) → ((¬ J363 = 0) → ((¬ l = (-1)) → ((0 : Int) ≤ l ∧ (l : Int) < 8) ∧ Q (h362 50 l) h362) ∧ (¬ (¬ l = (-1)) → Q (h362 46 4) h362)) ∧ (¬ (¬ J363 = 0) → Q (-1) h362)))) ∧ (¬ (l = (-1)) → ((((0 ≤ l ∧ l < H 7 1)) → (InvS H) ∧ (∀ (h364 : XH), (frC H h364 ∧ lkOk (H 67 0) (H 67 1) (H 68) (h364 40) (h364 41) (h364 42) (h364 39)) → (InvS h364) ∧ (lkA (h364 67 0) (h364 67 1) (h364 68) h364) ∧ (1 ≤ h364 68 1) ∧ (∀ (J366 : Int) (h365 : XH), (frC h364 h365 ∧ ((yR (h364 67 0) (h364 67 1) (h364 68) (h364 68 1).toNat (h364 68 5) = -1 ∧ J366 = 0) ∨ (¬ yR (h364 67 0) (h364 67 1) (h364 68) (h364 68 1).toNat (h364 68 5) = -1 ∧ J366 = 1 ∧ h365 46 4 = yR (h364 67 0) (h364 67 1) (h364 68) (h364 68 1).toNat (h364 68 5) ∧ ∀ l : Int, 0 ≤ l → l < h364 68 1 → h365 50 l = yA (h364 67 0) (h364 67 1) (h364 68) (l + 1).toNat))) → ((¬ J366 = 0) → ((¬ l = (-1)) → ((0 : Int) ≤ l ∧ (l : Int) < 8) ∧ Q (h365 50 l) h365) ∧ (¬ (¬ l = (-1)) → Q (h365 46 4) h365)) ∧ (¬ (¬ J366 = 0) → Q (-1) h365)))) ∧ (¬ ((0 ≤ l ∧ l < H 7 1)) → Q (-1) H))))) : xc X (d + 1) 100 [(2, 0), (0, l)] H Q := by
  refine ⟨rfl, ?_⟩
  show xq X d 100 Q 100000 [(0, (2, 0)), (1, (0, l))] [] H
  refine xq_run [30, 46, 61] 300 ?_
  show ((H 7 1 < 1) → xfR 0 (-1) ∧ xKZ = xKZ ∧ Q (-1) H) ∧ (¬ (H 7 1 < 1) → ((l = (-1)) → xWM (xE X) xMC d 60 [(2, 39), (2, 1)] xKZ H _) ∧ (¬ (l = (-1)) → xWM (xE X) xMC d 49 [(2, 7), (0, l)] xKZ H _))
  refine ⟨fun k_ => ?_, fun k_ => ?_⟩
  · replace h := h.1 k_
    exact ⟨trivial, rfl, h⟩
  · replace h := h.2 k_
    refine ⟨fun k_ => ?_, fun k_ => ?_⟩
    · replace h := h.1 k_
      refine xc_in (s_60 (by omega) H (h.1) ?_)
      intro h361 q_0
      replace h := h.2 h361 q_0
      show xq X d 100 Q 46 [(0, (2, 0)), (1, (0, l))] [] h361
      refine xq_run [30, 46, 61] 300 ?_
      show xWM (xE X) xMC d 99 [(2, 46), (2, 1), (2, 39)] xKZ h361 _
      refine xc_in (s_99 (by omega) h361 (h.1) (h.2.1) (h.2.2.1) ?_)
      intro J363 h362 q_0
      replace h := h.2.2.2 J363 h362 q_0
      show xq X d 100 Q 61 [(0, (2, 0)), (1, (0, l))] [(0, J363)] h362
      refine xq_run [30, 46, 61] 300 ?_
      show ((¬ J363 = 0) → ((¬ l = (-1)) → ((0 : Int) ≤ l ∧ (l : Int) < 8) ∧ xfR 0 (h362 50 l) ∧ xKZ = xKZ ∧ Q (h362 50 l) h362) ∧ (¬ (¬ l = (-1)) → xfR 0 (h362 46 4) ∧ xKZ = xKZ ∧ Q (h362 46 4) h362)) ∧ (¬ (¬ J363 = 0) → xfR 0 (-1) ∧ xKZ = xKZ ∧ Q (-1) h362)
      refine ⟨fun k_ => ?_, fun k_ => ?_⟩
      · replace h := h.1 k_
        refine ⟨fun k_ => ?_, fun k_ => ?_⟩
        · replace h := h.1 k_
          refine ⟨h.1, ?_⟩
          replace h := h.2
          exact ⟨trivial, rfl, h⟩
        · replace h := h.2 k_
          exact ⟨trivial, rfl, h⟩
      · replace h := h.2 k_
        exact ⟨trivial, rfl, h⟩
    · replace h := h.2 k_
      refine xc_in (s_49_o7 (by omega) l H  ?_)
      replace h := h
      show xq X d 100 Q 30 [(0, (2, 0)), (1, (0, l))] [(0, xb (0 ≤ l ∧ l < H 7 1))] H
      refine xq_run [30, 46, 61] 300 ?_
      show ((¬ xb (0 ≤ l ∧ l < H 7 1) = 0) → xWM (xE X) xMC d 60 [(2, 39), (2, 1)] xKZ H _) ∧ (¬ (¬ xb (0 ≤ l ∧ l < H 7 1) = 0) → xfR 0 (-1) ∧ xKZ = xKZ ∧ Q (-1) H)
      refine ⟨fun k_ => ?_, fun k_ => ?_⟩
      · replace h := h.1 (xbe_1.mp k_)
        refine xc_in (s_60 (by omega) H (h.1) ?_)
        intro h364 q_0
        replace h := h.2 h364 q_0
        show xq X d 100 Q 46 [(0, (2, 0)), (1, (0, l))] [] h364
        refine xq_run [30, 46, 61] 300 ?_
        show xWM (xE X) xMC d 99 [(2, 46), (2, 1), (2, 39)] xKZ h364 _
        refine xc_in (s_99 (by omega) h364 (h.1) (h.2.1) (h.2.2.1) ?_)
        intro J366 h365 q_0
        replace h := h.2.2.2 J366 h365 q_0
        show xq X d 100 Q 61 [(0, (2, 0)), (1, (0, l))] [(0, J366)] h365
        refine xq_run [30, 46, 61] 300 ?_
        show ((¬ J366 = 0) → ((¬ l = (-1)) → ((0 : Int) ≤ l ∧ (l : Int) < 8) ∧ xfR 0 (h365 50 l) ∧ xKZ = xKZ ∧ Q (h365 50 l) h365) ∧ (¬ (¬ l = (-1)) → xfR 0 (h365 46 4) ∧ xKZ = xKZ ∧ Q (h365 46 4) h365)) ∧ (¬ (¬ J366 = 0) → xfR 0 (-1) ∧ xKZ = xKZ ∧ Q (-1) h365)
        refine ⟨fun k_ => ?_, fun k_ => ?_⟩
        · replace h := h.1 k_
          refine ⟨fun k_ => ?_, fun k_ => ?_⟩
          · replace h := h.1 k_
            refine ⟨h.1, ?_⟩
            replace h := h.2
            exact ⟨trivial, rfl, h⟩
          · replace h := h.2 k_
            exact ⟨trivial, rfl, h⟩
        · replace h := h.2 k_
          exact ⟨trivial, rfl, h⟩
      · replace h := h.2 (xbe_n.mp k_)
        exact ⟨trivial, rfl, h⟩

theorem s_100 {X : Int × (Int → Int)} {d : Nat} {Q : Int → XH → Prop} (hd : 12 ≤ d) (l : Int) (H : XH) (hi : InvS H) (hQ : ∀ h1 : XH, frC H h1 → Q (vWay (H 67 0) (H 67 1) (H 68) l) h1) : xc X d 100 [(2, 0), (0, l)] H Q := by
  cases d with
  | zero => omega
  | succ d =>
  have hg := hi.1
  have hs := hi.2
  have nn := hg.nn
  have ww := hg.ww
  have l2 := hs.l2
  have hc := hs.c
  have lyb := hg.lyb
  have bnd := hg.bnd
  unfold vWay at hQ
  refine U_100 (by omega) l (H 67 0) (H 67 1) (H 68) H ?_
  refine ⟨fun c1 => ?_, fun c1 => ?_⟩
  · skip
    first | (have k := hQ _ (frC_refl H); rw [if_neg (by omega)] at k; exact k) | (exfalso; omega) | (have k := hQ _ (frC_trans fr uu.1); rw [if_neg (by rcases uu.2 with u | u <;> omega)] at k; exact k) | (have u := uu.2.resolve_left (by omega); have k := hQ _ (frC_trans fr uu.1); rw [if_pos (by omega), if_pos (by omega)] at k; rw [u.2.2.1]; exact k) | (have u := uu.2.resolve_left (by omega); have k := hQ _ (frC_trans fr uu.1); rw [if_pos (by omega), if_neg (by omega)] at k; rw [u.2.2.2 l (by omega) (by omega)]; exact k)
  · skip
    refine ⟨fun c2 => ?_, fun c2 => ?_⟩
    · skip
      refine ⟨?_, ?_⟩
      · first | omega | exact hi | exact frC_S fr hi | (rw [f67, f68]; exact lk) | (rw [f68]; omega)
      intro h367 c3
      have lk : lkA (H 67 0) (H 67 1) (H 68) h367 := And.intro hg c3.2
      have fr := c3.1
      have f67 := fr 67 (by decide) (by decide)
      have f68 := fr 68 (by decide) (by decide)
      refine ⟨?_, ?_⟩
      · first | omega | exact hi | exact frC_S fr hi | (rw [f67, f68]; exact lk) | (rw [f68]; omega)
      refine ⟨?_, ?_⟩
      · first | omega | exact hi | exact frC_S fr hi | (rw [f67, f68]; exact lk) | (rw [f68]; omega)
      refine ⟨?_, ?_⟩
      · first | omega | exact hi | exact frC_S fr hi | (rw [f67, f68]; exact lk) | (rw [f68]; omega)
      intro J369 h368 c4
      have uu := c4
      rw [f67, f68] at uu
      refine ⟨fun c5 => ?_, fun c5 => ?_⟩
      · skip
        refine ⟨fun c6 => ?_, fun c6 => ?_⟩
        · skip
          refine ⟨?_, ?_⟩
          · first | omega | exact hi | exact frC_S fr hi | (rw [f67, f68]; exact lk) | (rw [f68]; omega)
          first | (have k := hQ _ (frC_refl H); rw [if_neg (by omega)] at k; exact k) | (exfalso; omega) | (have k := hQ _ (frC_trans fr uu.1); rw [if_neg (by rcases uu.2 with u | u <;> omega)] at k; exact k) | (have u := uu.2.resolve_left (by omega); have k := hQ _ (frC_trans fr uu.1); rw [if_pos (by omega), if_pos (by omega)] at k; rw [u.2.2.1]; exact k) | (have u := uu.2.resolve_left (by omega); have k := hQ _ (frC_trans fr uu.1); rw [if_pos (by omega), if_neg (by omega)] at k; rw [u.2.2.2 l (by omega) (by omega)]; exact k)
        · skip
          first | (have k := hQ _ (frC_refl H); rw [if_neg (by omega)] at k; exact k) | (exfalso; omega) | (have k := hQ _ (frC_trans fr uu.1); rw [if_neg (by rcases uu.2 with u | u <;> omega)] at k; exact k) | (have u := uu.2.resolve_left (by omega); have k := hQ _ (frC_trans fr uu.1); rw [if_pos (by omega), if_pos (by omega)] at k; rw [u.2.2.1]; exact k) | (have u := uu.2.resolve_left (by omega); have k := hQ _ (frC_trans fr uu.1); rw [if_pos (by omega), if_neg (by omega)] at k; rw [u.2.2.2 l (by omega) (by omega)]; exact k)
      · skip
        first | (have k := hQ _ (frC_refl H); rw [if_neg (by omega)] at k; exact k) | (exfalso; omega) | (have k := hQ _ (frC_trans fr uu.1); rw [if_neg (by rcases uu.2 with u | u <;> omega)] at k; exact k) | (have u := uu.2.resolve_left (by omega); have k := hQ _ (frC_trans fr uu.1); rw [if_pos (by omega), if_pos (by omega)] at k; rw [u.2.2.1]; exact k) | (have u := uu.2.resolve_left (by omega); have k := hQ _ (frC_trans fr uu.1); rw [if_pos (by omega), if_neg (by omega)] at k; rw [u.2.2.2 l (by omega) (by omega)]; exact k)
    · skip
      refine ⟨fun c7 => ?_, fun c7 => ?_⟩
      · skip
        refine ⟨?_, ?_⟩
        · first | omega | exact hi | exact frC_S fr hi | (rw [f67, f68]; exact lk) | (rw [f68]; omega)
        intro h370 c8
        have lk : lkA (H 67 0) (H 67 1) (H 68) h370 := And.intro hg c8.2
        have fr := c8.1
        have f67 := fr 67 (by decide) (by decide)
        have f68 := fr 68 (by decide) (by decide)
        refine ⟨?_, ?_⟩
        · first | omega | exact hi | exact frC_S fr hi | (rw [f67, f68]; exact lk) | (rw [f68]; omega)
        refine ⟨?_, ?_⟩
        · first | omega | exact hi | exact frC_S fr hi | (rw [f67, f68]; exact lk) | (rw [f68]; omega)
        refine ⟨?_, ?_⟩
        · first | omega | exact hi | exact frC_S fr hi | (rw [f67, f68]; exact lk) | (rw [f68]; omega)
        intro J372 h371 c9
        have uu := c9
        rw [f67, f68] at uu
        refine ⟨fun c10 => ?_, fun c10 => ?_⟩
        · skip
          refine ⟨fun c11 => ?_, fun c11 => ?_⟩
          · skip
            refine ⟨?_, ?_⟩
            · first | omega | exact hi | exact frC_S fr hi | (rw [f67, f68]; exact lk) | (rw [f68]; omega)
            first | (have k := hQ _ (frC_refl H); rw [if_neg (by omega)] at k; exact k) | (exfalso; omega) | (have k := hQ _ (frC_trans fr uu.1); rw [if_neg (by rcases uu.2 with u | u <;> omega)] at k; exact k) | (have u := uu.2.resolve_left (by omega); have k := hQ _ (frC_trans fr uu.1); rw [if_pos (by omega), if_pos (by omega)] at k; rw [u.2.2.1]; exact k) | (have u := uu.2.resolve_left (by omega); have k := hQ _ (frC_trans fr uu.1); rw [if_pos (by omega), if_neg (by omega)] at k; rw [u.2.2.2 l (by omega) (by omega)]; exact k)
          · skip
            first | (have k := hQ _ (frC_refl H); rw [if_neg (by omega)] at k; exact k) | (exfalso; omega) | (have k := hQ _ (frC_trans fr uu.1); rw [if_neg (by rcases uu.2 with u | u <;> omega)] at k; exact k) | (have u := uu.2.resolve_left (by omega); have k := hQ _ (frC_trans fr uu.1); rw [if_pos (by omega), if_pos (by omega)] at k; rw [u.2.2.1]; exact k) | (have u := uu.2.resolve_left (by omega); have k := hQ _ (frC_trans fr uu.1); rw [if_pos (by omega), if_neg (by omega)] at k; rw [u.2.2.2 l (by omega) (by omega)]; exact k)
        · skip
          first | (have k := hQ _ (frC_refl H); rw [if_neg (by omega)] at k; exact k) | (exfalso; omega) | (have k := hQ _ (frC_trans fr uu.1); rw [if_neg (by rcases uu.2 with u | u <;> omega)] at k; exact k) | (have u := uu.2.resolve_left (by omega); have k := hQ _ (frC_trans fr uu.1); rw [if_pos (by omega), if_pos (by omega)] at k; rw [u.2.2.1]; exact k) | (have u := uu.2.resolve_left (by omega); have k := hQ _ (frC_trans fr uu.1); rw [if_pos (by omega), if_neg (by omega)] at k; rw [u.2.2.2 l (by omega) (by omega)]; exact k)
      · skip
        first | (have k := hQ _ (frC_refl H); rw [if_neg (by omega)] at k; exact k) | (exfalso; omega) | (have k := hQ _ (frC_trans fr uu.1); rw [if_neg (by rcases uu.2 with u | u <;> omega)] at k; exact k) | (have u := uu.2.resolve_left (by omega); have k := hQ _ (frC_trans fr uu.1); rw [if_pos (by omega), if_pos (by omega)] at k; rw [u.2.2.1]; exact k) | (have u := uu.2.resolve_left (by omega); have k := hQ _ (frC_trans fr uu.1); rw [if_pos (by omega), if_neg (by omega)] at k; rw [u.2.2.2 l (by omega) (by omega)]; exact k)
