/-! THE PURE LAYER 11: more pairs of calls that change one thing -/
theorem U_56 {X : Int × (Int → Int)} {d : Nat} {Q : Int → XH → Prop} (hd : 1 ≤ d) (b p k m o : Int) (H : XH) (h : ((((0 ≤ b ∧ b ≤ 1000)) → ((((0 ≤ p ∧ p ≤ 99)) → ((((0 ≤ k ∧ k ≤ 11)) → ((((0 ≤ m ∧ m ≤ 1000)) → ((((0 ≤ o ∧ o ≤ 1000)) → Q 1 (xup (xup (xup (xup (xup H 9 0 b) 9 1 p) 9 2 k) 9 3 m) 9 4 o)) ∧ (¬ ((0 ≤ o ∧ o ≤ 1000)) → Q 0 H))) ∧ (¬ ((0 ≤ m ∧ m ≤ 1000)) → Q 0 H))) ∧ (¬ ((0 ≤ k ∧ k ≤ 11)) → Q 0 H))) ∧ (¬ ((0 ≤ p ∧ p ≤ 99)) → Q 0 H))) ∧ (¬ ((0 ≤ b ∧ b ≤ 1000)) → Q 0 H))) : xc X (d + 1) 56 [(2, 0), (0, b), (0, p), (0, k), (0, m), (0, o)] H Q := by
  refine ⟨rfl, ?_⟩
  show xq X d 56 Q 100000 [(0, (2, 0)), (1, (0, b)), (2, (0, p)), (3, (0, k)), (4, (0, m)), (5, (0, o))] [] H
  refine xq_run [8, 18, 28, 42, 54] 300 ?_
  show xWM (xE X) xMC d 19 [(0, b), (0, 0), (0, 1000)] xKZ H _
  refine xc_in (s_19 (by omega) b 0 1000 H  ?_)
  replace h := h
  show xq X d 56 Q 8 [(0, (2, 0)), (1, (0, b)), (2, (0, p)), (3, (0, k)), (4, (0, m)), (5, (0, o))] [(0, xb (0 ≤ b ∧ b ≤ 1000))] H
  refine xq_run [8, 18, 28, 42, 54] 300 ?_
  show ((xb (0 ≤ b ∧ b ≤ 1000) = 0) → xfR 3 0 ∧ xKZ = xKZ ∧ Q 0 H) ∧ (¬ (xb (0 ≤ b ∧ b ≤ 1000) = 0) → xWM (xE X) xMC d 19 [(0, p), (0, 0), (0, 99)] xKZ H _)
  refine ⟨fun k_ => ?_, fun k_ => ?_⟩
  · replace h := h.2 (xbe_0.mp k_)
    exact ⟨xfR3_0, rfl, h⟩
  · replace h := h.1 (xbe_1.mp k_)
    refine xc_in (s_19 (by omega) p 0 99 H  ?_)
    replace h := h
    show xq X d 56 Q 18 [(0, (2, 0)), (1, (0, b)), (2, (0, p)), (3, (0, k)), (4, (0, m)), (5, (0, o))] [(0, xb (0 ≤ p ∧ p ≤ 99))] H
    refine xq_run [8, 18, 28, 42, 54] 300 ?_
    show ((xb (0 ≤ p ∧ p ≤ 99) = 0) → xfR 3 0 ∧ xKZ = xKZ ∧ Q 0 H) ∧ (¬ (xb (0 ≤ p ∧ p ≤ 99) = 0) → xWM (xE X) xMC d 19 [(0, k), (0, 0), (0, 11)] xKZ H _)
    refine ⟨fun k_ => ?_, fun k_ => ?_⟩
    · replace h := h.2 (xbe_0.mp k_)
      exact ⟨xfR3_0, rfl, h⟩
    · replace h := h.1 (xbe_1.mp k_)
      refine xc_in (s_19 (by omega) k 0 11 H  ?_)
      replace h := h
      show xq X d 56 Q 28 [(0, (2, 0)), (1, (0, b)), (2, (0, p)), (3, (0, k)), (4, (0, m)), (5, (0, o))] [(0, xb (0 ≤ k ∧ k ≤ 11))] H
      refine xq_run [8, 18, 28, 42, 54] 300 ?_
      show ((¬ xb (0 ≤ k ∧ k ≤ 11) = 0) → xWM (xE X) xMC d 19 [(0, m), (0, 0), (0, 1000)] xKZ H _) ∧ (¬ (¬ xb (0 ≤ k ∧ k ≤ 11) = 0) → xfR 3 0 ∧ xKZ = xKZ ∧ Q 0 H)
      refine ⟨fun k_ => ?_, fun k_ => ?_⟩
      · replace h := h.1 (xbe_1.mp k_)
        refine xc_in (s_19 (by omega) m 0 1000 H  ?_)
        replace h := h
        show xq X d 56 Q 42 [(0, (2, 0)), (1, (0, b)), (2, (0, p)), (3, (0, k)), (4, (0, m)), (5, (0, o))] [(0, xb (0 ≤ m ∧ m ≤ 1000))] H
        refine xq_run [8, 18, 28, 42, 54] 300 ?_
        show ((xb (0 ≤ m ∧ m ≤ 1000) = 0) → xfR 3 0 ∧ xKZ = xKZ ∧ Q 0 H) ∧ (¬ (xb (0 ≤ m ∧ m ≤ 1000) = 0) → xWM (xE X) xMC d 19 [(0, o), (0, 0), (0, 1000)] xKZ H _)
        refine ⟨fun k_ => ?_, fun k_ => ?_⟩
        · replace h := h.2 (xbe_0.mp k_)
          exact ⟨xfR3_0, rfl, h⟩
        · replace h := h.1 (xbe_1.mp k_)
          refine xc_in (s_19 (by omega) o 0 1000 H  ?_)
          replace h := h
          show xq X d 56 Q 54 [(0, (2, 0)), (1, (0, b)), (2, (0, p)), (3, (0, k)), (4, (0, m)), (5, (0, o))] [(0, xb (0 ≤ o ∧ o ≤ 1000))] H
          refine xq_run [8, 18, 28, 42, 54] 300 ?_
          show ((¬ xb (0 ≤ o ∧ o ≤ 1000) = 0) → xfR 3 1 ∧ xKZ = xKZ ∧ Q 1 (xup (xup (xup (xup (xup H 9 0 b) 9 1 p) 9 2 k) 9 3 m) 9 4 o)) ∧ (¬ (¬ xb (0 ≤ o ∧ o ≤ 1000) = 0) → xfR 3 0 ∧ xKZ = xKZ ∧ Q 0 H)
          refine ⟨fun k_ => ?_, fun k_ => ?_⟩
          · replace h := h.1 (xbe_1.mp k_)
            exact ⟨xfR3_1, rfl, h⟩
          · replace h := h.2 (xbe_n.mp k_)
            exact ⟨xfR3_0, rfl, h⟩
      · replace h := h.2 (xbe_n.mp k_)
        exact ⟨xfR3_0, rfl, h⟩

theorem U_57 {X : Int × (Int → Int)} {d : Nat} {Q : Int → XH → Prop} (hd : 1 ≤ d) (b p k m o : Int) (H : XH) (h : ((((0 ≤ b ∧ b ≤ 1000)) → ((((0 ≤ p ∧ p ≤ 99)) → ((((0 ≤ k ∧ k ≤ 11)) → ((((0 ≤ m ∧ m ≤ 1000)) → ((((0 ≤ o ∧ o ≤ 1000)) → Q 1 (xup (xup (xup (xup (xup H 68 6 b) 68 7 p) 68 8 k) 68 9 m) 68 10 o)) ∧ (¬ ((0 ≤ o ∧ o ≤ 1000)) → Q 0 H))) ∧ (¬ ((0 ≤ m ∧ m ≤ 1000)) → Q 0 H))) ∧ (¬ ((0 ≤ k ∧ k ≤ 11)) → Q 0 H))) ∧ (¬ ((0 ≤ p ∧ p ≤ 99)) → Q 0 H))) ∧ (¬ ((0 ≤ b ∧ b ≤ 1000)) → Q 0 H))) : xc X (d + 1) 57 [(2, 67), (0, b), (0, p), (0, k), (0, m), (0, o)] H Q := by
  refine ⟨rfl, ?_⟩
  show xq X d 57 Q 100000 [(0, (2, 67)), (1, (0, b)), (2, (0, p)), (3, (0, k)), (4, (0, m)), (5, (0, o))] [] H
  refine xq_run [8, 18, 28, 40, 52] 300 ?_
  show xWM (xE X) xMC d 23 [(0, b), (0, 0), (0, 1000)] xKZ H _
  refine xc_in (s_23 (by omega) b 0 1000 H  ?_)
  replace h := h
  show xq X d 57 Q 8 [(0, (2, 67)), (1, (0, b)), (2, (0, p)), (3, (0, k)), (4, (0, m)), (5, (0, o))] [(0, xb (0 ≤ b ∧ b ≤ 1000))] H
  refine xq_run [8, 18, 28, 40, 52] 300 ?_
  show ((xb (0 ≤ b ∧ b ≤ 1000) = 0) → xfR 3 0 ∧ xKZ = xKZ ∧ Q 0 H) ∧ (¬ (xb (0 ≤ b ∧ b ≤ 1000) = 0) → xWM (xE X) xMC d 23 [(0, p), (0, 0), (0, 99)] xKZ H _)
  refine ⟨fun k_ => ?_, fun k_ => ?_⟩
  · replace h := h.2 (xbe_0.mp k_)
    exact ⟨xfR3_0, rfl, h⟩
  · replace h := h.1 (xbe_1.mp k_)
    refine xc_in (s_23 (by omega) p 0 99 H  ?_)
    replace h := h
    show xq X d 57 Q 18 [(0, (2, 67)), (1, (0, b)), (2, (0, p)), (3, (0, k)), (4, (0, m)), (5, (0, o))] [(0, xb (0 ≤ p ∧ p ≤ 99))] H
    refine xq_run [8, 18, 28, 40, 52] 300 ?_
    show ((xb (0 ≤ p ∧ p ≤ 99) = 0) → xfR 3 0 ∧ xKZ = xKZ ∧ Q 0 H) ∧ (¬ (xb (0 ≤ p ∧ p ≤ 99) = 0) → xWM (xE X) xMC d 23 [(0, k), (0, 0), (0, 11)] xKZ H _)
    refine ⟨fun k_ => ?_, fun k_ => ?_⟩
    · replace h := h.2 (xbe_0.mp k_)
      exact ⟨xfR3_0, rfl, h⟩
    · replace h := h.1 (xbe_1.mp k_)
      refine xc_in (s_23 (by omega) k 0 11 H  ?_)
      replace h := h
      show xq X d 57 Q 28 [(0, (2, 67)), (1, (0, b)), (2, (0, p)), (3, (0, k)), (4, (0, m)), (5, (0, o))] [(0, xb (0 ≤ k ∧ k ≤ 11))] H
      refine xq_run [8, 18, 28, 40, 52] 300 ?_
      show ((xb (0 ≤ k ∧ k ≤ 11) = 0) → xfR 3 0 ∧ xKZ = xKZ ∧ Q 0 H) ∧ (¬ (xb (0 ≤ k ∧ k ≤ 11) = 0) → xWM (xE X) xMC d 23 [(0, m), (0, 0), (0, 1000)] xKZ H _)
      refine ⟨fun k_ => ?_, fun k_ => ?_⟩
      · replace h := h.2 (xbe_0.mp k_)
        exact ⟨xfR3_0, rfl, h⟩
      · replace h := h.1 (xbe_1.mp k_)
        refine xc_in (s_23 (by omega) m 0 1000 H  ?_)
        replace h := h
        show xq X d 57 Q 40 [(0, (2, 67)), (1, (0, b)), (2, (0, p)), (3, (0, k)), (4, (0, m)), (5, (0, o))] [(0, xb (0 ≤ m ∧ m ≤ 1000))] H
        refine xq_run [8, 18, 28, 40, 52] 300 ?_
        show ((xb (0 ≤ m ∧ m ≤ 1000) = 0) → xfR 3 0 ∧ xKZ = xKZ ∧ Q 0 H) ∧ (¬ (xb (0 ≤ m ∧ m ≤ 1000) = 0) → xWM (xE X) xMC d 23 [(0, o), (0, 0), (0, 1000)] xKZ H _)
        refine ⟨fun k_ => ?_, fun k_ => ?_⟩
        · replace h := h.2 (xbe_0.mp k_)
          exact ⟨xfR3_0, rfl, h⟩
        · replace h := h.1 (xbe_1.mp k_)
          refine xc_in (s_23 (by omega) o 0 1000 H  ?_)
          replace h := h
          show xq X d 57 Q 52 [(0, (2, 67)), (1, (0, b)), (2, (0, p)), (3, (0, k)), (4, (0, m)), (5, (0, o))] [(0, xb (0 ≤ o ∧ o ≤ 1000))] H
          refine xq_run [8, 18, 28, 40, 52] 300 ?_
          show ((¬ xb (0 ≤ o ∧ o ≤ 1000) = 0) → ((0 : Int) ≤ 6 ∧ (6 : Int) < 1180) ∧ ((0 : Int) ≤ 7 ∧ (7 : Int) < 1180) ∧ ((0 : Int) ≤ 8 ∧ (8 : Int) < 1180) ∧ ((0 : Int) ≤ 9 ∧ (9 : Int) < 1180) ∧ ((0 : Int) ≤ 10 ∧ (10 : Int) < 1180) ∧ xfR 3 1 ∧ xKZ = xKZ ∧ Q 1 (xup (xup (xup (xup (xup H 68 6 b) 68 7 p) 68 8 k) 68 9 m) 68 10 o)) ∧ (¬ (¬ xb (0 ≤ o ∧ o ≤ 1000) = 0) → xfR 3 0 ∧ xKZ = xKZ ∧ Q 0 H)
          refine ⟨fun k_ => ?_, fun k_ => ?_⟩
          · replace h := h.1 (xbe_1.mp k_)
            refine ⟨⟨by decide, by decide⟩, ?_⟩
            refine ⟨⟨by decide, by decide⟩, ?_⟩
            refine ⟨⟨by decide, by decide⟩, ?_⟩
            refine ⟨⟨by decide, by decide⟩, ?_⟩
            refine ⟨⟨by decide, by decide⟩, ?_⟩
            exact ⟨xfR3_1, rfl, h⟩
          · replace h := h.2 (xbe_n.mp k_)
            exact ⟨xfR3_0, rfl, h⟩

theorem U_111 {X : Int × (Int → Int)} {d : Nat} {Q : Int → XH → Prop} (hd : 1 ≤ d) (s f t : Int) (H : XH) (h : ((((0 ≤ s ∧ s ≤ 4)) → (((((-1) ≤ f ∧ f ≤ 11)) → ((f = (-1)) → ((0 : Int) ≤ s ∧ (s : Int) < 5) ∧ ((0 : Int) ≤ s ∧ (s : Int) < 5) ∧ Q 1 (xup (xup H 10 s f) 11 s t)) ∧ (¬ (f = (-1)) → ((((0 ≤ t ∧ t ≤ 11)) → ((0 : Int) ≤ s ∧ (s : Int) < 5) ∧ ((0 : Int) ≤ s ∧ (s : Int) < 5) ∧ Q 1 (xup (xup H 10 s f) 11 s t)) ∧ (¬ ((0 ≤ t ∧ t ≤ 11)) → Q 0 H)))) ∧ (¬ (((-1) ≤ f ∧ f ≤ 11)) → Q 0 H))) ∧ (¬ ((0 ≤ s ∧ s ≤ 4)) → Q 0 H))) : xc X (d + 1) 111 [(2, 0), (0, s), (0, f), (0, t)] H Q := by
  refine ⟨rfl, ?_⟩
  show xq X d 111 Q 100000 [(0, (2, 0)), (1, (0, s)), (2, (0, f)), (3, (0, t))] [] H
  refine xq_run [4, 14, 31] 300 ?_
  show xWM (xE X) xMC d 31 [(0, s)] xKZ H _
  refine xc_in (s_31 (by omega) s H  ?_)
  replace h := h
  show xq X d 111 Q 4 [(0, (2, 0)), (1, (0, s)), (2, (0, f)), (3, (0, t))] [(0, xb (0 ≤ s ∧ s ≤ 4))] H
  refine xq_run [4, 14, 31] 300 ?_
  show ((xb (0 ≤ s ∧ s ≤ 4) = 0) → xfR 3 0 ∧ xKZ = xKZ ∧ Q 0 H) ∧ (¬ (xb (0 ≤ s ∧ s ≤ 4) = 0) → xWM (xE X) xMC d 19 [(0, f), (0, (-1)), (0, 11)] xKZ H _)
  refine ⟨fun k_ => ?_, fun k_ => ?_⟩
  · replace h := h.2 (xbe_0.mp k_)
    exact ⟨xfR3_0, rfl, h⟩
  · replace h := h.1 (xbe_1.mp k_)
    refine xc_in (s_19 (by omega) f (-1) 11 H  ?_)
    replace h := h
    show xq X d 111 Q 14 [(0, (2, 0)), (1, (0, s)), (2, (0, f)), (3, (0, t))] [(0, xb ((-1) ≤ f ∧ f ≤ 11))] H
    refine xq_run [4, 14, 31] 300 ?_
    show ((¬ xb ((-1) ≤ f ∧ f ≤ 11) = 0) → ((f = (-1)) → ((0 : Int) ≤ s ∧ (s : Int) < 5) ∧ ((0 : Int) ≤ s ∧ (s : Int) < 5) ∧ xfR 3 1 ∧ xKZ = xKZ ∧ Q 1 (xup (xup H 10 s f) 11 s t)) ∧ (¬ (f = (-1)) → xWM (xE X) xMC d 19 [(0, t), (0, 0), (0, 11)] xKZ H _)) ∧ (¬ (¬ xb ((-1) ≤ f ∧ f ≤ 11) = 0) → xfR 3 0 ∧ xKZ = xKZ ∧ Q 0 H)
    refine ⟨fun k_ => ?_, fun k_ => ?_⟩
    · replace h := h.1 (xbe_1.mp k_)
      refine ⟨fun k_ => ?_, fun k_ => ?_⟩
      · replace h := h.1 k_
        refine ⟨h.1, ?_⟩
        replace h := h.2
        refine ⟨h.1, ?_⟩
        replace h := h.2
        exact ⟨xfR3_1, rfl, h⟩
      · replace h := h.2 k_
        refine xc_in (s_19 (by omega) t 0 11 H  ?_)
        replace h := h
        show xq X d 111 Q 31 [(0, (2, 0)), (1, (0, s)), (2, (0, f)), (3, (0, t))] [(0, xb (0 ≤ t ∧ t ≤ 11))] H
        refine xq_run [4, 14, 31] 300 ?_
        show ((¬ xb (0 ≤ t ∧ t ≤ 11) = 0) → ((0 : Int) ≤ s ∧ (s : Int) < 5) ∧ ((0 : Int) ≤ s ∧ (s : Int) < 5) ∧ xfR 3 1 ∧ xKZ = xKZ ∧ Q 1 (xup (xup H 10 s f) 11 s t)) ∧ (¬ (¬ xb (0 ≤ t ∧ t ≤ 11) = 0) → xfR 3 0 ∧ xKZ = xKZ ∧ Q 0 H)
        refine ⟨fun k_ => ?_, fun k_ => ?_⟩
        · replace h := h.1 (xbe_1.mp k_)
          refine ⟨h.1, ?_⟩
          replace h := h.2
          refine ⟨h.1, ?_⟩
          replace h := h.2
          exact ⟨xfR3_1, rfl, h⟩
        · replace h := h.2 (xbe_n.mp k_)
          exact ⟨xfR3_0, rfl, h⟩
    · replace h := h.2 (xbe_n.mp k_)
      exact ⟨xfR3_0, rfl, h⟩

theorem U_112 {X : Int × (Int → Int)} {d : Nat} {Q : Int → XH → Prop} (hd : 2 ≤ d) (s f t : Int) (H : XH) (h : ((((0 ≤ s ∧ s ≤ 4)) → ((f = (-1)) → (xI (2 * s)) ∧ (xI (600 + (2 * s))) ∧ ((0 : Int) ≤ 600 + (2 * s) ∧ (600 + (2 * s) : Int) < 1180) ∧ (xI (2 * s)) ∧ (xI (600 + (2 * s))) ∧ (xI ((600 + (2 * s)) + 1)) ∧ ((0 : Int) ≤ (600 + (2 * s)) + 1 ∧ ((600 + (2 * s)) + 1 : Int) < 1180) ∧ Q 1 (xup (xup H 68 (600 + (2 * s)) f) 68 ((600 + (2 * s)) + 1) t)) ∧ (¬ (f = (-1)) → ((((0 ≤ f ∧ f ≤ 11)) → ((((0 ≤ t ∧ t ≤ 11)) → (xI (2 * s)) ∧ (xI (600 + (2 * s))) ∧ ((0 : Int) ≤ 600 + (2 * s) ∧ (600 + (2 * s) : Int) < 1180) ∧ (xI (2 * s)) ∧ (xI (600 + (2 * s))) ∧ (xI ((600 + (2 * s)) + 1)) ∧ ((0 : Int) ≤ (600 + (2 * s)) + 1 ∧ ((600 + (2 * s)) + 1 : Int) < 1180) ∧ Q 1 (xup (xup H 68 (600 + (2 * s)) f) 68 ((600 + (2 * s)) + 1) t)) ∧ (¬ ((0 ≤ t ∧ t ≤ 11)) → Q 0 H))) ∧ (¬ ((0 ≤ f ∧ f ≤ 11)) → Q 0 H)))) ∧ (¬ ((0 ≤ s ∧ s ≤ 4)) → Q 0 H))) : xc X (d + 1) 112 [(2, 67), (0, s), (0, f), (0, t)] H Q := by
  refine ⟨rfl, ?_⟩
  show xq X d 112 Q 100000 [(0, (2, 67)), (1, (0, s)), (2, (0, f)), (3, (0, t))] [] H
  refine xq_run [4, 19, 29] 300 ?_
  show xWM (xE X) xMC d 39 [(0, s)] xKZ H _
  refine xc_in (s_39 (by omega) s H  ?_)
  replace h := h
  show xq X d 112 Q 4 [(0, (2, 67)), (1, (0, s)), (2, (0, f)), (3, (0, t))] [(0, xb (0 ≤ s ∧ s ≤ 4))] H
  refine xq_run [4, 19, 29] 300 ?_
  show ((xb (0 ≤ s ∧ s ≤ 4) = 0) → xfR 3 0 ∧ xKZ = xKZ ∧ Q 0 H) ∧ (¬ (xb (0 ≤ s ∧ s ≤ 4) = 0) → ((f = (-1)) → (xI (2 * s)) ∧ (xI (600 + (2 * s))) ∧ ((0 : Int) ≤ 600 + (2 * s) ∧ (600 + (2 * s) : Int) < 1180) ∧ (xI (2 * s)) ∧ (xI (600 + (2 * s))) ∧ (xI ((600 + (2 * s)) + 1)) ∧ ((0 : Int) ≤ (600 + (2 * s)) + 1 ∧ ((600 + (2 * s)) + 1 : Int) < 1180) ∧ xfR 3 1 ∧ xKZ = xKZ ∧ Q 1 (xup (xup H 68 (600 + (2 * s)) f) 68 ((600 + (2 * s)) + 1) t)) ∧ (¬ (f = (-1)) → xWM (xE X) xMC d 23 [(0, f), (0, 0), (0, 11)] xKZ H _))
  refine ⟨fun k_ => ?_, fun k_ => ?_⟩
  · replace h := h.2 (xbe_0.mp k_)
    exact ⟨xfR3_0, rfl, h⟩
  · replace h := h.1 (xbe_1.mp k_)
    refine ⟨fun k_ => ?_, fun k_ => ?_⟩
    · replace h := h.1 k_
      refine ⟨h.1, ?_⟩
      replace h := h.2
      refine ⟨h.1, ?_⟩
      replace h := h.2
      refine ⟨h.1, ?_⟩
      replace h := h.2
      refine ⟨h.1, ?_⟩
      replace h := h.2
      refine ⟨h.1, ?_⟩
      replace h := h.2
      refine ⟨h.1, ?_⟩
      replace h := h.2
      refine ⟨h.1, ?_⟩
      replace h := h.2
      exact ⟨xfR3_1, rfl, h⟩
    · replace h := h.2 k_
      refine xc_in (s_23 (by omega) f 0 11 H  ?_)
      replace h := h
      show xq X d 112 Q 19 [(0, (2, 67)), (1, (0, s)), (2, (0, f)), (3, (0, t))] [(0, xb (0 ≤ f ∧ f ≤ 11))] H
      refine xq_run [4, 19, 29] 300 ?_
      show ((xb (0 ≤ f ∧ f ≤ 11) = 0) → xfR 3 0 ∧ xKZ = xKZ ∧ Q 0 H) ∧ (¬ (xb (0 ≤ f ∧ f ≤ 11) = 0) → xWM (xE X) xMC d 23 [(0, t), (0, 0), (0, 11)] xKZ H _)
      refine ⟨fun k_ => ?_, fun k_ => ?_⟩
      · replace h := h.2 (xbe_0.mp k_)
        exact ⟨xfR3_0, rfl, h⟩
      · replace h := h.1 (xbe_1.mp k_)
        refine xc_in (s_23 (by omega) t 0 11 H  ?_)
        replace h := h
        show xq X d 112 Q 29 [(0, (2, 67)), (1, (0, s)), (2, (0, f)), (3, (0, t))] [(0, xb (0 ≤ t ∧ t ≤ 11))] H
        refine xq_run [4, 19, 29] 300 ?_
        show ((¬ xb (0 ≤ t ∧ t ≤ 11) = 0) → (xI (2 * s)) ∧ (xI (600 + (2 * s))) ∧ ((0 : Int) ≤ 600 + (2 * s) ∧ (600 + (2 * s) : Int) < 1180) ∧ (xI (2 * s)) ∧ (xI (600 + (2 * s))) ∧ (xI ((600 + (2 * s)) + 1)) ∧ ((0 : Int) ≤ (600 + (2 * s)) + 1 ∧ ((600 + (2 * s)) + 1 : Int) < 1180) ∧ xfR 3 1 ∧ xKZ = xKZ ∧ Q 1 (xup (xup H 68 (600 + (2 * s)) f) 68 ((600 + (2 * s)) + 1) t)) ∧ (¬ (¬ xb (0 ≤ t ∧ t ≤ 11) = 0) → xfR 3 0 ∧ xKZ = xKZ ∧ Q 0 H)
        refine ⟨fun k_ => ?_, fun k_ => ?_⟩
        · replace h := h.1 (xbe_1.mp k_)
          refine ⟨h.1, ?_⟩
          replace h := h.2
          refine ⟨h.1, ?_⟩
          replace h := h.2
          refine ⟨h.1, ?_⟩
          replace h := h.2
          refine ⟨h.1, ?_⟩
          replace h := h.2
          refine ⟨h.1, ?_⟩
          replace h := h.2
          refine ⟨h.1, ?_⟩
          replace h := h.2
          refine ⟨h.1, ?_⟩
          replace h := h.2
          exact ⟨xfR3_1, rfl, h⟩
        · replace h := h.2 (xbe_n.mp k_)
          exact ⟨xfR3_0, rfl, h⟩

theorem p_rules {X : Int × (Int → Int)} {d : Nat} (hd : 3 ≤ d) (b p k m o : Int) (H : XH) (hi : InvS H) : xc X d 56 [(2, 0), (0, b), (0, p), (0, k), (0, m), (0, o)] H (fun r H1 => xc X d 57 [(2, 67), (0, b), (0, p), (0, k), (0, m), (0, o)] H1 (pOk H r)) := by
  cases d with
  | zero => omega
  | succ d =>
  have hg := hi.1
  have hs := hi.2
  have no : pOk H 0 0 H := ⟨rfl, hi, frO_refl H⟩
  refine U_56 (by omega) b p k m o H ⟨fun q1 => ⟨fun q2 => ⟨fun q3 => ⟨fun q4 => ⟨fun q5 => ?_, fun q5 => ?_⟩, fun q4 => ?_⟩, fun q3 => ?_⟩, fun q2 => ?_⟩, fun q1 => ?_⟩
  · refine U_57 (by omega) b p k m o _ ⟨fun _ => ⟨fun _ => ⟨fun _ => ⟨fun _ => ⟨fun _ => ⟨rfl, ⟨?_, ?_⟩, ?_⟩, fun z => absurd q5 z⟩, fun z => absurd q4 z⟩, fun z => absurd q3 z⟩, fun z => absurd q2 z⟩, fun z => absurd q1 z⟩
    · exact GOk_ru (g := H 68) hg (fun k hk => by rw [xup_k (by omega), xup_k (by omega), xup_k (by omega), xup_k (by omega), xup_k (by omega)]; rfl) q1 q2 q3 q4 q5
    · exact SRel_ru (g := H 68) hg hs (fun k hk => by rw [xup_k (by omega), xup_k (by omega), xup_k (by omega), xup_k (by omega), xup_k (by omega)]; rfl) rfl rfl rfl rfl rfl hs.r5
    · refine frO_up (frO_up (frO_up (frO_up (frO_up (frO_up (frO_up (frO_up (frO_up (frO_up (frO_refl H) ?_) ?_) ?_) ?_) ?_) ?_) ?_) ?_) ?_) ?_ <;> omega
  · exact U_57 (by omega) b p k m o H ⟨fun _ => ⟨fun _ => ⟨fun _ => ⟨fun _ => ⟨fun z => absurd z q5, fun _ => no⟩, fun _ => no⟩, fun _ => no⟩, fun _ => no⟩, fun _ => no⟩
  · exact U_57 (by omega) b p k m o H ⟨fun _ => ⟨fun _ => ⟨fun _ => ⟨fun z => absurd z q4, fun _ => no⟩, fun _ => no⟩, fun _ => no⟩, fun _ => no⟩
  · exact U_57 (by omega) b p k m o H ⟨fun _ => ⟨fun _ => ⟨fun z => absurd z q3, fun _ => no⟩, fun _ => no⟩, fun _ => no⟩
  · exact U_57 (by omega) b p k m o H ⟨fun _ => ⟨fun z => absurd z q2, fun _ => no⟩, fun _ => no⟩
  · exact U_57 (by omega) b p k m o H ⟨fun z => absurd z q1, fun _ => no⟩
theorem p_flowers {X : Int × (Int → Int)} {d : Nat} (hd : 3 ≤ d) (s f t : Int) (H : XH) (hi : InvS H) : xc X d 111 [(2, 0), (0, s), (0, f), (0, t)] H (fun r H1 => xc X d 112 [(2, 67), (0, s), (0, f), (0, t)] H1 (pOk H r)) := by
  cases d with
  | zero => omega
  | succ d =>
  have hg := hi.1
  have hs := hi.2
  have no : pOk H 0 0 H := ⟨rfl, hi, frO_refl H⟩
  have yes : (0 ≤ s ∧ s ≤ 4) → (f = -1 ∨ (0 ≤ f ∧ f ≤ 11 ∧ 0 ≤ t ∧ t ≤ 11)) → pOk H 1 1 (xup (xup (xup (xup H 10 s f) 11 s t) 68 (600 + 2 * s) f) 68 (600 + 2 * s + 1) t) := by
    intro q1 q2
    have e0 : ∀ u, 0 ≤ u → u < 5 → xup (xup (xup (xup H 10 s f) 11 s t) 68 (600 + 2 * s) f) 68 (600 + 2 * s + 1) t 68 (600 + 2 * u) = if u = s then f else H 68 (600 + 2 * u) := fun u a b => by
      rw [xup_k (by omega), xup_eq]
      by_cases h : u = s
      · rw [if_pos h, if_pos (by omega)]
      · rw [if_neg h, if_neg (by omega)]
        rfl
    have e1 : ∀ u, 0 ≤ u → u < 5 → xup (xup (xup (xup H 10 s f) 11 s t) 68 (600 + 2 * s) f) 68 (600 + 2 * s + 1) t 68 (601 + 2 * u) = if u = s then t else H 68 (601 + 2 * u) := fun u a b => by
      rw [xup_eq]
      by_cases h : u = s
      · rw [if_pos h, if_pos (by omega)]
      · rw [if_neg h, if_neg (by omega), xup_k (by omega)]
        rfl
    refine ⟨rfl, ⟨?_, ?_⟩, frO_up (frO_up (frO_up (frO_up (frO_refl H) (by omega)) (by omega)) (by omega)) (by omega)⟩
    · refine GOk_fl (g := H 68) hg (fun k hk => by rw [xup_k (by omega), xup_k (by omega)]; rfl) (fun u a b => ?_) (fun u a b c => ?_)
      · rw [e0 u a b]
        have z := hg.flf u a b
        split <;> omega
      · rw [e0 u a b] at c
        rw [e1 u a b]
        have z := hg.flt u a b
        split
        · next h => rw [if_pos h] at c; omega
        · next h => rw [if_neg h] at c; exact z c
    · refine SRel_fl (g := H 68) hg hs (fun k hk => by rw [xup_k (by omega), xup_k (by omega)]; rfl) (fun u a b => ?_) (fun u a b c => ?_)
      · rw [e0 u a b]
        have z := hs.ff u a b
        show xup H 10 s f 10 u = _
        rw [xup_eq, z]
      · rw [e0 u a b] at c
        rw [e1 u a b]
        show xup (xup H 10 s f) 11 s t 11 u = _
        rw [xup_eq]
        split
        · rfl
        · next h => rw [if_neg h] at c; exact hs.ft u a b c
  have gy : (0 ≤ s ∧ s ≤ 4) → (f = -1 ∨ (0 ≤ f ∧ f ≤ 11 ∧ 0 ≤ t ∧ t ≤ 11)) → xc X (d + 1) 112 [(2, 67), (0, s), (0, f), (0, t)] (xup (xup H 10 s f) 11 s t) (pOk H 1) := fun q1 q2 => by
    refine U_112 (by omega) s f t _ ⟨fun _ => ⟨fun _ => ⟨by unfold xI; omega, by unfold xI; omega, by omega, by unfold xI; omega, by unfold xI; omega, by unfold xI; omega, by omega, yes q1 q2⟩, fun z => ⟨fun _ => ⟨fun _ => ⟨by unfold xI; omega, by unfold xI; omega, by omega, by unfold xI; omega, by unfold xI; omega, by unfold xI; omega, by omega, yes q1 q2⟩, fun w => absurd (by omega) w⟩, fun w => absurd (by omega) w⟩⟩, fun z => absurd q1 z⟩
  have gn : ¬ ((0 ≤ s ∧ s ≤ 4) ∧ (f = -1 ∨ (0 ≤ f ∧ f ≤ 11 ∧ 0 ≤ t ∧ t ≤ 11))) → xc X (d + 1) 112 [(2, 67), (0, s), (0, f), (0, t)] H (pOk H 0) := fun q => by
    refine U_112 (by omega) s f t _ ⟨fun a => ⟨fun b => absurd ⟨a, Or.inl b⟩ q, fun b => ⟨fun c => ⟨fun e => absurd ⟨a, Or.inr ⟨c.1, c.2, e.1, e.2⟩⟩ q, fun _ => no⟩, fun _ => no⟩⟩, fun _ => no⟩
  refine U_111 (by omega) s f t H ⟨fun q1 => ⟨fun q2 => ⟨fun q3 => ⟨by omega, by omega, gy q1 (Or.inl q3)⟩, fun q3 => ⟨fun q4 => ⟨by omega, by omega, gy q1 (Or.inr (by omega))⟩, fun q4 => gn (by omega)⟩⟩, fun q2 => gn (by omega)⟩, fun q1 => gn (by omega)⟩
