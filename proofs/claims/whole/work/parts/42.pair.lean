/-! THE PURE LAYER 12: dig, layer -/
theorem U_20 {X : Int × (Int → Int)} {d : Nat} {Q : Int → XH → Prop} (hd : 1 ≤ d) (a b c e f m : Int) (H : XH) (h : ((((0 ≤ a ∧ a ≤ m)) → ((((0 ≤ b ∧ b ≤ m)) → ((((0 ≤ c ∧ c ≤ m)) → ((((0 ≤ e ∧ e ≤ m)) → ((((0 ≤ f ∧ f ≤ m)) → (xI (a + b)) ∧ (xI ((a + b) + c)) ∧ (xI (((a + b) + c) + e)) ∧ (xI ((((a + b) + c) + e) + f)) ∧ (((((a + b) + c) + e) + f < 1) → Q 0 H) ∧ (¬ ((((a + b) + c) + e) + f < 1) → Q 1 H)) ∧ (¬ ((0 ≤ f ∧ f ≤ m)) → Q 0 H))) ∧ (¬ ((0 ≤ e ∧ e ≤ m)) → Q 0 H))) ∧ (¬ ((0 ≤ c ∧ c ≤ m)) → Q 0 H))) ∧ (¬ ((0 ≤ b ∧ b ≤ m)) → Q 0 H))) ∧ (¬ ((0 ≤ a ∧ a ≤ m)) → Q 0 H))) : xc X (d + 1) 20 [(0, a), (0, b), (0, c), (0, e), (0, f), (0, m)] H Q := by
  refine ⟨rfl, ?_⟩
  show xq X d 20 Q 100000 [(0, (0, a)), (1, (0, b)), (2, (0, c)), (3, (0, e)), (4, (0, f)), (5, (0, m))] [] H
  refine xq_run [7, 17, 27, 39, 50] 300 ?_
  show xWM (xE X) xMC d 19 [(0, a), (0, 0), (0, m)] xKZ H _
  refine xc_in (s_19 (by omega) a 0 m H  ?_)
  replace h := h
  show xq X d 20 Q 7 [(0, (0, a)), (1, (0, b)), (2, (0, c)), (3, (0, e)), (4, (0, f)), (5, (0, m))] [(0, xb (0 ≤ a ∧ a ≤ m))] H
  refine xq_run [7, 17, 27, 39, 50] 300 ?_
  show ((xb (0 ≤ a ∧ a ≤ m) = 0) → xfR 3 0 ∧ xKZ = xKZ ∧ Q 0 H) ∧ (¬ (xb (0 ≤ a ∧ a ≤ m) = 0) → xWM (xE X) xMC d 19 [(0, b), (0, 0), (0, m)] xKZ H _)
  refine ⟨fun k_ => ?_, fun k_ => ?_⟩
  · replace h := h.2 (xbe_0.mp k_)
    exact ⟨xfR3_0, rfl, h⟩
  · replace h := h.1 (xbe_1.mp k_)
    refine xc_in (s_19 (by omega) b 0 m H  ?_)
    replace h := h
    show xq X d 20 Q 17 [(0, (0, a)), (1, (0, b)), (2, (0, c)), (3, (0, e)), (4, (0, f)), (5, (0, m))] [(0, xb (0 ≤ b ∧ b ≤ m))] H
    refine xq_run [7, 17, 27, 39, 50] 300 ?_
    show ((xb (0 ≤ b ∧ b ≤ m) = 0) → xfR 3 0 ∧ xKZ = xKZ ∧ Q 0 H) ∧ (¬ (xb (0 ≤ b ∧ b ≤ m) = 0) → xWM (xE X) xMC d 19 [(0, c), (0, 0), (0, m)] xKZ H _)
    refine ⟨fun k_ => ?_, fun k_ => ?_⟩
    · replace h := h.2 (xbe_0.mp k_)
      exact ⟨xfR3_0, rfl, h⟩
    · replace h := h.1 (xbe_1.mp k_)
      refine xc_in (s_19 (by omega) c 0 m H  ?_)
      replace h := h
      show xq X d 20 Q 27 [(0, (0, a)), (1, (0, b)), (2, (0, c)), (3, (0, e)), (4, (0, f)), (5, (0, m))] [(0, xb (0 ≤ c ∧ c ≤ m))] H
      refine xq_run [7, 17, 27, 39, 50] 300 ?_
      show ((¬ xb (0 ≤ c ∧ c ≤ m) = 0) → xWM (xE X) xMC d 19 [(0, e), (0, 0), (0, m)] xKZ H _) ∧ (¬ (¬ xb (0 ≤ c ∧ c ≤ m) = 0) → xfR 3 0 ∧ xKZ = xKZ ∧ Q 0 H)
      refine ⟨fun k_ => ?_, fun k_ => ?_⟩
      · replace h := h.1 (xbe_1.mp k_)
        refine xc_in (s_19 (by omega) e 0 m H  ?_)
        replace h := h
        show xq X d 20 Q 39 [(0, (0, a)), (1, (0, b)), (2, (0, c)), (3, (0, e)), (4, (0, f)), (5, (0, m))] [(0, xb (0 ≤ e ∧ e ≤ m))] H
        refine xq_run [7, 17, 27, 39, 50] 300 ?_
        show ((xb (0 ≤ e ∧ e ≤ m) = 0) → xfR 3 0 ∧ xKZ = xKZ ∧ Q 0 H) ∧ (¬ (xb (0 ≤ e ∧ e ≤ m) = 0) → xWM (xE X) xMC d 19 [(0, f), (0, 0), (0, m)] xKZ H _)
        refine ⟨fun k_ => ?_, fun k_ => ?_⟩
        · replace h := h.2 (xbe_0.mp k_)
          exact ⟨xfR3_0, rfl, h⟩
        · replace h := h.1 (xbe_1.mp k_)
          refine xc_in (s_19 (by omega) f 0 m H  ?_)
          replace h := h
          show xq X d 20 Q 50 [(0, (0, a)), (1, (0, b)), (2, (0, c)), (3, (0, e)), (4, (0, f)), (5, (0, m))] [(0, xb (0 ≤ f ∧ f ≤ m))] H
          refine xq_run [7, 17, 27, 39, 50] 300 ?_
          show ((¬ xb (0 ≤ f ∧ f ≤ m) = 0) → (xI (a + b)) ∧ (xI ((a + b) + c)) ∧ (xI (((a + b) + c) + e)) ∧ (xI ((((a + b) + c) + e) + f)) ∧ (((((a + b) + c) + e) + f < 1) → xfR 3 0 ∧ xKZ = xKZ ∧ Q 0 H) ∧ (¬ ((((a + b) + c) + e) + f < 1) → xfR 3 1 ∧ xKZ = xKZ ∧ Q 1 H)) ∧ (¬ (¬ xb (0 ≤ f ∧ f ≤ m) = 0) → xfR 3 0 ∧ xKZ = xKZ ∧ Q 0 H)
          refine ⟨fun k_ => ?_, fun k_ => ?_⟩
          · replace h := h.1 (xbe_1.mp k_)
            refine ⟨h.1, ?_⟩
            replace h := h.2
            refine ⟨h.1, ?_⟩
            replace h := h.2
            refine ⟨h.1, ?_⟩
            replace h := h.2
            refine ⟨h.1, ?_⟩
            replace h := h.2
            refine ⟨fun k_ => ?_, fun k_ => ?_⟩
            · replace h := h.1 k_
              exact ⟨xfR3_0, rfl, h⟩
            · replace h := h.2 k_
              exact ⟨xfR3_1, rfl, h⟩
          · replace h := h.2 (xbe_n.mp k_)
            exact ⟨xfR3_0, rfl, h⟩
      · replace h := h.2 (xbe_n.mp k_)
        exact ⟨xfR3_0, rfl, h⟩

theorem s_20 {X : Int × (Int → Int)} {d : Nat} {Q : Int → XH → Prop} (hd : 2 ≤ d) (a b c e f m : Int) (H : XH) (p0 : m ≤ 99) (hQ : Q (xb ((0 ≤ a ∧ a ≤ m) ∧ (0 ≤ b ∧ b ≤ m) ∧ (0 ≤ c ∧ c ≤ m) ∧ (0 ≤ e ∧ e ≤ m) ∧ (0 ≤ f ∧ f ≤ m) ∧ 1 ≤ a + b + c + e + f)) H) : xc X d 20 [(0, a), (0, b), (0, c), (0, e), (0, f), (0, m)] H Q := by
  cases d with
  | zero => omega
  | succ d =>
  refine U_20 (by omega) a b c e f m H ?_
  refine ⟨fun c1 => ?_, fun c1 => ?_⟩
  · skip
    refine ⟨fun c2 => ?_, fun c2 => ?_⟩
    · skip
      refine ⟨fun c3 => ?_, fun c3 => ?_⟩
      · skip
        refine ⟨fun c4 => ?_, fun c4 => ?_⟩
        · skip
          refine ⟨fun c5 => ?_, fun c5 => ?_⟩
          · skip
            refine ⟨?_, ?_⟩
            · unfold xI; omega
            refine ⟨?_, ?_⟩
            · unfold xI; omega
            refine ⟨?_, ?_⟩
            · unfold xI; omega
            refine ⟨?_, ?_⟩
            · unfold xI; omega
            refine ⟨fun c6 => ?_, fun c6 => ?_⟩
            · skip
              exact xQr hQ (by unfold xb; split <;> omega)
            · skip
              exact xQr hQ (by unfold xb; split <;> omega)
          · skip
            exact xQr hQ (by unfold xb; split <;> omega)
        · skip
          exact xQr hQ (by unfold xb; split <;> omega)
      · skip
        exact xQr hQ (by unfold xb; split <;> omega)
    · skip
      exact xQr hQ (by unfold xb; split <;> omega)
  · skip
    exact xQr hQ (by unfold xb; split <;> omega)

theorem U_53 {X : Int × (Int → Int)} {d : Nat} {Q : Int → XH → Prop} (hd : 1 ≤ d) (a b c e f : Int) (H : XH) (h : ((((0 ≤ a ∧ a ≤ 99)) → ((((0 ≤ b ∧ b ≤ 99)) → ((((0 ≤ c ∧ c ≤ 99)) → ((((0 ≤ e ∧ e ≤ 99)) → ((((0 ≤ f ∧ f ≤ 99)) → (xI (a + b)) ∧ (xI ((a + b) + c)) ∧ (xI (((a + b) + c) + e)) ∧ (xI ((((a + b) + c) + e) + f)) ∧ (((((a + b) + c) + e) + f = 0) → Q (-1) H) ∧ (¬ ((((a + b) + c) + e) + f = 0) → ((¬ H 68 1 = 8) → (xI (5 * (H 68 1))) ∧ (xI (560 + (5 * (H 68 1)))) ∧ ((0 : Int) ≤ 560 + (5 * (H 68 1)) ∧ (560 + (5 * (H 68 1)) : Int) < 1180) ∧ (xI ((560 + (5 * (H 68 1))) + 1)) ∧ ((0 : Int) ≤ (560 + (5 * (H 68 1))) + 1 ∧ ((560 + (5 * (H 68 1))) + 1 : Int) < 1180) ∧ (xI ((560 + (5 * (H 68 1))) + 2)) ∧ ((0 : Int) ≤ (560 + (5 * (H 68 1))) + 2 ∧ ((560 + (5 * (H 68 1))) + 2 : Int) < 1180) ∧ (xI ((560 + (5 * (H 68 1))) + 3)) ∧ ((0 : Int) ≤ (560 + (5 * (H 68 1))) + 3 ∧ ((560 + (5 * (H 68 1))) + 3 : Int) < 1180) ∧ (xI ((560 + (5 * (H 68 1))) + 4)) ∧ ((0 : Int) ≤ (560 + (5 * (H 68 1))) + 4 ∧ ((560 + (5 * (H 68 1))) + 4 : Int) < 1180) ∧ (xI (((xup (xup (xup (xup (xup H 68 (560 + (5 * (H 68 1))) a) 68 ((560 + (5 * (H 68 1))) + 1) b) 68 ((560 + (5 * (H 68 1))) + 2) c) 68 ((560 + (5 * (H 68 1))) + 3) e) 68 ((560 + (5 * (H 68 1))) + 4) f) 68 1) + 1)) ∧ (xI ((((xup (xup (xup (xup (xup H 68 (560 + (5 * (H 68 1))) a) 68 ((560 + (5 * (H 68 1))) + 1) b) 68 ((560 + (5 * (H 68 1))) + 2) c) 68 ((560 + (5 * (H 68 1))) + 3) e) 68 ((560 + (5 * (H 68 1))) + 4) f) 68 1) + 1) - 1)) ∧ Q ((((xup (xup (xup (xup (xup H 68 (560 + (5 * (H 68 1))) a) 68 ((560 + (5 * (H 68 1))) + 1) b) 68 ((560 + (5 * (H 68 1))) + 2) c) 68 ((560 + (5 * (H 68 1))) + 3) e) 68 ((560 + (5 * (H 68 1))) + 4) f) 68 1) + 1) - 1) (xup (xup (xup (xup (xup (xup H 68 (560 + (5 * (H 68 1))) a) 68 ((560 + (5 * (H 68 1))) + 1) b) 68 ((560 + (5 * (H 68 1))) + 2) c) 68 ((560 + (5 * (H 68 1))) + 3) e) 68 ((560 + (5 * (H 68 1))) + 4) f) 68 1 (((xup (xup (xup (xup (xup H 68 (560 + (5 * (H 68 1))) a) 68 ((560 + (5 * (H 68 1))) + 1) b) 68 ((560 + (5 * (H 68 1))) + 2) c) 68 ((560 + (5 * (H 68 1))) + 3) e) 68 ((560 + (5 * (H 68 1))) + 4) f) 68 1) + 1))) ∧ (¬ (¬ H 68 1 = 8) → Q (-1) H))) ∧ (¬ ((0 ≤ f ∧ f ≤ 99)) → Q (-1) H))) ∧ (¬ ((0 ≤ e ∧ e ≤ 99)) → Q (-1) H))) ∧ (¬ ((0 ≤ c ∧ c ≤ 99)) → Q (-1) H))) ∧ (¬ ((0 ≤ b ∧ b ≤ 99)) → Q (-1) H))) ∧ (¬ ((0 ≤ a ∧ a ≤ 99)) → Q (-1) H))) : xc X (d + 1) 53 [(2, 67), (0, a), (0, b), (0, c), (0, e), (0, f)] H Q := by
  refine ⟨rfl, ?_⟩
  show xq X d 53 Q 100000 [(0, (2, 67)), (1, (0, a)), (2, (0, b)), (3, (0, c)), (4, (0, e)), (5, (0, f))] [] H
  refine xq_run [7, 17, 27, 38, 49] 300 ?_
  show xWM (xE X) xMC d 23 [(0, a), (0, 0), (0, 99)] xKZ H _
  refine xc_in (s_23 (by omega) a 0 99 H  ?_)
  replace h := h
  show xq X d 53 Q 7 [(0, (2, 67)), (1, (0, a)), (2, (0, b)), (3, (0, c)), (4, (0, e)), (5, (0, f))] [(0, xb (0 ≤ a ∧ a ≤ 99))] H
  refine xq_run [7, 17, 27, 38, 49] 300 ?_
  show ((xb (0 ≤ a ∧ a ≤ 99) = 0) → ((0 = 0) → xfR 0 (-1) ∧ xKZ = xKZ ∧ Q (-1) H) ∧ (¬ (0 = 0) → _)) ∧ (¬ (xb (0 ≤ a ∧ a ≤ 99) = 0) → xWM (xE X) xMC d 23 [(0, b), (0, 0), (0, 99)] xKZ H _)
  refine ⟨fun k_ => ?_, fun k_ => ?_⟩
  · replace h := h.2 (xbe_0.mp k_)
    refine ⟨fun k_ => ?_, fun k_ => absurd (by decide) k_⟩
    exact ⟨trivial, rfl, h⟩
  · replace h := h.1 (xbe_1.mp k_)
    refine xc_in (s_23 (by omega) b 0 99 H  ?_)
    replace h := h
    show xq X d 53 Q 17 [(0, (2, 67)), (1, (0, a)), (2, (0, b)), (3, (0, c)), (4, (0, e)), (5, (0, f))] [(0, xb (0 ≤ b ∧ b ≤ 99))] H
    refine xq_run [7, 17, 27, 38, 49] 300 ?_
    show ((xb (0 ≤ b ∧ b ≤ 99) = 0) → ((0 = 0) → xfR 0 (-1) ∧ xKZ = xKZ ∧ Q (-1) H) ∧ (¬ (0 = 0) → _)) ∧ (¬ (xb (0 ≤ b ∧ b ≤ 99) = 0) → xWM (xE X) xMC d 23 [(0, c), (0, 0), (0, 99)] xKZ H _)
    refine ⟨fun k_ => ?_, fun k_ => ?_⟩
    · replace h := h.2 (xbe_0.mp k_)
      refine ⟨fun k_ => ?_, fun k_ => absurd (by decide) k_⟩
      exact ⟨trivial, rfl, h⟩
    · replace h := h.1 (xbe_1.mp k_)
      refine xc_in (s_23 (by omega) c 0 99 H  ?_)
      replace h := h
      show xq X d 53 Q 27 [(0, (2, 67)), (1, (0, a)), (2, (0, b)), (3, (0, c)), (4, (0, e)), (5, (0, f))] [(0, xb (0 ≤ c ∧ c ≤ 99))] H
      refine xq_run [7, 17, 27, 38, 49] 300 ?_
      show ((xb (0 ≤ c ∧ c ≤ 99) = 0) → ((0 = 0) → xfR 0 (-1) ∧ xKZ = xKZ ∧ Q (-1) H) ∧ (¬ (0 = 0) → _)) ∧ (¬ (xb (0 ≤ c ∧ c ≤ 99) = 0) → xWM (xE X) xMC d 23 [(0, e), (0, 0), (0, 99)] xKZ H _)
      refine ⟨fun k_ => ?_, fun k_ => ?_⟩
      · replace h := h.2 (xbe_0.mp k_)
        refine ⟨fun k_ => ?_, fun k_ => absurd (by decide) k_⟩
        exact ⟨trivial, rfl, h⟩
      · replace h := h.1 (xbe_1.mp k_)
        refine xc_in (s_23 (by omega) e 0 99 H  ?_)
        replace h := h
        show xq X d 53 Q 38 [(0, (2, 67)), (1, (0, a)), (2, (0, b)), (3, (0, c)), (4, (0, e)), (5, (0, f))] [(0, xb (0 ≤ e ∧ e ≤ 99))] H
        refine xq_run [7, 17, 27, 38, 49] 300 ?_
        show ((xb (0 ≤ e ∧ e ≤ 99) = 0) → ((0 = 0) → xfR 0 (-1) ∧ xKZ = xKZ ∧ Q (-1) H) ∧ (¬ (0 = 0) → _)) ∧ (¬ (xb (0 ≤ e ∧ e ≤ 99) = 0) → xWM (xE X) xMC d 23 [(0, f), (0, 0), (0, 99)] xKZ H _)
        refine ⟨fun k_ => ?_, fun k_ => ?_⟩
        · replace h := h.2 (xbe_0.mp k_)
          refine ⟨fun k_ => ?_, fun k_ => absurd (by decide) k_⟩
          exact ⟨trivial, rfl, h⟩
        · replace h := h.1 (xbe_1.mp k_)
          refine xc_in (s_23 (by omega) f 0 99 H  ?_)
          replace h := h
          show xq X d 53 Q 49 [(0, (2, 67)), (1, (0, a)), (2, (0, b)), (3, (0, c)), (4, (0, e)), (5, (0, f))] [(0, xb (0 ≤ f ∧ f ≤ 99))] H
          refine xq_run [7, 17, 27, 38, 49] 300 ?_
          show ((xb (0 ≤ f ∧ f ≤ 99) = 0) → ((0 = 0) → xfR 0 (-1) ∧ xKZ = xKZ ∧ Q (-1) H) ∧ (¬ (0 = 0) → _)) ∧ (¬ (xb (0 ≤ f ∧ f ≤ 99) = 0) → ((1 = 0) → _) ∧ (¬ (1 = 0) → (xI (a + b)) ∧ (xI ((a + b) + c)) ∧ (xI (((a + b) + c) + e)) ∧ (xI ((((a + b) + c) + e) + f)) ∧ (((((a + b) + c) + e) + f = 0) → xfR 0 (-1) ∧ xKZ = xKZ ∧ Q (-1) H) ∧ (¬ ((((a + b) + c) + e) + f = 0) → ((0 : Int) ≤ 1 ∧ (1 : Int) < 1180) ∧ ((¬ H 68 1 = 8) → ((0 : Int) ≤ 1 ∧ (1 : Int) < 1180) ∧ (xI (5 * (H 68 1))) ∧ (xI (560 + (5 * (H 68 1)))) ∧ ((0 : Int) ≤ 560 + (5 * (H 68 1)) ∧ (560 + (5 * (H 68 1)) : Int) < 1180) ∧ (xI ((560 + (5 * (H 68 1))) + 1)) ∧ ((0 : Int) ≤ (560 + (5 * (H 68 1))) + 1 ∧ ((560 + (5 * (H 68 1))) + 1 : Int) < 1180) ∧ (xI ((560 + (5 * (H 68 1))) + 2)) ∧ ((0 : Int) ≤ (560 + (5 * (H 68 1))) + 2 ∧ ((560 + (5 * (H 68 1))) + 2 : Int) < 1180) ∧ (xI ((560 + (5 * (H 68 1))) + 3)) ∧ ((0 : Int) ≤ (560 + (5 * (H 68 1))) + 3 ∧ ((560 + (5 * (H 68 1))) + 3 : Int) < 1180) ∧ (xI ((560 + (5 * (H 68 1))) + 4)) ∧ ((0 : Int) ≤ (560 + (5 * (H 68 1))) + 4 ∧ ((560 + (5 * (H 68 1))) + 4 : Int) < 1180) ∧ ((0 : Int) ≤ 1 ∧ (1 : Int) < 1180) ∧ (xI (((xup (xup (xup (xup (xup H 68 (560 + (5 * (H 68 1))) a) 68 ((560 + (5 * (H 68 1))) + 1) b) 68 ((560 + (5 * (H 68 1))) + 2) c) 68 ((560 + (5 * (H 68 1))) + 3) e) 68 ((560 + (5 * (H 68 1))) + 4) f) 68 1) + 1)) ∧ ((0 : Int) ≤ 1 ∧ (1 : Int) < 1180) ∧ ((0 : Int) ≤ 1 ∧ (1 : Int) < 1180) ∧ (xI ((((xup (xup (xup (xup (xup H 68 (560 + (5 * (H 68 1))) a) 68 ((560 + (5 * (H 68 1))) + 1) b) 68 ((560 + (5 * (H 68 1))) + 2) c) 68 ((560 + (5 * (H 68 1))) + 3) e) 68 ((560 + (5 * (H 68 1))) + 4) f) 68 1) + 1) - 1)) ∧ xfR 0 ((((xup (xup (xup (xup (xup H 68 (560 + (5 * (H 68 1))) a) 68 ((560 + (5 * (H 68 1))) + 1) b) 68 ((560 + (5 * (H 68 1))) + 2) c) 68 ((560 + (5 * (H 68 1))) + 3) e) 68 ((560 + (5 * (H 68 1))) + 4) f) 68 1) + 1) - 1) ∧ xKZ = xKZ ∧ Q ((((xup (xup (xup (xup (xup H 68 (560 + (5 * (H 68 1))) a) 68 ((560 + (5 * (H 68 1))) + 1) b) 68 ((560 + (5 * (H 68 1))) + 2) c) 68 ((560 + (5 * (H 68 1))) + 3) e) 68 ((560 + (5 * (H 68 1))) + 4) f) 68 1) + 1) - 1) (xup (xup (xup (xup (xup (xup H 68 (560 + (5 * (H 68 1))) a) 68 ((560 + (5 * (H 68 1))) + 1) b) 68 ((560 + (5 * (H 68 1))) + 2) c) 68 ((560 + (5 * (H 68 1))) + 3) e) 68 ((560 + (5 * (H 68 1))) + 4) f) 68 1 (((xup (xup (xup (xup (xup H 68 (560 + (5 * (H 68 1))) a) 68 ((560 + (5 * (H 68 1))) + 1) b) 68 ((560 + (5 * (H 68 1))) + 2) c) 68 ((560 + (5 * (H 68 1))) + 3) e) 68 ((560 + (5 * (H 68 1))) + 4) f) 68 1) + 1))) ∧ (¬ (¬ H 68 1 = 8) → xfR 0 (-1) ∧ xKZ = xKZ ∧ Q (-1) H))))
          refine ⟨fun k_ => ?_, fun k_ => ?_⟩
          · replace h := h.2 (xbe_0.mp k_)
            refine ⟨fun k_ => ?_, fun k_ => absurd (by decide) k_⟩
            exact ⟨trivial, rfl, h⟩
          · replace h := h.1 (xbe_1.mp k_)
            refine ⟨fun k_ => absurd k_ (by decide), fun k_ => ?_⟩
            refine ⟨h.1, ?_⟩
            replace h := h.2
            refine ⟨h.1, ?_⟩
            replace h := h.2
            refine ⟨h.1, ?_⟩
            replace h := h.2
            refine ⟨h.1, ?_⟩
            replace h := h.2
            refine ⟨fun k_ => ?_, fun k_ => ?_⟩
            · replace h := h.1 k_
              exact ⟨trivial, rfl, h⟩
            · replace h := h.2 k_
              refine ⟨⟨by decide, by decide⟩, ?_⟩
              refine ⟨fun k_ => ?_, fun k_ => ?_⟩
              · replace h := h.1 k_
                refine ⟨⟨by decide, by decide⟩, ?_⟩
                refine ⟨h.1, ?_⟩
                replace h := h.2
                refine ⟨h.1, ?_⟩
                replace h := h.2
                refine ⟨h.1, ?_⟩
                replace h := h.2
                refine ⟨h.1, ?_⟩
                replace h := h.2
                refine ⟨h.1, ?_⟩
                replace h := h.2
                refine ⟨h.1, ?_⟩
                replace h := h.2
                refine ⟨h.1, ?_⟩
                replace h := h.2
                refine ⟨h.1, ?_⟩
                replace h := h.2
                refine ⟨h.1, ?_⟩
                replace h := h.2
                refine ⟨h.1, ?_⟩
                replace h := h.2
                refine ⟨h.1, ?_⟩
                replace h := h.2
                refine ⟨⟨by decide, by decide⟩, ?_⟩
                refine ⟨h.1, ?_⟩
                replace h := h.2
                refine ⟨⟨by decide, by decide⟩, ?_⟩
                refine ⟨⟨by decide, by decide⟩, ?_⟩
                refine ⟨h.1, ?_⟩
                replace h := h.2
                exact ⟨trivial, rfl, h⟩
              · replace h := h.2 k_
                exact ⟨trivial, rfl, h⟩
