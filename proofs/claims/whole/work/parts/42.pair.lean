/-! THE PURE LAYER 12: dig, layer -/
theorem U_20 {X : Int × (Int → Int)} {d : Nat} {Q : Int → XH → Prop} (hd : 1 ≤ d) (a b c e f m : Int) (H : XH) (h : ((((0 ≤ a ∧ a ≤ m)) → ((((0 ≤ b ∧ b ≤ m)) → ((((0 ≤ c ∧ c ≤ m)) → ((((0 ≤ e ∧ e ≤ m)) → ((((0 ≤ f ∧ f ≤ m)) → (xI (a + b)) ∧ (xI ((a + b) + c)) ∧ (xI (((a + b) + c) + e)) ∧ (xI ((((a + b) + c) + e) + f)) ∧ (((((a + b) + c) + e) + f < 1) → Q 0 H) ∧ (¬ ((((a + b) + c) + e) + f < 1) → Q 1 H)) ∧ (¬ ((0 ≤ f ∧ f ≤ m)) → Q 0 H))) ∧ (¬ ((0 ≤ e ∧ e ≤ m)) → Q 0 H))) ∧ (¬ ((0 ≤ c ∧ c ≤ m)) → Q 0 H))) ∧ (¬ ((0 ≤ b ∧ b ≤ m)) → Q 0 H))) ∧ (¬ ((0 ≤ a ∧ a ≤ m)) → Q 0 H))) : xc X (d + 1) 20 [(0, a), (0, b), (0, c), (0, e), (0, f), (0, m)] H Q := by
  refine ⟨rfl, ?_⟩
  show xq X d 20 Q 100000 [(0, (0, a)), (1, (0, b)), (2, (0, c)), (3, (0, e)), (4, (0, f)), (5, (0, m))] [] H
  refine xq_run [7, 17, 27, 39, 50] 300 ?_
  show xWM (xE X) xMC d 19 [(0, a), (0, 0), (0, m)] xKZ H _
  refine xc_in (s_19 (by omega) a 0 m H  ?_)
  replace h := h
  show xq X d 20 Q 7 [(0, (0, a)), (1, (0, b)), (2, (0, c)), (3, (0, e)), (4, (0, f)), (5, (0, m))] [(0, xb (0 ≤ a ∧ a ≤ m))] H
  refine xq_run [7, 17, 27, 39, 50] 300 ?_
  show ((xb (0 ≤ a ∧ a ≤ m) = 0) → xfR 3 0 ∧ xKZ = xKZ ∧ Q 0 H) ∧ (¬ (xb (0 ≤ a ∧ a ≤ m) = 0) → xWM (xE X) xMC d 19 [(0, b), (0, 0), (0, m)] xKZ H _)
  refine ⟨fun k_ => ?_, fun k_ => ?_⟩
  · replace h := h.2 (xbe_0.mp k_)
    exact ⟨xfR3_0, rfl, h⟩
  · replace h := h.1 (xbe_1.mp k_)
    refine xc_in (s_19 (by omega) b 0 m H  ?_)
    replace h := h
    show xq X d 20 Q 17 [(0, (0, a)), (1, (0, b)), (2, (0, c)), (3, (0, e)), (4, (0, f)), (5, (0, m))] [(0, xb (0 ≤ b ∧ b ≤ m))] H
    refine xq_run [7, 17, 27, 39, 50] 300 ?_
    show ((xb (0 ≤ b ∧ b ≤ m) = 0) → xfR 3 0 ∧ xKZ = xKZ ∧ Q 0 H) ∧ (¬ (xb (0 ≤ b ∧ b ≤ m) = 0) → xWM (xE X) xMC d 19 [(0, c), (0, 0), (0, m)] xKZ H _)
    refine ⟨fun k_ => ?_, fun k_ => ?_⟩
    · replace h := h.2 (xbe_0.mp k_)
      exact ⟨xfR3_0, rfl, h⟩
    · replace h := h.1 (xbe_1.mp k_)
      refine xc_in (s_19 (by omega) c 0 m H  ?_)
      replace h := h
      show xq X d 20 Q 27 [(0, (0, a)), (1, (0, b)), (2, (0, c)), (3, (0, e)), (4, (0, f)), (5, (0, m))] [(0, xb (0 ≤ c ∧ c ≤ m))] H
      refine xq_run [7, 17, 27, 39, 50] 300 ?_
      show ((¬ xb (0 ≤ c ∧ c ≤ m) = 0) → xWM (xE X) xMC d 19 [(0, e), (0, 0), (0, m)] xKZ H _) ∧ (¬ (¬ xb (0 ≤ c ∧ c ≤ m) = 0) → xfR 3 0 ∧ xKZ = xKZ ∧ Q 0 H)
      refine ⟨fun k_ => ?_, fun k_ => ?_⟩
      · replace h := h.1 (xbe_1.mp k_)
        refine xc_in (s_19 (by omega) e 0 m H  ?_)
        replace h := h
        show xq X d 20 Q 39 [(0, (0, a)), (1, (0, b)), (2, (0, c)), (3, (0, e)), (4, (0, f)), (5, (0, m))] [(0, xb (0 ≤ e ∧ e ≤ m))] H
        refine xq_run [7, 17, 27, 39, 50] 300 ?_
        show ((xb (0 ≤ e ∧ e ≤ m) = 0) → xfR 3 0 ∧ xKZ = xKZ ∧ Q 0 H) ∧ (¬ (xb (0 ≤ e ∧ e ≤ m) = 0) → xWM (xE X) xMC d 19 [(0, f), (0, 0), (0, m)] xKZ H _)
        refine ⟨fun k_ => ?_, fun k_ => ?_⟩
        · replace h := h.2 (xbe_0.mp k_)
          exact ⟨xfR3_0, rfl, h⟩
        · replace h := h.1 (xbe_1.mp k_)
          refine xc_in (s_19 (by omega) f 0 m H  ?_)
          replace h := h
          show xq X d 20 Q 50 [(0, (0, a)), (1, (0, b)), (2, (0, c)), (3, (0, e)), (4, (0, f)), (5, (0, m))] [(0, xb (0 ≤ f ∧ f ≤ m))] H
          refine xq_run [7, 17, 27, 39, 50] 300 ?_
          show ((¬ xb (0 ≤ f ∧ f ≤ m) = 0) → (xI (a + b)) ∧ (xI ((a + b) + c)) ∧ (xI (((a + b) + c) + e)) ∧ (xI ((((a + b) + c) + e) + f)) ∧ (((((a + b) + c) + e) + f < 1) → xfR 3 0 ∧ xKZ = xKZ ∧ Q 0 H) ∧ (¬ ((((a + b) + c) + e) + f < 1) → xfR 3 1 ∧ xKZ = xKZ ∧ Q 1 H)) ∧ (¬ (¬ xb (0 ≤ f ∧ f ≤ m) = 0) → xfR 3 0 ∧ xKZ = xKZ ∧ Q 0 H)
          refine ⟨fun k_ => ?_, fun k_ => ?_⟩
          · replace h := h.1 (xbe_1.mp k_)
            refine ⟨h.1, ?_⟩
            replace h := h.2
            refine ⟨h.1, ?_⟩
            replace h := h.2
            refine ⟨h.1, ?_⟩
            replace h := h.2
            refine ⟨h.1, ?_⟩
            replace h := h.2
            refine ⟨fun k_ => ?_, fun k_ => ?_⟩
            · replace h := h.1 k_
              exact ⟨xfR3_0, rfl, h⟩
            · replace h := h.2 k_
              exact ⟨xfR3_1, rfl, h⟩
          · replace h := h.2 (xbe_n.mp k_)
            exact ⟨xfR3_0, rfl, h⟩
      · replace h := h.2 (xbe_n.mp k_)
        exact ⟨xfR3_0, rfl, h⟩

theorem s_20 {X : Int × (Int → Int)} {d : Nat} {Q : Int → XH → Prop} (hd : 2 ≤ d) (a b c e f m : Int) (H : XH) (p0 : (m : Int) ≤ 99) (hQ : Q (xb ((0 ≤ a ∧ a ≤ m) ∧ (0 ≤ b ∧ b ≤ m) ∧ (0 ≤ c ∧ c ≤ m) ∧ (0 ≤ e ∧ e ≤ m) ∧ (0 ≤ f ∧ f ≤ m) ∧ 1 ≤ a + b + c + e + f)) H) : xc X d 20 [(0, a), (0, b), (0, c), (0, e), (0, f), (0, m)] H Q := by
  cases d with
  | zero => omega
  | succ d =>
  refine U_20 (by omega) a b c e f m H ?_
  refine ⟨fun c1 => ?_, fun c1 => ?_⟩
  · skip
    refine ⟨fun c2 => ?_, fun c2 => ?_⟩
    · skip
      refine ⟨fun c3 => ?_, fun c3 => ?_⟩
      · skip
        refine ⟨fun c4 => ?_, fun c4 => ?_⟩
        · skip
          refine ⟨fun c5 => ?_, fun c5 => ?_⟩
          · skip
            refine ⟨?_, ?_⟩
            · unfold xI; omega
            refine ⟨?_, ?_⟩
            · unfold xI; omega
            refine ⟨?_, ?_⟩
            · unfold xI; omega
            refine ⟨?_, ?_⟩
            · unfold xI; omega
            refine ⟨fun c6 => ?_, fun c6 => ?_⟩
            · skip
              exact xQr hQ (by unfold xb; split <;> omega)
            · skip
              exact xQr hQ (by unfold xb; split <;> omega)
          · skip
            exact xQr hQ (by unfold xb; split <;> omega)
        · skip
          exact xQr hQ (by unfold xb; split <;> omega)
      · skip
        exact xQr hQ (by unfold xb; split <;> omega)
    · skip
      exact xQr hQ (by unfold xb; split <;> omega)
  · skip
    exact xQr hQ (by unfold xb; split <;> omega)

theorem U_53 {X : Int × (Int → Int)} {d : Nat} {Q : Int → XH → Prop} (hd : 1 ≤ d) (a b c e f : Int) (H : XH) (h : ((((0 ≤ a ∧ a ≤ 99)) → ((((0 ≤ b ∧ b ≤ 99)) → ((((0 ≤ c ∧ c ≤ 99)) → ((((0 ≤ e ∧ e ≤ 99)) → ((((0 ≤ f ∧ f ≤ 99)) → (xI (a + b)) ∧ (xI ((a + b) + c)) ∧ (xI (((a + b) + c) + e)) ∧ (xI ((((a + b) + c) + e) + f)) ∧ (((((a + b) + c) + e) + f = 0) → Q (-1) H) ∧ (¬ ((((a + b) + c) + e) + f = 0) → ((¬ H 68 1 = 8) → (xI (5 * (H 68 1))) ∧ (xI (560 + (5 * (H 68 1)))) ∧ ((0 : Int) ≤ 560 + (5 * (H 68 1)) ∧ (560 + (5 * (H 68 1)) : Int) < 1180) ∧ (xI ((560 + (5 * (H 68 1))) + 1)) ∧ ((0 : Int) ≤ (560 + (5 * (H 68 1))) + 1 ∧ ((560 + (5 * (H 68 1))) + 1 : Int) < 1180) ∧ (xI ((560 + (5 * (H 68 1))) + 2)) ∧ ((0 : Int) ≤ (560 + (5 * (H 68 1))) + 2 ∧ ((560 + (5 * (H 68 1))) + 2 : Int) < 1180) ∧ (xI ((560 + (5 * (H 68 1))) + 3)) ∧ ((0 : Int) ≤ (560 + (5 * (H 68 1))) + 3 ∧ ((560 + (5 * (H 68 1))) + 3 : Int) < 1180) ∧ (xI ((560 + (5 * (H 68 1))) + 4)) ∧ ((0 : Int) ≤ (560 + (5 * (H 68 1))) + 4 ∧ ((560 + (5 * (H 68 1))) + 4 : Int) < 1180) ∧ (xI (((xup (xup (xup (xup (xup H 68 (560 + (5 * (H 68 1))) a) 68 ((560 + (5 * (H 68 1))) + 1) b) 68 ((560 + (5 * (H 68 1))) + 2) c) 68 ((560 + (5 * (H 68 1))) + 3) e) 68 ((560 + (5 * (H 68 1))) + 4) f) 68 1) + 1)) ∧ (xI ((((xup (xup (xup (xup (xup H 68 (560 + (5 * (H 68 1))) a) 68 ((560 + (5 * (H 68 1))) + 1) b) 68 ((560 + (5 * (H 68 1))) + 2) c) 68 ((560 + (5 * (H 68 1))) + 3) e) 68 ((560 + (5 * (H 68 1))) + 4) f) 68 1) + 1) - 1)) ∧ Q ((((xup (xup (xup (xup (xup H 68 (560 + (5 * (H 68 1))) a) 68 ((560 + (5 * (H 68 1))) + 1) b) 68 ((560 + (5 * (H 68 1))) + 2) c) 68 ((560 + (5 * (H 68 1))) + 3) e) 68 ((560 + (5 * (H 68 1))) + 4) f) 68 1) + 1) - 1) (xup (xup (xup (xup (xup (xup H 68 (560 + (5 * (H 68 1))) a) 68 ((560 + (5 * (H 68 1))) + 1) b) 68 ((560 + (5 * (H 68 1))) + 2) c) 68 ((560 + (5 * (H 68 1))) + 3) e) 68 ((560 + (5 * (H 68 1))) + 4) f) 68 1 (((xup (xup (xup (xup (xup H 68 (560 + (5 * (H 68 1))) a) 68 ((560 + (5 * (H 68 1))) + 1) b) 68 ((560 + (5 * (H 68 1))) + 2) c) 68 ((560 + (5 * (H 68 1))) + 3) e) 68 ((560 + (5 * (H 68 1))) + 4) f) 68 1) + 1))) ∧ (¬ (¬ H 68 1 = 8) → Q (-1) H))) ∧ (¬ ((0 ≤ f ∧ f ≤ 99)) → Q (-1) H))) ∧ (¬ ((0 ≤ e ∧ e ≤ 99)) → Q (-1) H))) ∧ (¬ ((0 ≤ c ∧ c ≤ 99)) → Q (-1) H))) ∧ (¬ ((0 ≤ b ∧ b ≤ 99)) → Q (-1) H))) ∧ (¬ ((0 ≤ a ∧ a ≤ 99)) → Q (-1) H))) : xc X (d + 1) 53 [(2, 67), (0, a), (0, b), (0, c), (0, e), (0, f)] H Q := by
  refine ⟨rfl, ?_⟩
  show xq X d 53 Q 100000 [(0, (2, 67)), (1, (0, a)), (2, (0, b)), (3, (0, c)), (4, (0, e)), (5, (0, f))] [] H
  refine xq_run [7, 17, 27, 38, 49] 300 ?_
  show xWM (xE X) xMC d 23 [(0, a), (0, 0), (0, 99)] xKZ H _
  refine xc_in (s_23 (by omega) a 0 99 H  ?_)
  replace h := h
  show xq X d 53 Q 7 [(0, (2, 67)), (1, (0, a)), (2, (0, b)), (3, (0, c)), (4, (0, e)), (5, (0, f))] [(0, xb (0 ≤ a ∧ a ≤ 99))] H
  refine xq_run [7, 17, 27, 38, 49] 300 ?_
  show ((xb (0 ≤ a ∧ a ≤ 99) = 0) → ((0 = 0) → xfR 0 (-1) ∧ xKZ = xKZ ∧ Q (-1) H) ∧ (¬ (0 = 0) → _)) ∧ (¬ (xb (0 ≤ a ∧ a ≤ 99) = 0) → xWM (xE X) xMC d 23 [(0, b), (0, 0), (0, 99)] xKZ H _)
  refine ⟨fun k_ => ?_, fun k_ => ?_⟩
  · replace h := h.2 (xbe_0.mp k_)
    refine ⟨fun k_ => ?_, fun k_ => absurd (by decide) k_⟩
    exact ⟨trivial, rfl, h⟩
  · replace h := h.1 (xbe_1.mp k_)
    refine xc_in (s_23 (by omega) b 0 99 H  ?_)
    replace h := h
    show xq X d 53 Q 17 [(0, (2, 67)), (1, (0, a)), (2, (0, b)), (3, (0, c)), (4, (0, e)), (5, (0, f))] [(0, xb (0 ≤ b ∧ b ≤ 99))] H
    refine xq_run [7, 17, 27, 38, 49] 300 ?_
    show ((xb (0 ≤ b ∧ b ≤ 99) = 0) → ((0 = 0) → xfR 0 (-1) ∧ xKZ = xKZ ∧ Q (-1) H) ∧ (¬ (0 = 0) → _)) ∧ (¬ (xb (0 ≤ b ∧ b ≤ 99) = 0) → xWM (xE X) xMC d 23 [(0, c), (0, 0), (0, 99)] xKZ H _)
    refine ⟨fun k_ => ?_, fun k_ => ?_⟩
    · replace h := h.2 (xbe_0.mp k_)
      refine ⟨fun k_ => ?_, fun k_ => absurd (by decide) k_⟩
      exact ⟨trivial, rfl, h⟩
    · replace h := h.1 (xbe_1.mp k_)
      refine xc_in (s_23 (by omega) c 0 99 H  ?_)
      replace h := h
      show xq X d 53 Q 27 [(0, (2, 67)), (1, (0, a)), (2, (0, b)), (3, (0, c)), (4, (0, e)), (5, (0, f))] [(0, xb (0 ≤ c ∧ c ≤ 99))] H
      refine xq_run [7, 17, 27, 38, 49] 300 ?_
      show ((xb (0 ≤ c ∧ c ≤ 99) = 0) → ((0 = 0) → xfR 0 (-1) ∧ xKZ = xKZ ∧ Q (-1) H) ∧ (¬ (0 = 0) → _)) ∧ (¬ (xb (0 ≤ c ∧ c ≤ 99) = 0) → xWM (xE X) xMC d 23 [(0, e), (0, 0), (0, 99)] xKZ H _)
      refine ⟨fun k_ => ?_, fun k_ => ?_⟩
      · replace h := h.2 (xbe_0.mp k_)
        refine ⟨fun k_ => ?_, fun k_ => absurd (by decide) k_⟩
        exact ⟨trivial, rfl, h⟩
      · replace h := h.1 (xbe_1.mp k_)
        refine xc_in (s_23 (by omega) e 0 99 H  ?_)
        replace h := h
        show xq X d 53 Q 38 [(0, (2, 67)), (1, (0, a)), (2, (0, b)), (3, (0, c)), (4, (0, e)), (5, (0, f))] [(0, xb (0 ≤ e ∧ e ≤ 99))] H
        refine xq_run [7, 17, 27, 38, 49] 300 ?_
        show ((xb (0 ≤ e ∧ e ≤ 99) = 0) → ((0 = 0) → xfR 0 (-1) ∧ xKZ = xKZ ∧ Q (-1) H) ∧ (¬ (0 = 0) → _)) ∧ (¬ (xb (0 ≤ e ∧ e ≤ 99) = 0) → xWM (xE X) xMC d 23 [(0, f), (0, 0), (0, 99)] xKZ H _)
        refine ⟨fun k_ => ?_, fun k_ => ?_⟩
        · replace h := h.2 (xbe_0.mp k_)
          refine ⟨fun k_ => ?_, fun k_ => absurd (by decide) k_⟩
          exact ⟨trivial, rfl, h⟩
        · replace h := h.1 (xbe_1.mp k_)
          refine xc_in (s_23 (by omega) f 0 99 H  ?_)
          replace h := h
          show xq X d 53 Q 49 [(0, (2, 67)), (1, (0, a)), (2, (0, b)), (3, (0, c)), (4, (0, e)), (5, (0, f))] [(0, xb (0 ≤ f ∧ f ≤ 99))] H
          refine xq_run [7, 17, 27, 38, 49] 300 ?_
          show ((xb (0 ≤ f ∧ f ≤ 99) = 0) → ((0 = 0) → xfR 0 (-1) ∧ xKZ = xKZ ∧ Q (-1) H) ∧ (¬ (0 = 0) → _)) ∧ (¬ (xb (0 ≤ f ∧ f ≤ 99) = 0) → ((1 = 0) → _) ∧ (¬ (1 = 0) → (xI (a + b)) ∧ (xI ((a + b) + c)) ∧ (xI (((a + b) + c) + e)) ∧ (xI ((((a + b) + c) + e) + f)) ∧ (((((a + b) + c) + e) + f = 0) → xfR 0 (-1) ∧ xKZ = xKZ ∧ Q (-1) H) ∧ (¬ ((((a + b) + c) + e) + f = 0) → ((0 : Int) ≤ 1 ∧ (1 : Int) < 1180) ∧ ((¬ H 68 1 = 8) → ((0 : Int) ≤ 1 ∧ (1 : Int) < 1180) ∧ (xI (5 * (H 68 1))) ∧ (xI (560 + (5 * (H 68 1)))) ∧ ((0 : Int) ≤ 560 + (5 * (H 68 1)) ∧ (560 + (5 * (H 68 1)) : Int) < 1180) ∧ (xI ((560 + (5 * (H 68 1))) + 1)) ∧ ((0 : Int) ≤ (560 + (5 * (H 68 1))) + 1 ∧ ((560 + (5 * (H 68 1))) + 1 : Int) < 1180) ∧ (xI ((560 + (5 * (H 68 1))) + 2)) ∧ ((0 : Int) ≤ (560 + (5 * (H 68 1))) + 2 ∧ ((560 + (5 * (H 68 1))) + 2 : Int) < 1180) ∧ (xI ((560 + (5 * (H 68 1))) + 3)) ∧ ((0 : Int) ≤ (560 + (5 * (H 68 1))) + 3 ∧ ((560 + (5 * (H 68 1))) + 3 : Int) < 1180) ∧ (xI ((560 + (5 * (H 68 1))) + 4)) ∧ ((0 : Int) ≤ (560 + (5 * (H 68 1))) + 4 ∧ ((560 + (5 * (H 68 1))) + 4 : Int) < 1180) ∧ ((0 : Int) ≤ 1 ∧ (1 : Int) < 1180) ∧ (xI (((xup (xup (xup (xup (xup H 68 (560 + (5 * (H 68 1))) a) 68 ((560 + (5 * (H 68 1))) + 1) b) 68 ((560 + (5 * (H 68 1))) + 2) c) 68 ((560 + (5 * (H 68 1))) + 3) e) 68 ((560 + (5 * (H 68 1))) + 4) f) 68 1) + 1)) ∧ ((0 : Int) ≤ 1 ∧ (1 : Int) < 1180) ∧ ((0 : Int) ≤ 1 ∧ (1 : Int) < 1180) ∧ (xI ((((xup (xup (xup (xup (xup H 68 (560 + (5 * (H 68 1))) a) 68 ((560 + (5 * (H 68 1))) + 1) b) 68 ((560 + (5 * (H 68 1))) + 2) c) 68 ((560 + (5 * (H 68 1))) + 3) e) 68 ((560 + (5 * (H 68 1))) + 4) f) 68 1) + 1) - 1)) ∧ xfR 0 ((((xup (xup (xup (xup (xup H 68 (560 + (5 * (H 68 1))) a) 68 ((560 + (5 * (H 68 1))) + 1) b) 68 ((560 + (5 * (H 68 1))) + 2) c) 68 ((560 + (5 * (H 68 1))) + 3) e) 68 ((560 + (5 * (H 68 1))) + 4) f) 68 1) + 1) - 1) ∧ xKZ = xKZ ∧ Q ((((xup (xup (xup (xup (xup H 68 (560 + (5 * (H 68 1))) a) 68 ((560 + (5 * (H 68 1))) + 1) b) 68 ((560 + (5 * (H 68 1))) + 2) c) 68 ((560 + (5 * (H 68 1))) + 3) e) 68 ((560 + (5 * (H 68 1))) + 4) f) 68 1) + 1) - 1) (xup (xup (xup (xup (xup (xup H 68 (560 + (5 * (H 68 1))) a) 68 ((560 + (5 * (H 68 1))) + 1) b) 68 ((560 + (5 * (H 68 1))) + 2) c) 68 ((560 + (5 * (H 68 1))) + 3) e) 68 ((560 + (5 * (H 68 1))) + 4) f) 68 1 (((xup (xup (xup (xup (xup H 68 (560 + (5 * (H 68 1))) a) 68 ((560 + (5 * (H 68 1))) + 1) b) 68 ((560 + (5 * (H 68 1))) + 2) c) 68 ((560 + (5 * (H 68 1))) + 3) e) 68 ((560 + (5 * (H 68 1))) + 4) f) 68 1) + 1))) ∧ (¬ (¬ H 68 1 = 8) → xfR 0 (-1) ∧ xKZ = xKZ ∧ Q (-1) H))))
          refine ⟨fun k_ => ?_, fun k_ => ?_⟩
          · replace h := h.2 (xbe_0.mp k_)
            refine ⟨fun k_ => ?_, fun k_ => absurd (by decide) k_⟩
            exact ⟨trivial, rfl, h⟩
          · replace h := h.1 (xbe_1.mp k_)
            refine ⟨fun k_ => absurd k_ (by decide), fun k_ => ?_⟩
            refine ⟨h.1, ?_⟩
            replace h := h.2
            refine ⟨h.1, ?_⟩
            replace h := h.2
            refine ⟨h.1, ?_⟩
            replace h := h.2
            refine ⟨h.1, ?_⟩
            replace h := h.2
            refine ⟨fun k_ => ?_, fun k_ => ?_⟩
            · replace h := h.1 k_
              exact ⟨trivial, rfl, h⟩
            · replace h := h.2 k_
              refine ⟨⟨by decide, by decide⟩, ?_⟩
              refine ⟨fun k_ => ?_, fun k_ => ?_⟩
              · replace h := h.1 k_
                refine ⟨⟨by decide, by decide⟩, ?_⟩
                refine ⟨h.1, ?_⟩
                replace h := h.2
                refine ⟨h.1, ?_⟩
                replace h := h.2
                refine ⟨h.1, ?_⟩
                replace h := h.2
                refine ⟨h.1, ?_⟩
                replace h := h.2
                refine ⟨h.1, ?_⟩
                replace h := h.2
                refine ⟨h.1, ?_⟩
                replace h := h.2
                refine ⟨h.1, ?_⟩
                replace h := h.2
                refine ⟨h.1, ?_⟩
                replace h := h.2
                refine ⟨h.1, ?_⟩
                replace h := h.2
                refine ⟨h.1, ?_⟩
                replace h := h.2
                refine ⟨h.1, ?_⟩
                replace h := h.2
                refine ⟨⟨by decide, by decide⟩, ?_⟩
                refine ⟨h.1, ?_⟩
                replace h := h.2
                refine ⟨⟨by decide, by decide⟩, ?_⟩
                refine ⟨⟨by decide, by decide⟩, ?_⟩
                refine ⟨h.1, ?_⟩
                replace h := h.2
                exact ⟨trivial, rfl, h⟩
              · replace h := h.2 k_
                exact ⟨trivial, rfl, h⟩

def putD (H : XH) (c a b e f g : Int) : XH := xup (xup (xup (xup (xup (xup (if ¬ H 4 c = 0 then H else xup H 2 7 (H 2 7 + 1)) 4 c 1) 3 (c * 5) a) 3 (c * 5 + 1) b) 3 (c * 5 + 2) e) 3 (c * 5 + 3) f) 3 (c * 5 + 4) g

theorem U_21 {X : Int × (Int → Int)} {d : Nat} {Q : Int → XH → Prop} (hd : 1 ≤ d) (c a b e f g : Int) (H : XH) (h : ((((0 ≤ c ∧ c < H 2 2)) → ((0 : Int) ≤ c ∧ (c : Int) < 64) ∧ ((¬ H 4 c = 0) → (((0 : Int) ≤ c ∧ (c : Int) < 64) ∧ (0 : Int) ≤ 1 ∧ (1 : Int) ≤ 1) ∧ (xI (c * 5)) ∧ ((0 : Int) ≤ c * 5 ∧ (c * 5 : Int) < 320) ∧ (xI ((c * 5) + 1)) ∧ ((0 : Int) ≤ (c * 5) + 1 ∧ ((c * 5) + 1 : Int) < 320) ∧ (xI ((c * 5) + 2)) ∧ ((0 : Int) ≤ (c * 5) + 2 ∧ ((c * 5) + 2 : Int) < 320) ∧ (xI ((c * 5) + 3)) ∧ ((0 : Int) ≤ (c * 5) + 3 ∧ ((c * 5) + 3 : Int) < 320) ∧ (xI ((c * 5) + 4)) ∧ ((0 : Int) ≤ (c * 5) + 4 ∧ ((c * 5) + 4 : Int) < 320) ∧ Q 0 (xup (xup (xup (xup (xup (xup H 4 c 1) 3 (c * 5) a) 3 ((c * 5) + 1) b) 3 ((c * 5) + 2) e) 3 ((c * 5) + 3) f) 3 ((c * 5) + 4) g)) ∧ (¬ (¬ H 4 c = 0) → (xI ((H 2 7) + 1)) ∧ (((0 : Int) ≤ c ∧ (c : Int) < 64) ∧ (0 : Int) ≤ 1 ∧ (1 : Int) ≤ 1) ∧ (xI (c * 5)) ∧ ((0 : Int) ≤ c * 5 ∧ (c * 5 : Int) < 320) ∧ (xI ((c * 5) + 1)) ∧ ((0 : Int) ≤ (c * 5) + 1 ∧ ((c * 5) + 1 : Int) < 320) ∧ (xI ((c * 5) + 2)) ∧ ((0 : Int) ≤ (c * 5) + 2 ∧ ((c * 5) + 2 : Int) < 320) ∧ (xI ((c * 5) + 3)) ∧ ((0 : Int) ≤ (c * 5) + 3 ∧ ((c * 5) + 3 : Int) < 320) ∧ (xI ((c * 5) + 4)) ∧ ((0 : Int) ≤ (c * 5) + 4 ∧ ((c * 5) + 4 : Int) < 320) ∧ Q 0 (xup (xup (xup (xup (xup (xup (xup H 2 7 ((H 2 7) + 1)) 4 c 1) 3 (c * 5) a) 3 ((c * 5) + 1) b) 3 ((c * 5) + 2) e) 3 ((c * 5) + 3) f) 3 ((c * 5) + 4) g))) ∧ (¬ ((0 ≤ c ∧ c < H 2 2)) → Q 0 H))) : xc X (d + 1) 21 [(2, 2), (0, c), (0, a), (0, b), (0, e), (0, f), (0, g)] H Q := by
  refine ⟨rfl, ?_⟩
  show xq X d 21 Q 100000 [(0, (2, 2)), (1, (0, c)), (2, (0, a)), (3, (0, b)), (4, (0, e)), (5, (0, f)), (6, (0, g))] [] H
  refine xq_run [5] 300 ?_
  show xWM (xE X) xMC d 18 [(2, 2), (0, c)] xKZ H _
  refine xc_in (s_18 (by omega) c H  ?_)
  replace h := h
  show xq X d 21 Q 5 [(0, (2, 2)), (1, (0, c)), (2, (0, a)), (3, (0, b)), (4, (0, e)), (5, (0, f)), (6, (0, g))] [(0, xb (0 ≤ c ∧ c < H 2 2))] H
  refine xq_run [5] 300 ?_
  show ((¬ xb (0 ≤ c ∧ c < H 2 2) = 0) → ((0 : Int) ≤ c ∧ (c : Int) < 64) ∧ ((¬ H 4 c = 0) → (((0 : Int) ≤ c ∧ (c : Int) < 64) ∧ xfB (xTy xKZ 4) 1) ∧ (xI (c * 5)) ∧ ((0 : Int) ≤ c * 5 ∧ (c * 5 : Int) < 320) ∧ (xI ((c * 5) + 1)) ∧ ((0 : Int) ≤ (c * 5) + 1 ∧ ((c * 5) + 1 : Int) < 320) ∧ (xI ((c * 5) + 2)) ∧ ((0 : Int) ≤ (c * 5) + 2 ∧ ((c * 5) + 2 : Int) < 320) ∧ (xI ((c * 5) + 3)) ∧ ((0 : Int) ≤ (c * 5) + 3 ∧ ((c * 5) + 3 : Int) < 320) ∧ (xI ((c * 5) + 4)) ∧ ((0 : Int) ≤ (c * 5) + 4 ∧ ((c * 5) + 4 : Int) < 320) ∧ xfR 2 0 ∧ xKZ = xKZ ∧ Q 0 (xup (xup (xup (xup (xup (xup H 4 c 1) 3 (c * 5) a) 3 ((c * 5) + 1) b) 3 ((c * 5) + 2) e) 3 ((c * 5) + 3) f) 3 ((c * 5) + 4) g)) ∧ (¬ (¬ H 4 c = 0) → (xI ((H 2 7) + 1)) ∧ (((0 : Int) ≤ c ∧ (c : Int) < 64) ∧ xfB (xTy xKZ 4) 1) ∧ (xI (c * 5)) ∧ ((0 : Int) ≤ c * 5 ∧ (c * 5 : Int) < 320) ∧ (xI ((c * 5) + 1)) ∧ ((0 : Int) ≤ (c * 5) + 1 ∧ ((c * 5) + 1 : Int) < 320) ∧ (xI ((c * 5) + 2)) ∧ ((0 : Int) ≤ (c * 5) + 2 ∧ ((c * 5) + 2 : Int) < 320) ∧ (xI ((c * 5) + 3)) ∧ ((0 : Int) ≤ (c * 5) + 3 ∧ ((c * 5) + 3 : Int) < 320) ∧ (xI ((c * 5) + 4)) ∧ ((0 : Int) ≤ (c * 5) + 4 ∧ ((c * 5) + 4 : Int) < 320) ∧ xfR 2 0 ∧ xKZ = xKZ ∧ Q 0 (xup (xup (xup (xup (xup (xup (xup H 2 7 ((H 2 7) + 1)) 4 c 1) 3 (c * 5) a) 3 ((c * 5) + 1) b) 3 ((c * 5) + 2) e) 3 ((c * 5) + 3) f) 3 ((c * 5) + 4) g))) ∧ (¬ (¬ xb (0 ≤ c ∧ c < H 2 2) = 0) → xfR 2 0 ∧ xKZ = xKZ ∧ Q 0 H)
  refine ⟨fun k_ => ?_, fun k_ => ?_⟩
  · replace h := h.1 (xbe_1.mp k_)
    refine ⟨h.1, ?_⟩
    replace h := h.2
    refine ⟨fun k_ => ?_, fun k_ => ?_⟩
    · replace h := h.1 k_
      refine ⟨⟨h.1.1, ⟨fun q => absurd q (by decide), fun _ => h.1.2⟩⟩, ?_⟩
      replace h := h.2
      refine ⟨h.1, ?_⟩
      replace h := h.2
      refine ⟨h.1, ?_⟩
      replace h := h.2
      refine ⟨h.1, ?_⟩
      replace h := h.2
      refine ⟨h.1, ?_⟩
      replace h := h.2
      refine ⟨h.1, ?_⟩
      replace h := h.2
      refine ⟨h.1, ?_⟩
      replace h := h.2
      refine ⟨h.1, ?_⟩
      replace h := h.2
      refine ⟨h.1, ?_⟩
      replace h := h.2
      refine ⟨h.1, ?_⟩
      replace h := h.2
      refine ⟨h.1, ?_⟩
      replace h := h.2
      exact ⟨trivial, rfl, h⟩
    · replace h := h.2 k_
      refine ⟨h.1, ?_⟩
      replace h := h.2
      refine ⟨⟨h.1.1, ⟨fun q => absurd q (by decide), fun _ => h.1.2⟩⟩, ?_⟩
      replace h := h.2
      refine ⟨h.1, ?_⟩
      replace h := h.2
      refine ⟨h.1, ?_⟩
      replace h := h.2
      refine ⟨h.1, ?_⟩
      replace h := h.2
      refine ⟨h.1, ?_⟩
      replace h := h.2
      refine ⟨h.1, ?_⟩
      replace h := h.2
      refine ⟨h.1, ?_⟩
      replace h := h.2
      refine ⟨h.1, ?_⟩
      replace h := h.2
      refine ⟨h.1, ?_⟩
      replace h := h.2
      refine ⟨h.1, ?_⟩
      replace h := h.2
      refine ⟨h.1, ?_⟩
      replace h := h.2
      exact ⟨trivial, rfl, h⟩
  · replace h := h.2 (xbe_n.mp k_)
    exact ⟨trivial, rfl, h⟩

theorem s_21 {X : Int × (Int → Int)} {d : Nat} {Q : Int → XH → Prop} (hd : 2 ≤ d) (c a b e f g : Int) (H : XH) (p0 : 0 ≤ H 2 2 ∧ H 2 2 ≤ 64) (p1 : 0 ≤ c ∧ c < H 2 2) (p2 : 0 ≤ H 2 7 ∧ H 2 7 ≤ 1000) (hQ : Q 0 (putD H c a b e f g)) : xc X d 21 [(2, 2), (0, c), (0, a), (0, b), (0, e), (0, f), (0, g)] H Q := by
  cases d with
  | zero => omega
  | succ d =>
  refine U_21 (by omega) c a b e f g H ?_
  refine ⟨fun c1 => ?_, fun c1 => ?_⟩
  · skip
    refine ⟨?_, ?_⟩
    · first | omega | (unfold xI; omega) | (refine ⟨?_, ?_⟩ <;> omega)
    refine ⟨fun c2 => ?_, fun c2 => ?_⟩
    · skip
      refine ⟨?_, ?_⟩
      · first | omega | (unfold xI; omega) | (refine ⟨?_, ?_⟩ <;> omega)
      refine ⟨?_, ?_⟩
      · first | omega | (unfold xI; omega) | (refine ⟨?_, ?_⟩ <;> omega)
      refine ⟨?_, ?_⟩
      · first | omega | (unfold xI; omega) | (refine ⟨?_, ?_⟩ <;> omega)
      refine ⟨?_, ?_⟩
      · first | omega | (unfold xI; omega) | (refine ⟨?_, ?_⟩ <;> omega)
      refine ⟨?_, ?_⟩
      · first | omega | (unfold xI; omega) | (refine ⟨?_, ?_⟩ <;> omega)
      refine ⟨?_, ?_⟩
      · first | omega | (unfold xI; omega) | (refine ⟨?_, ?_⟩ <;> omega)
      refine ⟨?_, ?_⟩
      · first | omega | (unfold xI; omega) | (refine ⟨?_, ?_⟩ <;> omega)
      refine ⟨?_, ?_⟩
      · first | omega | (unfold xI; omega) | (refine ⟨?_, ?_⟩ <;> omega)
      refine ⟨?_, ?_⟩
      · first | omega | (unfold xI; omega) | (refine ⟨?_, ?_⟩ <;> omega)
      refine ⟨?_, ?_⟩
      · first | omega | (unfold xI; omega) | (refine ⟨?_, ?_⟩ <;> omega)
      refine ⟨?_, ?_⟩
      · first | omega | (unfold xI; omega) | (refine ⟨?_, ?_⟩ <;> omega)
      first | (unfold putD at hQ; rw [if_pos (by assumption)] at hQ; exact hQ) | (unfold putD at hQ; rw [if_neg (by assumption)] at hQ; exact hQ) | exact absurd p1 (by assumption)
    · skip
      refine ⟨?_, ?_⟩
      · first | omega | (unfold xI; omega) | (refine ⟨?_, ?_⟩ <;> omega)
      refine ⟨?_, ?_⟩
      · first | omega | (unfold xI; omega) | (refine ⟨?_, ?_⟩ <;> omega)
      refine ⟨?_, ?_⟩
      · first | omega | (unfold xI; omega) | (refine ⟨?_, ?_⟩ <;> omega)
      refine ⟨?_, ?_⟩
      · first | omega | (unfold xI; omega) | (refine ⟨?_, ?_⟩ <;> omega)
      refine ⟨?_, ?_⟩
      · first | omega | (unfold xI; omega) | (refine ⟨?_, ?_⟩ <;> omega)
      refine ⟨?_, ?_⟩
      · first | omega | (unfold xI; omega) | (refine ⟨?_, ?_⟩ <;> omega)
      refine ⟨?_, ?_⟩
      · first | omega | (unfold xI; omega) | (refine ⟨?_, ?_⟩ <;> omega)
      refine ⟨?_, ?_⟩
      · first | omega | (unfold xI; omega) | (refine ⟨?_, ?_⟩ <;> omega)
      refine ⟨?_, ?_⟩
      · first | omega | (unfold xI; omega) | (refine ⟨?_, ?_⟩ <;> omega)
      refine ⟨?_, ?_⟩
      · first | omega | (unfold xI; omega) | (refine ⟨?_, ?_⟩ <;> omega)
      refine ⟨?_, ?_⟩
      · first | omega | (unfold xI; omega) | (refine ⟨?_, ?_⟩ <;> omega)
      refine ⟨?_, ?_⟩
      · first | omega | (unfold xI; omega) | (refine ⟨?_, ?_⟩ <;> omega)
      first | (unfold putD at hQ; rw [if_pos (by assumption)] at hQ; exact hQ) | (unfold putD at hQ; rw [if_neg (by assumption)] at hQ; exact hQ) | exact absurd p1 (by assumption)
  · skip
    first | (unfold putD at hQ; rw [if_pos (by assumption)] at hQ; exact hQ) | (unfold putD at hQ; rw [if_neg (by assumption)] at hQ; exact hQ) | exact absurd p1 (by assumption)

theorem U_22 {X : Int × (Int → Int)} {d : Nat} {Q : Int → XH → Prop} (hd : 2 ≤ d) (c a b e f g : Int) (H : XH) (h : ((((0 ≤ c ∧ c < H 2 2)) → ((9 : Int) ≤ 99) ∧ (((((0 ≤ a ∧ a ≤ 9) ∧ (0 ≤ b ∧ b ≤ 9) ∧ (0 ≤ e ∧ e ≤ 9) ∧ (0 ≤ f ∧ f ≤ 9) ∧ (0 ≤ g ∧ g ≤ 9) ∧ 1 ≤ a + b + e + f + g)) → (0 ≤ H 2 2 ∧ H 2 2 ≤ 64) ∧ (0 ≤ c ∧ c < H 2 2) ∧ (0 ≤ H 2 7 ∧ H 2 7 ≤ 1000) ∧ (Q ((putD H c a b e f g) 2 7) (putD H c a b e f g))) ∧ (¬ (((0 ≤ a ∧ a ≤ 9) ∧ (0 ≤ b ∧ b ≤ 9) ∧ (0 ≤ e ∧ e ≤ 9) ∧ (0 ≤ f ∧ f ≤ 9) ∧ (0 ≤ g ∧ g ≤ 9) ∧ 1 ≤ a + b + e + f + g)) → Q (-1) H))) ∧ (¬ ((0 ≤ c ∧ c < H 2 2)) → Q (-1) H))) : xc X (d + 1) 22 [(2, 0), (0, c), (0, a), (0, b), (0, e), (0, f), (0, g)] H Q := by
  refine ⟨rfl, ?_⟩
  show xq X d 22 Q 100000 [(0, (2, 0)), (1, (0, c)), (2, (0, a)), (3, (0, b)), (4, (0, e)), (5, (0, f)), (6, (0, g))] [] H
  refine xq_run [15, 31, 50] 300 ?_
  show xWM (xE X) xMC d 18 [(2, 2), (0, c)] xKZ H _
  refine xc_in (s_18 (by omega) c H  ?_)
  replace h := h
  show xq X d 22 Q 15 [(7, (2, 2)), (0, (2, 0)), (1, (0, c)), (2, (0, a)), (3, (0, b)), (4, (0, e)), (5, (0, f)), (6, (0, g))] [(0, xb (0 ≤ c ∧ c < H 2 2))] H
  refine xq_run [15, 31, 50] 300 ?_
  show ((xb (0 ≤ c ∧ c < H 2 2) = 0) → xfR 0 (-1) ∧ xKZ = xKZ ∧ Q (-1) H) ∧ (¬ (xb (0 ≤ c ∧ c < H 2 2) = 0) → xWM (xE X) xMC d 20 [(0, a), (0, b), (0, e), (0, f), (0, g), (0, 9)] xKZ H _)
  refine ⟨fun k_ => ?_, fun k_ => ?_⟩
  · replace h := h.2 (xbe_0.mp k_)
    exact ⟨trivial, rfl, h⟩
  · replace h := h.1 (xbe_1.mp k_)
    refine xc_in (s_20 (by omega) a b e f g 9 H (h.1) ?_)
    replace h := h.2
    show xq X d 22 Q 31 [(7, (2, 2)), (0, (2, 0)), (1, (0, c)), (2, (0, a)), (3, (0, b)), (4, (0, e)), (5, (0, f)), (6, (0, g))] [(0, xb ((0 ≤ a ∧ a ≤ 9) ∧ (0 ≤ b ∧ b ≤ 9) ∧ (0 ≤ e ∧ e ≤ 9) ∧ (0 ≤ f ∧ f ≤ 9) ∧ (0 ≤ g ∧ g ≤ 9) ∧ 1 ≤ a + b + e + f + g))] H
    refine xq_run [15, 31, 50] 300 ?_
    show ((¬ xb ((0 ≤ a ∧ a ≤ 9) ∧ (0 ≤ b ∧ b ≤ 9) ∧ (0 ≤ e ∧ e ≤ 9) ∧ (0 ≤ f ∧ f ≤ 9) ∧ (0 ≤ g ∧ g ≤ 9) ∧ 1 ≤ a + b + e + f + g) = 0) → xWM (xE X) xMC d 21 [(2, 2), (0, c), (0, a), (0, b), (0, e), (0, f), (0, g)] xKZ H _) ∧ (¬ (¬ xb ((0 ≤ a ∧ a ≤ 9) ∧ (0 ≤ b ∧ b ≤ 9) ∧ (0 ≤ e ∧ e ≤ 9) ∧ (0 ≤ f ∧ f ≤ 9) ∧ (0 ≤ g ∧ g ≤ 9) ∧ 1 ≤ a + b + e + f + g) = 0) → xfR 0 (-1) ∧ xKZ = xKZ ∧ Q (-1) H)
    refine ⟨fun k_ => ?_, fun k_ => ?_⟩
    · replace h := h.1 (xbe_1.mp k_)
      refine xc_in (s_21 (by omega) c a b e f g H (h.1) (h.2.1) (h.2.2.1) ?_)
      replace h := h.2.2.2
      show xq X d 22 Q 50 [(7, (2, 2)), (0, (2, 0)), (1, (0, c)), (2, (0, a)), (3, (0, b)), (4, (0, e)), (5, (0, f)), (6, (0, g))] [] (putD H c a b e f g)
      refine xq_run [15, 31, 50] 300 ?_
      show xfR 0 ((putD H c a b e f g) 2 7) ∧ xKZ = xKZ ∧ Q ((putD H c a b e f g) 2 7) (putD H c a b e f g)
      exact ⟨trivial, rfl, h⟩
    · replace h := h.2 (xbe_n.mp k_)
      exact ⟨trivial, rfl, h⟩

set_option maxRecDepth 4000 in
theorem U_25 {X : Int × (Int → Int)} {d : Nat} {Q : Int → XH → Prop} (hd : 2 ≤ d) (c a b e f g : Int) (H : XH) (h : (-2147483648 < H 67 1 ∧ H 67 1 ≤ 2147483647) ∧ ((((0 ≤ c ∧ c < H 67 1)) → ((((0 ≤ a ∧ a ≤ 9)) → ((((0 ≤ b ∧ b ≤ 9)) → ((((0 ≤ e ∧ e ≤ 9)) → ((((0 ≤ f ∧ f ≤ 9)) → ((((0 ≤ g ∧ g ≤ 9)) → (xI (a + b)) ∧ (xI ((a + b) + e)) ∧ (xI (((a + b) + e) + f)) ∧ (xI ((((a + b) + e) + f) + g)) ∧ ((¬ (((a + b) + e) + f) + g = 0) → (xI (160 + c)) ∧ ((0 : Int) ≤ 160 + c ∧ (160 + c : Int) < 1180) ∧ (xI (1 - (H 68 (160 + c)))) ∧ (xI ((H 68 0) + (1 - (H 68 (160 + c))))) ∧ (xI (160 + c)) ∧ ((0 : Int) ≤ 160 + c ∧ (160 + c : Int) < 1180) ∧ (xI (5 * c)) ∧ (xI (230 + (5 * c))) ∧ ((0 : Int) ≤ 230 + (5 * c) ∧ (230 + (5 * c) : Int) < 1180) ∧ (xI (5 * c)) ∧ (xI (230 + (5 * c))) ∧ (xI ((230 + (5 * c)) + 1)) ∧ ((0 : Int) ≤ (230 + (5 * c)) + 1 ∧ ((230 + (5 * c)) + 1 : Int) < 1180) ∧ (xI (5 * c)) ∧ (xI (230 + (5 * c))) ∧ (xI ((230 + (5 * c)) + 2)) ∧ ((0 : Int) ≤ (230 + (5 * c)) + 2 ∧ ((230 + (5 * c)) + 2 : Int) < 1180) ∧ (xI (5 * c)) ∧ (xI (230 + (5 * c))) ∧ (xI ((230 + (5 * c)) + 3)) ∧ ((0 : Int) ≤ (230 + (5 * c)) + 3 ∧ ((230 + (5 * c)) + 3 : Int) < 1180) ∧ (xI (5 * c)) ∧ (xI (230 + (5 * c))) ∧ (xI ((230 + (5 * c)) + 4)) ∧ ((0 : Int) ≤ (230 + (5 * c)) + 4 ∧ ((230 + (5 * c)) + 4 : Int) < 1180) ∧ Q ((xup (xup (xup (xup (xup (xup (xup H 68 0 ((H 68 0) + (1 - (H 68 (160 + c))))) 68 (160 + c) 1) 68 (230 + (5 * c)) a) 68 ((230 + (5 * c)) + 1) b) 68 ((230 + (5 * c)) + 2) e) 68 ((230 + (5 * c)) + 3) f) 68 ((230 + (5 * c)) + 4) g) 68 0) (xup (xup (xup (xup (xup (xup (xup H 68 0 ((H 68 0) + (1 - (H 68 (160 + c))))) 68 (160 + c) 1) 68 (230 + (5 * c)) a) 68 ((230 + (5 * c)) + 1) b) 68 ((230 + (5 * c)) + 2) e) 68 ((230 + (5 * c)) + 3) f) 68 ((230 + (5 * c)) + 4) g)) ∧ (¬ (¬ (((a + b) + e) + f) + g = 0) → Q (-1) H)) ∧ (¬ ((0 ≤ g ∧ g ≤ 9)) → Q (-1) H))) ∧ (¬ ((0 ≤ f ∧ f ≤ 9)) → Q (-1) H))) ∧ (¬ ((0 ≤ e ∧ e ≤ 9)) → Q (-1) H))) ∧ (¬ ((0 ≤ b ∧ b ≤ 9)) → Q (-1) H))) ∧ (¬ ((0 ≤ a ∧ a ≤ 9)) → Q (-1) H))) ∧ (¬ ((0 ≤ c ∧ c < H 67 1)) → Q (-1) H))) : xc X (d + 1) 25 [(2, 67), (0, c), (0, a), (0, b), (0, e), (0, f), (0, g)] H Q := by
  refine ⟨rfl, ?_⟩
  show xq X d 25 Q 100000 [(0, (2, 67)), (1, (0, c)), (2, (0, a)), (3, (0, b)), (4, (0, e)), (5, (0, f)), (6, (0, g))] [] H
  refine xq_run [5, 15, 25, 36, 47, 58] 300 ?_
  show xWM (xE X) xMC d 24 [(2, 67), (0, c)] xKZ H _
  refine xc_in (s_24 (by omega) c H (h.1) ?_)
  replace h := h.2
  show xq X d 25 Q 5 [(0, (2, 67)), (1, (0, c)), (2, (0, a)), (3, (0, b)), (4, (0, e)), (5, (0, f)), (6, (0, g))] [(0, xb (0 ≤ c ∧ c < H 67 1))] H
  refine xq_run [5, 15, 25, 36, 47, 58] 300 ?_
  show ((xb (0 ≤ c ∧ c < H 67 1) = 0) → ((0 = 0) → xfR 0 (-1) ∧ xKZ = xKZ ∧ Q (-1) H) ∧ (¬ (0 = 0) → _)) ∧ (¬ (xb (0 ≤ c ∧ c < H 67 1) = 0) → xWM (xE X) xMC d 23 [(0, a), (0, 0), (0, 9)] xKZ H _)
  refine ⟨fun k_ => ?_, fun k_ => ?_⟩
  · replace h := h.2 (xbe_0.mp k_)
    refine ⟨fun k_ => ?_, fun k_ => absurd (by decide) k_⟩
    exact ⟨trivial, rfl, h⟩
  · replace h := h.1 (xbe_1.mp k_)
    refine xc_in (s_23 (by omega) a 0 9 H  ?_)
    replace h := h
    show xq X d 25 Q 15 [(0, (2, 67)), (1, (0, c)), (2, (0, a)), (3, (0, b)), (4, (0, e)), (5, (0, f)), (6, (0, g))] [(0, xb (0 ≤ a ∧ a ≤ 9))] H
    refine xq_run [5, 15, 25, 36, 47, 58] 300 ?_
    show ((xb (0 ≤ a ∧ a ≤ 9) = 0) → ((0 = 0) → xfR 0 (-1) ∧ xKZ = xKZ ∧ Q (-1) H) ∧ (¬ (0 = 0) → _)) ∧ (¬ (xb (0 ≤ a ∧ a ≤ 9) = 0) → xWM (xE X) xMC d 23 [(0, b), (0, 0), (0, 9)] xKZ H _)
    refine ⟨fun k_ => ?_, fun k_ => ?_⟩
    · replace h := h.2 (xbe_0.mp k_)
      refine ⟨fun k_ => ?_, fun k_ => absurd (by decide) k_⟩
      exact ⟨trivial, rfl, h⟩
    · replace h := h.1 (xbe_1.mp k_)
      refine xc_in (s_23 (by omega) b 0 9 H  ?_)
      replace h := h
      show xq X d 25 Q 25 [(0, (2, 67)), (1, (0, c)), (2, (0, a)), (3, (0, b)), (4, (0, e)), (5, (0, f)), (6, (0, g))] [(0, xb (0 ≤ b ∧ b ≤ 9))] H
      refine xq_run [5, 15, 25, 36, 47, 58] 300 ?_
      show ((xb (0 ≤ b ∧ b ≤ 9) = 0) → ((0 = 0) → xfR 0 (-1) ∧ xKZ = xKZ ∧ Q (-1) H) ∧ (¬ (0 = 0) → _)) ∧ (¬ (xb (0 ≤ b ∧ b ≤ 9) = 0) → xWM (xE X) xMC d 23 [(0, e), (0, 0), (0, 9)] xKZ H _)
      refine ⟨fun k_ => ?_, fun k_ => ?_⟩
      · replace h := h.2 (xbe_0.mp k_)
        refine ⟨fun k_ => ?_, fun k_ => absurd (by decide) k_⟩
        exact ⟨trivial, rfl, h⟩
      · replace h := h.1 (xbe_1.mp k_)
        refine xc_in (s_23 (by omega) e 0 9 H  ?_)
        replace h := h
        show xq X d 25 Q 36 [(0, (2, 67)), (1, (0, c)), (2, (0, a)), (3, (0, b)), (4, (0, e)), (5, (0, f)), (6, (0, g))] [(0, xb (0 ≤ e ∧ e ≤ 9))] H
        refine xq_run [5, 15, 25, 36, 47, 58] 300 ?_
        show ((xb (0 ≤ e ∧ e ≤ 9) = 0) → ((0 = 0) → xfR 0 (-1) ∧ xKZ = xKZ ∧ Q (-1) H) ∧ (¬ (0 = 0) → _)) ∧ (¬ (xb (0 ≤ e ∧ e ≤ 9) = 0) → xWM (xE X) xMC d 23 [(0, f), (0, 0), (0, 9)] xKZ H _)
        refine ⟨fun k_ => ?_, fun k_ => ?_⟩
        · replace h := h.2 (xbe_0.mp k_)
          refine ⟨fun k_ => ?_, fun k_ => absurd (by decide) k_⟩
          exact ⟨trivial, rfl, h⟩
        · replace h := h.1 (xbe_1.mp k_)
          refine xc_in (s_23 (by omega) f 0 9 H  ?_)
          replace h := h
          show xq X d 25 Q 47 [(0, (2, 67)), (1, (0, c)), (2, (0, a)), (3, (0, b)), (4, (0, e)), (5, (0, f)), (6, (0, g))] [(0, xb (0 ≤ f ∧ f ≤ 9))] H
          refine xq_run [5, 15, 25, 36, 47, 58] 300 ?_
          show ((xb (0 ≤ f ∧ f ≤ 9) = 0) → ((0 = 0) → xfR 0 (-1) ∧ xKZ = xKZ ∧ Q (-1) H) ∧ (¬ (0 = 0) → _)) ∧ (¬ (xb (0 ≤ f ∧ f ≤ 9) = 0) → xWM (xE X) xMC d 23 [(0, g), (0, 0), (0, 9)] xKZ H _)
          refine ⟨fun k_ => ?_, fun k_ => ?_⟩
          · replace h := h.2 (xbe_0.mp k_)
            refine ⟨fun k_ => ?_, fun k_ => absurd (by decide) k_⟩
            exact ⟨trivial, rfl, h⟩
          · replace h := h.1 (xbe_1.mp k_)
            refine xc_in (s_23 (by omega) g 0 9 H  ?_)
            replace h := h
            show xq X d 25 Q 58 [(0, (2, 67)), (1, (0, c)), (2, (0, a)), (3, (0, b)), (4, (0, e)), (5, (0, f)), (6, (0, g))] [(0, xb (0 ≤ g ∧ g ≤ 9))] H
            refine xq_run [5, 15, 25, 36, 47, 58] 300 ?_
            show ((xb (0 ≤ g ∧ g ≤ 9) = 0) → ((0 = 0) → xfR 0 (-1) ∧ xKZ = xKZ ∧ Q (-1) H) ∧ (¬ (0 = 0) → _)) ∧ (¬ (xb (0 ≤ g ∧ g ≤ 9) = 0) → ((1 = 0) → _) ∧ (¬ (1 = 0) → (xI (a + b)) ∧ (xI ((a + b) + e)) ∧ (xI (((a + b) + e) + f)) ∧ (xI ((((a + b) + e) + f) + g)) ∧ ((¬ (((a + b) + e) + f) + g = 0) → ((0 : Int) ≤ 0 ∧ (0 : Int) < 1180) ∧ (xI (160 + c)) ∧ ((0 : Int) ≤ 160 + c ∧ (160 + c : Int) < 1180) ∧ (xI (1 - (H 68 (160 + c)))) ∧ (xI ((H 68 0) + (1 - (H 68 (160 + c))))) ∧ ((0 : Int) ≤ 0 ∧ (0 : Int) < 1180) ∧ (xI (160 + c)) ∧ ((0 : Int) ≤ 160 + c ∧ (160 + c : Int) < 1180) ∧ (xI (5 * c)) ∧ (xI (230 + (5 * c))) ∧ ((0 : Int) ≤ 230 + (5 * c) ∧ (230 + (5 * c) : Int) < 1180) ∧ (xI (5 * c)) ∧ (xI (230 + (5 * c))) ∧ (xI ((230 + (5 * c)) + 1)) ∧ ((0 : Int) ≤ (230 + (5 * c)) + 1 ∧ ((230 + (5 * c)) + 1 : Int) < 1180) ∧ (xI (5 * c)) ∧ (xI (230 + (5 * c))) ∧ (xI ((230 + (5 * c)) + 2)) ∧ ((0 : Int) ≤ (230 + (5 * c)) + 2 ∧ ((230 + (5 * c)) + 2 : Int) < 1180) ∧ (xI (5 * c)) ∧ (xI (230 + (5 * c))) ∧ (xI ((230 + (5 * c)) + 3)) ∧ ((0 : Int) ≤ (230 + (5 * c)) + 3 ∧ ((230 + (5 * c)) + 3 : Int) < 1180) ∧ (xI (5 * c)) ∧ (xI (230 + (5 * c))) ∧ (xI ((230 + (5 * c)) + 4)) ∧ ((0 : Int) ≤ (230 + (5 * c)) + 4 ∧ ((230 + (5 * c)) + 4 : Int) < 1180) ∧ ((0 : Int) ≤ 0 ∧ (0 : Int) < 1180) ∧ xfR 0 ((xup (xup (xup (xup (xup (xup (xup H 68 0 ((H 68 0) + (1 - (H 68 (160 + c))))) 68 (160 + c) 1) 68 (230 + (5 * c)) a) 68 ((230 + (5 * c)) + 1) b) 68 ((230 + (5 * c)) + 2) e) 68 ((230 + (5 * c)) + 3) f) 68 ((230 + (5 * c)) + 4) g) 68 0) ∧ xKZ = xKZ ∧ Q ((xup (xup (xup (xup (xup (xup (xup H 68 0 ((H 68 0) + (1 - (H 68 (160 + c))))) 68 (160 + c) 1) 68 (230 + (5 * c)) a) 68 ((230 + (5 * c)) + 1) b) 68 ((230 + (5 * c)) + 2) e) 68 ((230 + (5 * c)) + 3) f) 68 ((230 + (5 * c)) + 4) g) 68 0) (xup (xup (xup (xup (xup (xup (xup H 68 0 ((H 68 0) + (1 - (H 68 (160 + c))))) 68 (160 + c) 1) 68 (230 + (5 * c)) a) 68 ((230 + (5 * c)) + 1) b) 68 ((230 + (5 * c)) + 2) e) 68 ((230 + (5 * c)) + 3) f) 68 ((230 + (5 * c)) + 4) g)) ∧ (¬ (¬ (((a + b) + e) + f) + g = 0) → xfR 0 (-1) ∧ xKZ = xKZ ∧ Q (-1) H)))
            refine ⟨fun k_ => ?_, fun k_ => ?_⟩
            · replace h := h.2 (xbe_0.mp k_)
              refine ⟨fun k_ => ?_, fun k_ => absurd (by decide) k_⟩
              exact ⟨trivial, rfl, h⟩
            · replace h := h.1 (xbe_1.mp k_)
              refine ⟨fun k_ => absurd k_ (by decide), fun k_ => ?_⟩
              refine ⟨h.1, ?_⟩
              replace h := h.2
              refine ⟨h.1, ?_⟩
              replace h := h.2
              refine ⟨h.1, ?_⟩
              replace h := h.2
              refine ⟨h.1, ?_⟩
              replace h := h.2
              refine ⟨fun k_ => ?_, fun k_ => ?_⟩
              · replace h := h.1 k_
                refine ⟨⟨by decide, by decide⟩, ?_⟩
                refine ⟨h.1, ?_⟩
                replace h := h.2
                refine ⟨h.1, ?_⟩
                replace h := h.2
                refine ⟨h.1, ?_⟩
                replace h := h.2
                refine ⟨h.1, ?_⟩
                replace h := h.2
                refine ⟨⟨by decide, by decide⟩, ?_⟩
                refine ⟨h.1, ?_⟩
                replace h := h.2
                refine ⟨h.1, ?_⟩
                replace h := h.2
                refine ⟨h.1, ?_⟩
                replace h := h.2
                refine ⟨h.1, ?_⟩
                replace h := h.2
                refine ⟨h.1, ?_⟩
                replace h := h.2
                refine ⟨h.1, ?_⟩
                replace h := h.2
                refine ⟨h.1, ?_⟩
                replace h := h.2
                refine ⟨h.1, ?_⟩
                replace h := h.2
                refine ⟨h.1, ?_⟩
                replace h := h.2
                refine ⟨h.1, ?_⟩
                replace h := h.2
                refine ⟨h.1, ?_⟩
                replace h := h.2
                refine ⟨h.1, ?_⟩
                replace h := h.2
                refine ⟨h.1, ?_⟩
                replace h := h.2
                refine ⟨h.1, ?_⟩
                replace h := h.2
                refine ⟨h.1, ?_⟩
                replace h := h.2
                refine ⟨h.1, ?_⟩
                replace h := h.2
                refine ⟨h.1, ?_⟩
                replace h := h.2
                refine ⟨h.1, ?_⟩
                replace h := h.2
                refine ⟨h.1, ?_⟩
                replace h := h.2
                refine ⟨h.1, ?_⟩
                replace h := h.2
                refine ⟨h.1, ?_⟩
                replace h := h.2
                refine ⟨⟨by decide, by decide⟩, ?_⟩
                exact ⟨trivial, rfl, h⟩
              · replace h := h.2 k_
                exact ⟨trivial, rfl, h⟩
