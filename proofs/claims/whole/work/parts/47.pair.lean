/-! THE PURE LAYER 17: steps of stories -/
def stC (H : XH) (s c w h : Int) : XH := if H 14 s < 20 then xup (xup (xup (xup H 13 ((s * 20 + H 14 s) * 3) c) 13 ((s * 20 + H 14 s) * 3 + 1) w) 13 ((s * 20 + H 14 s) * 3 + 2) h) 14 s (H 14 s + 1) else H

theorem U_199 {X : Int × (Int → Int)} {d : Nat} {Q : Int → XH → Prop} (hd : 1 ≤ d) (s c w u : Int) (H : XH) (h : ((((0 ≤ s ∧ s ≤ 3)) → ((0 : Int) ≤ s ∧ (s : Int) < 4) ∧ ((H 14 s < 20) → (xI (s * 20)) ∧ ((0 : Int) ≤ s ∧ (s : Int) < 4) ∧ (xI ((s * 20) + (H 14 s))) ∧ (xI (((s * 20) + (H 14 s)) * 3)) ∧ ((0 : Int) ≤ ((s * 20) + (H 14 s)) * 3 ∧ (((s * 20) + (H 14 s)) * 3 : Int) < 240) ∧ (xI ((((s * 20) + (H 14 s)) * 3) + 1)) ∧ ((0 : Int) ≤ (((s * 20) + (H 14 s)) * 3) + 1 ∧ ((((s * 20) + (H 14 s)) * 3) + 1 : Int) < 240) ∧ (xI ((((s * 20) + (H 14 s)) * 3) + 2)) ∧ ((0 : Int) ≤ (((s * 20) + (H 14 s)) * 3) + 2 ∧ ((((s * 20) + (H 14 s)) * 3) + 2 : Int) < 240) ∧ ((0 : Int) ≤ s ∧ (s : Int) < 4) ∧ (xI ((H 14 s) + 1)) ∧ ((0 : Int) ≤ s ∧ (s : Int) < 4) ∧ ((0 : Int) ≤ s ∧ (s : Int) < 4) ∧ Q ((xup (xup (xup (xup H 13 (((s * 20) + (H 14 s)) * 3) c) 13 ((((s * 20) + (H 14 s)) * 3) + 1) w) 13 ((((s * 20) + (H 14 s)) * 3) + 2) u) 14 s ((H 14 s) + 1)) 14 s) (xup (xup (xup (xup H 13 (((s * 20) + (H 14 s)) * 3) c) 13 ((((s * 20) + (H 14 s)) * 3) + 1) w) 13 ((((s * 20) + (H 14 s)) * 3) + 2) u) 14 s ((H 14 s) + 1))) ∧ (¬ (H 14 s < 20) → Q (-1) H)) ∧ (¬ ((0 ≤ s ∧ s ≤ 3)) → Q (-1) H))) : xc X (d + 1) 199 [(2, 12), (0, s), (0, c), (0, w), (0, u)] H Q := by
  refine ⟨rfl, ?_⟩
  show xq X d 199 Q 100000 [(0, (2, 12)), (1, (0, s)), (2, (0, c)), (3, (0, w)), (4, (0, u))] [] H
  refine xq_run [4] 300 ?_
  show xWM (xE X) xMC d 198 [(0, s)] xKZ H _
  refine xc_in (s_198 (by omega) s H  ?_)
  replace h := h
  show xq X d 199 Q 4 [(0, (2, 12)), (1, (0, s)), (2, (0, c)), (3, (0, w)), (4, (0, u))] [(0, xb (0 ≤ s ∧ s ≤ 3))] H
  refine xq_run [4] 300 ?_
  show ((xb (0 ≤ s ∧ s ≤ 3) = 0) → xfR 0 (-1) ∧ xKZ = xKZ ∧ Q (-1) H) ∧ (¬ (xb (0 ≤ s ∧ s ≤ 3) = 0) → ((0 : Int) ≤ s ∧ (s : Int) < 4) ∧ ((H 14 s < 20) → (xI (s * 20)) ∧ ((0 : Int) ≤ s ∧ (s : Int) < 4) ∧ (xI ((s * 20) + (H 14 s))) ∧ (xI (((s * 20) + (H 14 s)) * 3)) ∧ ((0 : Int) ≤ ((s * 20) + (H 14 s)) * 3 ∧ (((s * 20) + (H 14 s)) * 3 : Int) < 240) ∧ (xI ((((s * 20) + (H 14 s)) * 3) + 1)) ∧ ((0 : Int) ≤ (((s * 20) + (H 14 s)) * 3) + 1 ∧ ((((s * 20) + (H 14 s)) * 3) + 1 : Int) < 240) ∧ (xI ((((s * 20) + (H 14 s)) * 3) + 2)) ∧ ((0 : Int) ≤ (((s * 20) + (H 14 s)) * 3) + 2 ∧ ((((s * 20) + (H 14 s)) * 3) + 2 : Int) < 240) ∧ ((0 : Int) ≤ s ∧ (s : Int) < 4) ∧ (xI ((H 14 s) + 1)) ∧ ((0 : Int) ≤ s ∧ (s : Int) < 4) ∧ ((0 : Int) ≤ s ∧ (s : Int) < 4) ∧ xfR 0 ((xup (xup (xup (xup H 13 (((s * 20) + (H 14 s)) * 3) c) 13 ((((s * 20) + (H 14 s)) * 3) + 1) w) 13 ((((s * 20) + (H 14 s)) * 3) + 2) u) 14 s ((H 14 s) + 1)) 14 s) ∧ xKZ = xKZ ∧ Q ((xup (xup (xup (xup H 13 (((s * 20) + (H 14 s)) * 3) c) 13 ((((s * 20) + (H 14 s)) * 3) + 1) w) 13 ((((s * 20) + (H 14 s)) * 3) + 2) u) 14 s ((H 14 s) + 1)) 14 s) (xup (xup (xup (xup H 13 (((s * 20) + (H 14 s)) * 3) c) 13 ((((s * 20) + (H 14 s)) * 3) + 1) w) 13 ((((s * 20) + (H 14 s)) * 3) + 2) u) 14 s ((H 14 s) + 1))) ∧ (¬ (H 14 s < 20) → xfR 0 (-1) ∧ xKZ = xKZ ∧ Q (-1) H))
  refine ⟨fun k_ => ?_, fun k_ => ?_⟩
  · replace h := h.2 (xbe_0.mp k_)
    exact ⟨trivial, rfl, h⟩
  · replace h := h.1 (xbe_1.mp k_)
    refine ⟨h.1, ?_⟩
    replace h := h.2
    refine ⟨fun k_ => ?_, fun k_ => ?_⟩
    · replace h := h.1 k_
      refine ⟨h.1, ?_⟩
      replace h := h.2
      refine ⟨h.1, ?_⟩
      replace h := h.2
      refine ⟨h.1, ?_⟩
      replace h := h.2
      refine ⟨h.1, ?_⟩
      replace h := h.2
      refine ⟨h.1, ?_⟩
      replace h := h.2
      refine ⟨h.1, ?_⟩
      replace h := h.2
      refine ⟨h.1, ?_⟩
      replace h := h.2
      refine ⟨h.1, ?_⟩
      replace h := h.2
      refine ⟨h.1, ?_⟩
      replace h := h.2
      refine ⟨h.1, ?_⟩
      replace h := h.2
      refine ⟨h.1, ?_⟩
      replace h := h.2
      refine ⟨h.1, ?_⟩
      replace h := h.2
      refine ⟨h.1, ?_⟩
      replace h := h.2
      exact ⟨trivial, rfl, h⟩
    · replace h := h.2 k_
      exact ⟨trivial, rfl, h⟩

theorem s_199 {X : Int × (Int → Int)} {d : Nat} {Q : Int → XH → Prop} (hd : 2 ≤ d) (s c w u : Int) (H : XH) (p0 : 0 ≤ s ∧ s ≤ 3) (p1 : 0 ≤ H 14 s ∧ H 14 s ≤ 20) (hQ : Q (if H 14 s < 20 then H 14 s + 1 else (-1)) (stC H s c w u)) : xc X d 199 [(2, 12), (0, s), (0, c), (0, w), (0, u)] H Q := by
  cases d with
  | zero => omega
  | succ d =>
  refine U_199 (by omega) s c w u H ?_
  refine ⟨fun c1 => ?_, fun c1 => ?_⟩
  · skip
    refine ⟨?_, ?_⟩
    · first | omega | (unfold xI; omega)
    refine ⟨fun c2 => ?_, fun c2 => ?_⟩
    · skip
      refine ⟨?_, ?_⟩
      · first | omega | (unfold xI; omega)
      refine ⟨?_, ?_⟩
      · first | omega | (unfold xI; omega)
      refine ⟨?_, ?_⟩
      · first | omega | (unfold xI; omega)
      refine ⟨?_, ?_⟩
      · first | omega | (unfold xI; omega)
      refine ⟨?_, ?_⟩
      · first | omega | (unfold xI; omega)
      refine ⟨?_, ?_⟩
      · first | omega | (unfold xI; omega)
      refine ⟨?_, ?_⟩
      · first | omega | (unfold xI; omega)
      refine ⟨?_, ?_⟩
      · first | omega | (unfold xI; omega)
      refine ⟨?_, ?_⟩
      · first | omega | (unfold xI; omega)
      refine ⟨?_, ?_⟩
      · first | omega | (unfold xI; omega)
      refine ⟨?_, ?_⟩
      · first | omega | (unfold xI; omega)
      refine ⟨?_, ?_⟩
      · first | omega | (unfold xI; omega)
      refine ⟨?_, ?_⟩
      · first | omega | (unfold xI; omega)
      first | (unfold stC at hQ; rw [if_pos (by assumption), if_pos (by assumption)] at hQ; rw [xup_self]; exact hQ) | (unfold stC at hQ; rw [if_neg (by assumption), if_neg (by assumption)] at hQ; exact hQ) | exact absurd p0 (by assumption)
    · skip
      first | (unfold stC at hQ; rw [if_pos (by assumption), if_pos (by assumption)] at hQ; rw [xup_self]; exact hQ) | (unfold stC at hQ; rw [if_neg (by assumption), if_neg (by assumption)] at hQ; exact hQ) | exact absurd p0 (by assumption)
  · skip
    first | (unfold stC at hQ; rw [if_pos (by assumption), if_pos (by assumption)] at hQ; rw [xup_self]; exact hQ) | (unfold stC at hQ; rw [if_neg (by assumption), if_neg (by assumption)] at hQ; exact hQ) | exact absurd p0 (by assumption)

theorem U_200 {X : Int × (Int → Int)} {d : Nat} {Q : Int → XH → Prop} (hd : 2 ≤ d) (s c w u : Int) (H : XH) (h : ((((0 ≤ s ∧ s ≤ 3)) → ((((0 ≤ c ∧ c < H 2 2)) → ((((0 ≤ w ∧ w ≤ 9)) → ((((0 ≤ u ∧ u ≤ 23)) → (0 ≤ s ∧ s ≤ 3) ∧ (0 ≤ H 14 s ∧ H 14 s ≤ 20) ∧ (Q (if H 14 s < 20 then H 14 s + 1 else (-1)) (stC H s c w u))) ∧ (¬ ((0 ≤ u ∧ u ≤ 23)) → Q (-1) H))) ∧ (¬ ((0 ≤ w ∧ w ≤ 9)) → Q (-1) H))) ∧ (¬ ((0 ≤ c ∧ c < H 2 2)) → Q (-1) H))) ∧ (¬ ((0 ≤ s ∧ s ≤ 3)) → Q (-1) H))) : xc X (d + 1) 200 [(2, 0), (0, s), (0, c), (0, w), (0, u)] H Q := by
  refine ⟨rfl, ?_⟩
  show xq X d 200 Q 100000 [(0, (2, 0)), (1, (0, s)), (2, (0, c)), (3, (0, w)), (4, (0, u))] [] H
  refine xq_run [4, 18, 30, 41, 61] 300 ?_
  show xWM (xE X) xMC d 198 [(0, s)] xKZ H _
  refine xc_in (s_198 (by omega) s H  ?_)
  replace h := h
  show xq X d 200 Q 4 [(0, (2, 0)), (1, (0, s)), (2, (0, c)), (3, (0, w)), (4, (0, u))] [(0, xb (0 ≤ s ∧ s ≤ 3))] H
  refine xq_run [4, 18, 30, 41, 61] 300 ?_
  show ((xb (0 ≤ s ∧ s ≤ 3) = 0) → xfR 0 (-1) ∧ xKZ = xKZ ∧ Q (-1) H) ∧ (¬ (xb (0 ≤ s ∧ s ≤ 3) = 0) → xWM (xE X) xMC d 18 [(2, 2), (0, c)] xKZ H _)
  refine ⟨fun k_ => ?_, fun k_ => ?_⟩
  · replace h := h.2 (xbe_0.mp k_)
    exact ⟨trivial, rfl, h⟩
  · replace h := h.1 (xbe_1.mp k_)
    refine xc_in (s_18 (by omega) c H  ?_)
    replace h := h
    show xq X d 200 Q 18 [(0, (2, 0)), (1, (0, s)), (2, (0, c)), (3, (0, w)), (4, (0, u))] [(0, xb (0 ≤ c ∧ c < H 2 2))] H
    refine xq_run [4, 18, 30, 41, 61] 300 ?_
    show ((¬ xb (0 ≤ c ∧ c < H 2 2) = 0) → xWM (xE X) xMC d 19 [(0, w), (0, 0), (0, 9)] xKZ H _) ∧ (¬ (¬ xb (0 ≤ c ∧ c < H 2 2) = 0) → xfR 0 (-1) ∧ xKZ = xKZ ∧ Q (-1) H)
    refine ⟨fun k_ => ?_, fun k_ => ?_⟩
    · replace h := h.1 (xbe_1.mp k_)
      refine xc_in (s_19 (by omega) w 0 9 H  ?_)
      replace h := h
      show xq X d 200 Q 30 [(0, (2, 0)), (1, (0, s)), (2, (0, c)), (3, (0, w)), (4, (0, u))] [(0, xb (0 ≤ w ∧ w ≤ 9))] H
      refine xq_run [4, 18, 30, 41, 61] 300 ?_
      show ((xb (0 ≤ w ∧ w ≤ 9) = 0) → xfR 0 (-1) ∧ xKZ = xKZ ∧ Q (-1) H) ∧ (¬ (xb (0 ≤ w ∧ w ≤ 9) = 0) → xWM (xE X) xMC d 19 [(0, u), (0, 0), (0, 23)] xKZ H _)
      refine ⟨fun k_ => ?_, fun k_ => ?_⟩
      · replace h := h.2 (xbe_0.mp k_)
        exact ⟨trivial, rfl, h⟩
      · replace h := h.1 (xbe_1.mp k_)
        refine xc_in (s_19 (by omega) u 0 23 H  ?_)
        replace h := h
        show xq X d 200 Q 41 [(0, (2, 0)), (1, (0, s)), (2, (0, c)), (3, (0, w)), (4, (0, u))] [(0, xb (0 ≤ u ∧ u ≤ 23))] H
        refine xq_run [4, 18, 30, 41, 61] 300 ?_
        show ((¬ xb (0 ≤ u ∧ u ≤ 23) = 0) → xWM (xE X) xMC d 199 [(2, 12), (0, s), (0, c), (0, w), (0, u)] xKZ H _) ∧ (¬ (¬ xb (0 ≤ u ∧ u ≤ 23) = 0) → xfR 0 (-1) ∧ xKZ = xKZ ∧ Q (-1) H)
        refine ⟨fun k_ => ?_, fun k_ => ?_⟩
        · replace h := h.1 (xbe_1.mp k_)
          refine xc_in (s_199 (by omega) s c w u H (h.1) (h.2.1) ?_)
          replace h := h.2.2
          show xq X d 200 Q 61 [(0, (2, 0)), (1, (0, s)), (2, (0, c)), (3, (0, w)), (4, (0, u))] [(0, if H 14 s < 20 then H 14 s + 1 else (-1))] (stC H s c w u)
          refine xq_run [4, 18, 30, 41, 61] 300 ?_
          show xfR 0 (if H 14 s < 20 then H 14 s + 1 else (-1)) ∧ xKZ = xKZ ∧ Q (if H 14 s < 20 then H 14 s + 1 else (-1)) (stC H s c w u)
          exact ⟨trivial, rfl, h⟩
        · replace h := h.2 (xbe_n.mp k_)
          exact ⟨trivial, rfl, h⟩
    · replace h := h.2 (xbe_n.mp k_)
      exact ⟨trivial, rfl, h⟩

set_option maxRecDepth 4000 in
theorem U_201 {X : Int × (Int → Int)} {d : Nat} {Q : Int → XH → Prop} (hd : 2 ≤ d) (s c w u : Int) (H : XH) (h : ((((0 ≤ s ∧ s ≤ 3)) → (-2147483648 < H 67 1 ∧ H 67 1 ≤ 2147483647) ∧ ((((0 ≤ c ∧ c < H 67 1)) → ((((0 ≤ w ∧ w ≤ 9)) → ((((0 ≤ u ∧ u ≤ 23)) → (xI (610 + s)) ∧ ((0 : Int) ≤ 610 + s ∧ (610 + s : Int) < 1180) ∧ ((¬ H 68 (610 + s) = 20) → (xI (60 * s)) ∧ (xI (620 + (60 * s))) ∧ (xI (610 + s)) ∧ ((0 : Int) ≤ 610 + s ∧ (610 + s : Int) < 1180) ∧ (xI (3 * (H 68 (610 + s)))) ∧ (xI ((620 + (60 * s)) + (3 * (H 68 (610 + s))))) ∧ ((0 : Int) ≤ (620 + (60 * s)) + (3 * (H 68 (610 + s))) ∧ ((620 + (60 * s)) + (3 * (H 68 (610 + s))) : Int) < 1180) ∧ (xI (((620 + (60 * s)) + (3 * (H 68 (610 + s)))) + 1)) ∧ ((0 : Int) ≤ ((620 + (60 * s)) + (3 * (H 68 (610 + s)))) + 1 ∧ (((620 + (60 * s)) + (3 * (H 68 (610 + s)))) + 1 : Int) < 1180) ∧ (xI (((620 + (60 * s)) + (3 * (H 68 (610 + s)))) + 2)) ∧ ((0 : Int) ≤ ((620 + (60 * s)) + (3 * (H 68 (610 + s)))) + 2 ∧ (((620 + (60 * s)) + (3 * (H 68 (610 + s)))) + 2 : Int) < 1180) ∧ (xI (610 + s)) ∧ ((0 : Int) ≤ 610 + s ∧ (610 + s : Int) < 1180) ∧ (xI (((xup (xup (xup H 68 ((620 + (60 * s)) + (3 * (H 68 (610 + s)))) c) 68 (((620 + (60 * s)) + (3 * (H 68 (610 + s)))) + 1) w) 68 (((620 + (60 * s)) + (3 * (H 68 (610 + s)))) + 2) u) 68 (610 + s)) + 1)) ∧ ((0 : Int) ≤ 610 + s ∧ (610 + s : Int) < 1180) ∧ (xI (610 + s)) ∧ ((0 : Int) ≤ 610 + s ∧ (610 + s : Int) < 1180) ∧ Q ((xup (xup (xup (xup H 68 ((620 + (60 * s)) + (3 * (H 68 (610 + s)))) c) 68 (((620 + (60 * s)) + (3 * (H 68 (610 + s)))) + 1) w) 68 (((620 + (60 * s)) + (3 * (H 68 (610 + s)))) + 2) u) 68 (610 + s) (((xup (xup (xup H 68 ((620 + (60 * s)) + (3 * (H 68 (610 + s)))) c) 68 (((620 + (60 * s)) + (3 * (H 68 (610 + s)))) + 1) w) 68 (((620 + (60 * s)) + (3 * (H 68 (610 + s)))) + 2) u) 68 (610 + s)) + 1)) 68 (610 + s)) (xup (xup (xup (xup H 68 ((620 + (60 * s)) + (3 * (H 68 (610 + s)))) c) 68 (((620 + (60 * s)) + (3 * (H 68 (610 + s)))) + 1) w) 68 (((620 + (60 * s)) + (3 * (H 68 (610 + s)))) + 2) u) 68 (610 + s) (((xup (xup (xup H 68 ((620 + (60 * s)) + (3 * (H 68 (610 + s)))) c) 68 (((620 + (60 * s)) + (3 * (H 68 (610 + s)))) + 1) w) 68 (((620 + (60 * s)) + (3 * (H 68 (610 + s)))) + 2) u) 68 (610 + s)) + 1))) ∧ (¬ (¬ H 68 (610 + s) = 20) → Q (-1) H)) ∧ (¬ ((0 ≤ u ∧ u ≤ 23)) → Q (-1) H))) ∧ (¬ ((0 ≤ w ∧ w ≤ 9)) → Q (-1) H))) ∧ (¬ ((0 ≤ c ∧ c < H 67 1)) → Q (-1) H))) ∧ (¬ ((0 ≤ s ∧ s ≤ 3)) → Q (-1) H))) : xc X (d + 1) 201 [(2, 67), (0, s), (0, c), (0, w), (0, u)] H Q := by
  refine ⟨rfl, ?_⟩
  show xq X d 201 Q 100000 [(0, (2, 67)), (1, (0, s)), (2, (0, c)), (3, (0, w)), (4, (0, u))] [] H
  refine xq_run [6, 14, 24, 35] 300 ?_
  show xWM (xE X) xMC d 23 [(0, s), (0, 0), (0, 3)] xKZ H _
  refine xc_in (s_23 (by omega) s 0 3 H  ?_)
  replace h := h
  show xq X d 201 Q 6 [(0, (2, 67)), (1, (0, s)), (2, (0, c)), (3, (0, w)), (4, (0, u))] [(0, xb (0 ≤ s ∧ s ≤ 3))] H
  refine xq_run [6, 14, 24, 35] 300 ?_
  show ((xb (0 ≤ s ∧ s ≤ 3) = 0) → xfR 0 (-1) ∧ xKZ = xKZ ∧ Q (-1) H) ∧ (¬ (xb (0 ≤ s ∧ s ≤ 3) = 0) → xWM (xE X) xMC d 24 [(2, 67), (0, c)] xKZ H _)
  refine ⟨fun k_ => ?_, fun k_ => ?_⟩
  · replace h := h.2 (xbe_0.mp k_)
    exact ⟨trivial, rfl, h⟩
  · replace h := h.1 (xbe_1.mp k_)
    refine xc_in (s_24 (by omega) c H (h.1) ?_)
    replace h := h.2
    show xq X d 201 Q 14 [(0, (2, 67)), (1, (0, s)), (2, (0, c)), (3, (0, w)), (4, (0, u))] [(0, xb (0 ≤ c ∧ c < H 67 1))] H
    refine xq_run [6, 14, 24, 35] 300 ?_
    show ((xb (0 ≤ c ∧ c < H 67 1) = 0) → xfR 0 (-1) ∧ xKZ = xKZ ∧ Q (-1) H) ∧ (¬ (xb (0 ≤ c ∧ c < H 67 1) = 0) → xWM (xE X) xMC d 23 [(0, w), (0, 0), (0, 9)] xKZ H _)
    refine ⟨fun k_ => ?_, fun k_ => ?_⟩
    · replace h := h.2 (xbe_0.mp k_)
      exact ⟨trivial, rfl, h⟩
    · replace h := h.1 (xbe_1.mp k_)
      refine xc_in (s_23 (by omega) w 0 9 H  ?_)
      replace h := h
      show xq X d 201 Q 24 [(0, (2, 67)), (1, (0, s)), (2, (0, c)), (3, (0, w)), (4, (0, u))] [(0, xb (0 ≤ w ∧ w ≤ 9))] H
      refine xq_run [6, 14, 24, 35] 300 ?_
      show ((xb (0 ≤ w ∧ w ≤ 9) = 0) → xfR 0 (-1) ∧ xKZ = xKZ ∧ Q (-1) H) ∧ (¬ (xb (0 ≤ w ∧ w ≤ 9) = 0) → xWM (xE X) xMC d 23 [(0, u), (0, 0), (0, 23)] xKZ H _)
      refine ⟨fun k_ => ?_, fun k_ => ?_⟩
      · replace h := h.2 (xbe_0.mp k_)
        exact ⟨trivial, rfl, h⟩
      · replace h := h.1 (xbe_1.mp k_)
        refine xc_in (s_23 (by omega) u 0 23 H  ?_)
        replace h := h
        show xq X d 201 Q 35 [(0, (2, 67)), (1, (0, s)), (2, (0, c)), (3, (0, w)), (4, (0, u))] [(0, xb (0 ≤ u ∧ u ≤ 23))] H
        refine xq_run [6, 14, 24, 35] 300 ?_
        show ((xb (0 ≤ u ∧ u ≤ 23) = 0) → xfR 0 (-1) ∧ xKZ = xKZ ∧ Q (-1) H) ∧ (¬ (xb (0 ≤ u ∧ u ≤ 23) = 0) → (xI (610 + s)) ∧ ((0 : Int) ≤ 610 + s ∧ (610 + s : Int) < 1180) ∧ ((¬ H 68 (610 + s) = 20) → (xI (60 * s)) ∧ (xI (620 + (60 * s))) ∧ (xI (610 + s)) ∧ ((0 : Int) ≤ 610 + s ∧ (610 + s : Int) < 1180) ∧ (xI (3 * (H 68 (610 + s)))) ∧ (xI ((620 + (60 * s)) + (3 * (H 68 (610 + s))))) ∧ ((0 : Int) ≤ (620 + (60 * s)) + (3 * (H 68 (610 + s))) ∧ ((620 + (60 * s)) + (3 * (H 68 (610 + s))) : Int) < 1180) ∧ (xI (((620 + (60 * s)) + (3 * (H 68 (610 + s)))) + 1)) ∧ ((0 : Int) ≤ ((620 + (60 * s)) + (3 * (H 68 (610 + s)))) + 1 ∧ (((620 + (60 * s)) + (3 * (H 68 (610 + s)))) + 1 : Int) < 1180) ∧ (xI (((620 + (60 * s)) + (3 * (H 68 (610 + s)))) + 2)) ∧ ((0 : Int) ≤ ((620 + (60 * s)) + (3 * (H 68 (610 + s)))) + 2 ∧ (((620 + (60 * s)) + (3 * (H 68 (610 + s)))) + 2 : Int) < 1180) ∧ (xI (610 + s)) ∧ ((0 : Int) ≤ 610 + s ∧ (610 + s : Int) < 1180) ∧ (xI (((xup (xup (xup H 68 ((620 + (60 * s)) + (3 * (H 68 (610 + s)))) c) 68 (((620 + (60 * s)) + (3 * (H 68 (610 + s)))) + 1) w) 68 (((620 + (60 * s)) + (3 * (H 68 (610 + s)))) + 2) u) 68 (610 + s)) + 1)) ∧ ((0 : Int) ≤ 610 + s ∧ (610 + s : Int) < 1180) ∧ (xI (610 + s)) ∧ ((0 : Int) ≤ 610 + s ∧ (610 + s : Int) < 1180) ∧ xfR 0 ((xup (xup (xup (xup H 68 ((620 + (60 * s)) + (3 * (H 68 (610 + s)))) c) 68 (((620 + (60 * s)) + (3 * (H 68 (610 + s)))) + 1) w) 68 (((620 + (60 * s)) + (3 * (H 68 (610 + s)))) + 2) u) 68 (610 + s) (((xup (xup (xup H 68 ((620 + (60 * s)) + (3 * (H 68 (610 + s)))) c) 68 (((620 + (60 * s)) + (3 * (H 68 (610 + s)))) + 1) w) 68 (((620 + (60 * s)) + (3 * (H 68 (610 + s)))) + 2) u) 68 (610 + s)) + 1)) 68 (610 + s)) ∧ xKZ = xKZ ∧ Q ((xup (xup (xup (xup H 68 ((620 + (60 * s)) + (3 * (H 68 (610 + s)))) c) 68 (((620 + (60 * s)) + (3 * (H 68 (610 + s)))) + 1) w) 68 (((620 + (60 * s)) + (3 * (H 68 (610 + s)))) + 2) u) 68 (610 + s) (((xup (xup (xup H 68 ((620 + (60 * s)) + (3 * (H 68 (610 + s)))) c) 68 (((620 + (60 * s)) + (3 * (H 68 (610 + s)))) + 1) w) 68 (((620 + (60 * s)) + (3 * (H 68 (610 + s)))) + 2) u) 68 (610 + s)) + 1)) 68 (610 + s)) (xup (xup (xup (xup H 68 ((620 + (60 * s)) + (3 * (H 68 (610 + s)))) c) 68 (((620 + (60 * s)) + (3 * (H 68 (610 + s)))) + 1) w) 68 (((620 + (60 * s)) + (3 * (H 68 (610 + s)))) + 2) u) 68 (610 + s) (((xup (xup (xup H 68 ((620 + (60 * s)) + (3 * (H 68 (610 + s)))) c) 68 (((620 + (60 * s)) + (3 * (H 68 (610 + s)))) + 1) w) 68 (((620 + (60 * s)) + (3 * (H 68 (610 + s)))) + 2) u) 68 (610 + s)) + 1))) ∧ (¬ (¬ H 68 (610 + s) = 20) → xfR 0 (-1) ∧ xKZ = xKZ ∧ Q (-1) H))
        refine ⟨fun k_ => ?_, fun k_ => ?_⟩
        · replace h := h.2 (xbe_0.mp k_)
          exact ⟨trivial, rfl, h⟩
        · replace h := h.1 (xbe_1.mp k_)
          refine ⟨h.1, ?_⟩
          replace h := h.2
          refine ⟨h.1, ?_⟩
          replace h := h.2
          refine ⟨fun k_ => ?_, fun k_ => ?_⟩
          · replace h := h.1 k_
            refine ⟨h.1, ?_⟩
            replace h := h.2
            refine ⟨h.1, ?_⟩
            replace h := h.2
            refine ⟨h.1, ?_⟩
            replace h := h.2
            refine ⟨h.1, ?_⟩
            replace h := h.2
            refine ⟨h.1, ?_⟩
            replace h := h.2
            refine ⟨h.1, ?_⟩
            replace h := h.2
            refine ⟨h.1, ?_⟩
            replace h := h.2
            refine ⟨h.1, ?_⟩
            replace h := h.2
            refine ⟨h.1, ?_⟩
            replace h := h.2
            refine ⟨h.1, ?_⟩
            replace h := h.2
            refine ⟨h.1, ?_⟩
            replace h := h.2
            refine ⟨h.1, ?_⟩
            replace h := h.2
            refine ⟨h.1, ?_⟩
            replace h := h.2
            refine ⟨h.1, ?_⟩
            replace h := h.2
            refine ⟨h.1, ?_⟩
            replace h := h.2
            refine ⟨h.1, ?_⟩
            replace h := h.2
            refine ⟨h.1, ?_⟩
            replace h := h.2
            exact ⟨trivial, rfl, h⟩
          · replace h := h.2 k_
            exact ⟨trivial, rfl, h⟩
