/-! THE PURE LAYER 3: the land, the class -/
theorem U_34 {X : Int × (Int → Int)} {d : Nat} {Q : Int → XH → Prop} (hd : 1 ≤ d) (c e : Int) (H : XH) (h : ((1 ≤ H 2 0) → (¬ H 2 0 = 0 ∧ xI (Int.tdiv c (H 2 0))) ∧ (¬ H 2 0 = 0 ∧ xI (Int.tdiv e (H 2 0))) ∧ (xI ((Int.tmod c (H 2 0)) - (Int.tmod e (H 2 0)))) ∧ (-2147483648 < ((Int.tmod c (H 2 0)) - (Int.tmod e (H 2 0))) ∧ ((Int.tmod c (H 2 0)) - (Int.tmod e (H 2 0))) ≤ 2147483647) ∧ ((¬ H 2 0 = 0 ∧ xI (Int.tdiv c (H 2 0))) ∧ (¬ H 2 0 = 0 ∧ xI (Int.tdiv e (H 2 0))) ∧ (xI ((Int.tdiv c (H 2 0)) - (Int.tdiv e (H 2 0)))) ∧ (-2147483648 < ((Int.tdiv c (H 2 0)) - (Int.tdiv e (H 2 0))) ∧ ((Int.tdiv c (H 2 0)) - (Int.tdiv e (H 2 0))) ≤ 2147483647) ∧ ((xI ((iabs ((Int.tmod c (H 2 0)) - (Int.tmod e (H 2 0)))) + (iabs ((Int.tdiv c (H 2 0)) - (Int.tdiv e (H 2 0)))))) ∧ Q ((iabs ((Int.tmod c (H 2 0)) - (Int.tmod e (H 2 0)))) + (iabs ((Int.tdiv c (H 2 0)) - (Int.tdiv e (H 2 0))))) H))) ∧ (¬ (1 ≤ H 2 0) → Q 0 H)) : xc X (d + 1) 34 [(2, 2), (0, c), (0, e)] H Q := by
  refine ⟨rfl, ?_⟩
  show xq X d 34 Q 100000 [(0, (2, 2)), (1, (0, c)), (2, (0, e))] [] H
  refine xq_run [26, 42] 300 ?_
  show ((1 ≤ H 2 0) → (¬ H 2 0 = 0 ∧ xI (Int.tdiv c (H 2 0))) ∧ (¬ H 2 0 = 0 ∧ xI (Int.tdiv e (H 2 0))) ∧ (xI ((Int.tmod c (H 2 0)) - (Int.tmod e (H 2 0)))) ∧ xWM (xE X) xMC d 33 [(0, (Int.tmod c (H 2 0)) - (Int.tmod e (H 2 0)))] xKZ H _) ∧ (¬ (1 ≤ H 2 0) → xfR 0 0 ∧ xKZ = xKZ ∧ Q 0 H)
  refine ⟨fun k_ => ?_, fun k_ => ?_⟩
  · replace h := h.1 k_
    refine ⟨h.1, ?_⟩
    replace h := h.2
    refine ⟨h.1, ?_⟩
    replace h := h.2
    refine ⟨h.1, ?_⟩
    replace h := h.2
    refine xc_in (s_33 (by omega) ((Int.tmod c (H 2 0)) - (Int.tmod e (H 2 0))) H (h.1) ?_)
    replace h := h.2
    show xq X d 34 Q 26 [(0, (2, 2)), (1, (0, c)), (2, (0, e))] [(0, iabs ((Int.tmod c (H 2 0)) - (Int.tmod e (H 2 0))))] H
    refine xq_run [26, 42] 300 ?_
    show (¬ H 2 0 = 0 ∧ xI (Int.tdiv c (H 2 0))) ∧ (¬ H 2 0 = 0 ∧ xI (Int.tdiv e (H 2 0))) ∧ (xI ((Int.tdiv c (H 2 0)) - (Int.tdiv e (H 2 0)))) ∧ xWM (xE X) xMC d 33 [(0, (Int.tdiv c (H 2 0)) - (Int.tdiv e (H 2 0)))] xKZ H _
    refine ⟨h.1, ?_⟩
    replace h := h.2
    refine ⟨h.1, ?_⟩
    replace h := h.2
    refine ⟨h.1, ?_⟩
    replace h := h.2
    refine xc_in (s_33 (by omega) ((Int.tdiv c (H 2 0)) - (Int.tdiv e (H 2 0))) H (h.1) ?_)
    replace h := h.2
    show xq X d 34 Q 42 [(0, (2, 2)), (1, (0, c)), (2, (0, e))] [(0, iabs ((Int.tdiv c (H 2 0)) - (Int.tdiv e (H 2 0)))), (0, iabs ((Int.tmod c (H 2 0)) - (Int.tmod e (H 2 0))))] H
    refine xq_run [26, 42] 300 ?_
    show (xI ((iabs ((Int.tmod c (H 2 0)) - (Int.tmod e (H 2 0)))) + (iabs ((Int.tdiv c (H 2 0)) - (Int.tdiv e (H 2 0)))))) ∧ xfR 0 ((iabs ((Int.tmod c (H 2 0)) - (Int.tmod e (H 2 0)))) + (iabs ((Int.tdiv c (H 2 0)) - (Int.tdiv e (H 2 0))))) ∧ xKZ = xKZ ∧ Q ((iabs ((Int.tmod c (H 2 0)) - (Int.tmod e (H 2 0)))) + (iabs ((Int.tdiv c (H 2 0)) - (Int.tdiv e (H 2 0))))) H
    refine ⟨h.1, ?_⟩
    replace h := h.2
    exact ⟨trivial, rfl, h⟩
  · replace h := h.2 k_
    exact ⟨trivial, rfl, h⟩

theorem s_34 {X : Int × (Int → Int)} {d : Nat} {Q : Int → XH → Prop} (hd : 2 ≤ d) (c e : Int) (H : XH) (p0 : 1 ≤ H 2 0 ∧ H 2 0 ≤ 8) (p1 : 0 ≤ c ∧ c < 64) (p2 : 0 ≤ e ∧ e < 64) (hQ : Q (btw (H 2 0) c e) H) : xc X d 34 [(2, 2), (0, c), (0, e)] H Q := by
  cases d with
  | zero => omega
  | succ d =>
  have h1 := xdm p1.1 p0.1
  have h2 := xdm p2.1 p0.1
  refine U_34 (by omega) c e H ?_
  refine ⟨fun c1 => ?_, fun c1 => ?_⟩
  · skip
    refine ⟨?_, ?_⟩
    · first | omega | (refine ⟨?_, ?_⟩ <;> unfold xI <;> omega) | (unfold xI; omega) | (unfold xI iabs; split <;> split <;> omega)
    refine ⟨?_, ?_⟩
    · first | omega | (refine ⟨?_, ?_⟩ <;> unfold xI <;> omega) | (unfold xI; omega) | (unfold xI iabs; split <;> split <;> omega)
    refine ⟨?_, ?_⟩
    · first | omega | (refine ⟨?_, ?_⟩ <;> unfold xI <;> omega) | (unfold xI; omega) | (unfold xI iabs; split <;> split <;> omega)
    refine ⟨?_, ?_⟩
    · first | omega | (refine ⟨?_, ?_⟩ <;> unfold xI <;> omega) | (unfold xI; omega) | (unfold xI iabs; split <;> split <;> omega)
    refine ⟨?_, ?_⟩
    · first | omega | (refine ⟨?_, ?_⟩ <;> unfold xI <;> omega) | (unfold xI; omega) | (unfold xI iabs; split <;> split <;> omega)
    refine ⟨?_, ?_⟩
    · first | omega | (refine ⟨?_, ?_⟩ <;> unfold xI <;> omega) | (unfold xI; omega) | (unfold xI iabs; split <;> split <;> omega)
    refine ⟨?_, ?_⟩
    · first | omega | (refine ⟨?_, ?_⟩ <;> unfold xI <;> omega) | (unfold xI; omega) | (unfold xI iabs; split <;> split <;> omega)
    refine ⟨?_, ?_⟩
    · first | omega | (refine ⟨?_, ?_⟩ <;> unfold xI <;> omega) | (unfold xI; omega) | (unfold xI iabs; split <;> split <;> omega)
    refine ⟨?_, ?_⟩
    · first | omega | (refine ⟨?_, ?_⟩ <;> unfold xI <;> omega) | (unfold xI; omega) | (unfold xI iabs; split <;> split <;> omega)
    first | exact xQr hQ rfl | omega
  · skip
    first | exact xQr hQ rfl | omega

theorem U_35 {X : Int × (Int → Int)} {d : Nat} {Q : Int → XH → Prop} (hd : 0 ≤ d) (c : Int) (H : XH) (h : xq X d 35 Q 4 [(0, (2, 2)), (1, (0, c)), (2, (0, (-1))), (3, (0, 0))] [] H) : xc X (d + 1) 35 [(2, 2), (0, c)] H Q := by
  refine ⟨rfl, ?_⟩
  show xq X d 35 Q 100000 [(0, (2, 2)), (1, (0, c))] [] H
  refine xq_run [4, 30] 300 ?_
  show xq X d 35 Q 4 [(0, (2, 2)), (1, (0, c)), (2, (0, (-1))), (3, (0, 0))] [] H
  exact h
theorem U_35_4 {X : Int × (Int → Int)} {d : Nat} {Q : Int → XH → Prop} (hd : 2 ≤ d) (v1 v2 v3 : Int) (H : XH) (h : ((H 2 2 ≤ v3) → Q v2 H) ∧ (¬ (H 2 2 ≤ v3) → ((0 : Int) ≤ v3 ∧ (v3 : Int) < 64) ∧ ((¬ H 4 v3 = 0) → (1 ≤ H 2 0 ∧ H 2 0 ≤ 8) ∧ (0 ≤ v1 ∧ v1 < 64) ∧ (0 ≤ v3 ∧ v3 < 64) ∧ (((v2 = (-1)) → (xI (v3 + 1)) ∧ xq X d 35 Q 4 [(0, (2, 2)), (1, (0, v1)), (2, (0, btw (H 2 0) v1 v3)), (3, (0, v3 + 1))] [] H) ∧ (¬ (v2 = (-1)) → ((v2 ≤ btw (H 2 0) v1 v3) → (xI (v3 + 1)) ∧ xq X d 35 Q 4 [(0, (2, 2)), (1, (0, v1)), (2, (0, v2)), (3, (0, v3 + 1))] [] H) ∧ (¬ (v2 ≤ btw (H 2 0) v1 v3) → (xI (v3 + 1)) ∧ xq X d 35 Q 4 [(0, (2, 2)), (1, (0, v1)), (2, (0, btw (H 2 0) v1 v3)), (3, (0, v3 + 1))] [] H)))) ∧ (¬ (¬ H 4 v3 = 0) → (xI (v3 + 1)) ∧ xq X d 35 Q 4 [(0, (2, 2)), (1, (0, v1)), (2, (0, v2)), (3, (0, v3 + 1))] [] H))) : xq X d 35 Q 4 [(0, (2, 2)), (1, (0, v1)), (2, (0, v2)), (3, (0, v3))] [] H := by
  show xq X d 35 Q 4 [(0, (2, 2)), (1, (0, v1)), (2, (0, v2)), (3, (0, v3))] [] H
  refine xq_run [4, 30] 300 ?_
  show ((H 2 2 ≤ v3) → xfR 0 v2 ∧ xKZ = xKZ ∧ Q v2 H) ∧ (¬ (H 2 2 ≤ v3) → ((0 : Int) ≤ v3 ∧ (v3 : Int) < 64) ∧ ((¬ H 4 v3 = 0) → xWM (xE X) xMC d 34 [(2, 2), (0, v1), (0, v3)] xKZ H _) ∧ (¬ (¬ H 4 v3 = 0) → (xI (v3 + 1)) ∧ xq X d 35 Q 4 [(0, (2, 2)), (1, (0, v1)), (2, (0, v2)), (3, (0, v3 + 1))] [] H))
  refine ⟨fun k_ => ?_, fun k_ => ?_⟩
  · replace h := h.1 k_
    exact ⟨trivial, rfl, h⟩
  · replace h := h.2 k_
    refine ⟨h.1, ?_⟩
    replace h := h.2
    refine ⟨fun k_ => ?_, fun k_ => ?_⟩
    · replace h := h.1 k_
      refine xc_in (s_34 (by omega) v1 v3 H (h.1) (h.2.1) (h.2.2.1) ?_)
      replace h := h.2.2.2
      show xq X d 35 Q 30 [(0, (2, 2)), (1, (0, v1)), (2, (0, v2)), (3, (0, v3))] [(0, btw (H 2 0) v1 v3)] H
      refine xq_run [4, 30] 300 ?_
      show ((v2 = (-1)) → (xI (v3 + 1)) ∧ xq X d 35 Q 4 [(0, (2, 2)), (1, (0, v1)), (2, (0, btw (H 2 0) v1 v3)), (3, (0, v3 + 1))] [] H) ∧ (¬ (v2 = (-1)) → ((v2 ≤ btw (H 2 0) v1 v3) → (xI (v3 + 1)) ∧ xq X d 35 Q 4 [(0, (2, 2)), (1, (0, v1)), (2, (0, v2)), (3, (0, v3 + 1))] [] H) ∧ (¬ (v2 ≤ btw (H 2 0) v1 v3) → (xI (v3 + 1)) ∧ xq X d 35 Q 4 [(0, (2, 2)), (1, (0, v1)), (2, (0, btw (H 2 0) v1 v3)), (3, (0, v3 + 1))] [] H))
      refine ⟨fun k_ => ?_, fun k_ => ?_⟩
      · replace h := h.1 k_
        refine ⟨h.1, ?_⟩
        replace h := h.2
        exact h
      · replace h := h.2 k_
        refine ⟨fun k_ => ?_, fun k_ => ?_⟩
        · replace h := h.1 k_
          refine ⟨h.1, ?_⟩
          replace h := h.2
          exact h
        · replace h := h.2 k_
          refine ⟨h.1, ?_⟩
          replace h := h.2
          exact h
    · replace h := h.2 k_
      refine ⟨h.1, ?_⟩
      replace h := h.2
      exact h
