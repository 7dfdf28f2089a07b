/-! THE PURE LAYER 3: the land, the class -/
theorem U_34 {X : Int × (Int → Int)} {d : Nat} {Q : Int → XH → Prop} (hd : 1 ≤ d) (c e : Int) (H : XH) (h : ((1 ≤ H 2 0) → (¬ H 2 0 = 0 ∧ xI (Int.tdiv c (H 2 0))) ∧ (¬ H 2 0 = 0 ∧ xI (Int.tdiv e (H 2 0))) ∧ (xI ((Int.tmod c (H 2 0)) - (Int.tmod e (H 2 0)))) ∧ (-2147483648 < ((Int.tmod c (H 2 0)) - (Int.tmod e (H 2 0))) ∧ ((Int.tmod c (H 2 0)) - (Int.tmod e (H 2 0))) ≤ 2147483647) ∧ ((¬ H 2 0 = 0 ∧ xI (Int.tdiv c (H 2 0))) ∧ (¬ H 2 0 = 0 ∧ xI (Int.tdiv e (H 2 0))) ∧ (xI ((Int.tdiv c (H 2 0)) - (Int.tdiv e (H 2 0)))) ∧ (-2147483648 < ((Int.tdiv c (H 2 0)) - (Int.tdiv e (H 2 0))) ∧ ((Int.tdiv c (H 2 0)) - (Int.tdiv e (H 2 0))) ≤ 2147483647) ∧ ((xI ((iabs ((Int.tmod c (H 2 0)) - (Int.tmod e (H 2 0)))) + (iabs ((Int.tdiv c (H 2 0)) - (Int.tdiv e (H 2 0)))))) ∧ Q ((iabs ((Int.tmod c (H 2 0)) - (Int.tmod e (H 2 0)))) + (iabs ((Int.tdiv c (H 2 0)) - (Int.tdiv e (H 2 0))))) H))) ∧ (¬ (1 ≤ H 2 0) → Q 0 H)) : xc X (d + 1) 34 [(2, 2), (0, c), (0, e)] H Q := by
  refine ⟨rfl, ?_⟩
  show xq X d 34 Q 100000 [(0, (2, 2)), (1, (0, c)), (2, (0, e))] [] H
  refine xq_run [26, 42] 300 ?_
  show ((1 ≤ H 2 0) → (¬ H 2 0 = 0 ∧ xI (Int.tdiv c (H 2 0))) ∧ (¬ H 2 0 = 0 ∧ xI (Int.tdiv e (H 2 0))) ∧ (xI ((Int.tmod c (H 2 0)) - (Int.tmod e (H 2 0)))) ∧ xWM (xE X) xMC d 33 [(0, (Int.tmod c (H 2 0)) - (Int.tmod e (H 2 0)))] xKZ H _) ∧ (¬ (1 ≤ H 2 0) → xfR 0 0 ∧ xKZ = xKZ ∧ Q 0 H)
  refine ⟨fun k_ => ?_, fun k_ => ?_⟩
  · replace h := h.1 k_
    refine ⟨h.1, ?_⟩
    replace h := h.2
    refine ⟨h.1, ?_⟩
    replace h := h.2
    refine ⟨h.1, ?_⟩
    replace h := h.2
    refine xc_in (s_33 (by omega) ((Int.tmod c (H 2 0)) - (Int.tmod e (H 2 0))) H (h.1) ?_)
    replace h := h.2
    show xq X d 34 Q 26 [(0, (2, 2)), (1, (0, c)), (2, (0, e))] [(0, iabs ((Int.tmod c (H 2 0)) - (Int.tmod e (H 2 0))))] H
    refine xq_run [26, 42] 300 ?_
    show (¬ H 2 0 = 0 ∧ xI (Int.tdiv c (H 2 0))) ∧ (¬ H 2 0 = 0 ∧ xI (Int.tdiv e (H 2 0))) ∧ (xI ((Int.tdiv c (H 2 0)) - (Int.tdiv e (H 2 0)))) ∧ xWM (xE X) xMC d 33 [(0, (Int.tdiv c (H 2 0)) - (Int.tdiv e (H 2 0)))] xKZ H _
    refine ⟨h.1, ?_⟩
    replace h := h.2
    refine ⟨h.1, ?_⟩
    replace h := h.2
    refine ⟨h.1, ?_⟩
    replace h := h.2
    refine xc_in (s_33 (by omega) ((Int.tdiv c (H 2 0)) - (Int.tdiv e (H 2 0))) H (h.1) ?_)
    replace h := h.2
    show xq X d 34 Q 42 [(0, (2, 2)), (1, (0, c)), (2, (0, e))] [(0, iabs ((Int.tdiv c (H 2 0)) - (Int.tdiv e (H 2 0)))), (0, iabs ((Int.tmod c (H 2 0)) - (Int.tmod e (H 2 0))))] H
    refine xq_run [26, 42] 300 ?_
    show (xI ((iabs ((Int.tmod c (H 2 0)) - (Int.tmod e (H 2 0)))) + (iabs ((Int.tdiv c (H 2 0)) - (Int.tdiv e (H 2 0)))))) ∧ xfR 0 ((iabs ((Int.tmod c (H 2 0)) - (Int.tmod e (H 2 0)))) + (iabs ((Int.tdiv c (H 2 0)) - (Int.tdiv e (H 2 0))))) ∧ xKZ = xKZ ∧ Q ((iabs ((Int.tmod c (H 2 0)) - (Int.tmod e (H 2 0)))) + (iabs ((Int.tdiv c (H 2 0)) - (Int.tdiv e (H 2 0))))) H
    refine ⟨h.1, ?_⟩
    replace h := h.2
    exact ⟨trivial, rfl, h⟩
  · replace h := h.2 k_
    exact ⟨trivial, rfl, h⟩

theorem s_34 {X : Int × (Int → Int)} {d : Nat} {Q : Int → XH → Prop} (hd : 2 ≤ d) (c e : Int) (H : XH) (p0 : 1 ≤ H 2 0 ∧ H 2 0 ≤ 8) (p1 : 0 ≤ c ∧ c < 64) (p2 : 0 ≤ e ∧ e < 64) (hQ : Q (btw (H 2 0) c e) H) : xc X d 34 [(2, 2), (0, c), (0, e)] H Q := by
  cases d with
  | zero => omega
  | succ d =>
  have h1 := xdm p1.1 p0.1
  have h2 := xdm p2.1 p0.1
  refine U_34 (by omega) c e H ?_
  refine ⟨fun c1 => ?_, fun c1 => ?_⟩
  · skip
    refine ⟨?_, ?_⟩
    · first | omega | (refine ⟨?_, ?_⟩ <;> unfold xI <;> omega) | (unfold xI; omega) | (unfold xI iabs; split <;> split <;> omega)
    refine ⟨?_, ?_⟩
    · first | omega | (refine ⟨?_, ?_⟩ <;> unfold xI <;> omega) | (unfold xI; omega) | (unfold xI iabs; split <;> split <;> omega)
    refine ⟨?_, ?_⟩
    · first | omega | (refine ⟨?_, ?_⟩ <;> unfold xI <;> omega) | (unfold xI; omega) | (unfold xI iabs; split <;> split <;> omega)
    refine ⟨?_, ?_⟩
    · first | omega | (refine ⟨?_, ?_⟩ <;> unfold xI <;> omega) | (unfold xI; omega) | (unfold xI iabs; split <;> split <;> omega)
    refine ⟨?_, ?_⟩
    · first | omega | (refine ⟨?_, ?_⟩ <;> unfold xI <;> omega) | (unfold xI; omega) | (unfold xI iabs; split <;> split <;> omega)
    refine ⟨?_, ?_⟩
    · first | omega | (refine ⟨?_, ?_⟩ <;> unfold xI <;> omega) | (unfold xI; omega) | (unfold xI iabs; split <;> split <;> omega)
    refine ⟨?_, ?_⟩
    · first | omega | (refine ⟨?_, ?_⟩ <;> unfold xI <;> omega) | (unfold xI; omega) | (unfold xI iabs; split <;> split <;> omega)
    refine ⟨?_, ?_⟩
    · first | omega | (refine ⟨?_, ?_⟩ <;> unfold xI <;> omega) | (unfold xI; omega) | (unfold xI iabs; split <;> split <;> omega)
    refine ⟨?_, ?_⟩
    · first | omega | (refine ⟨?_, ?_⟩ <;> unfold xI <;> omega) | (unfold xI; omega) | (unfold xI iabs; split <;> split <;> omega)
    first | exact xQr hQ rfl | omega
  · skip
    first | exact xQr hQ rfl | omega

theorem U_35 {X : Int × (Int → Int)} {d : Nat} {Q : Int → XH → Prop} (hd : 0 ≤ d) (c : Int) (H : XH) (h : xq X d 35 Q 4 [(0, (2, 2)), (1, (0, c)), (2, (0, (-1))), (3, (0, 0))] [] H) : xc X (d + 1) 35 [(2, 2), (0, c)] H Q := by
  refine ⟨rfl, ?_⟩
  show xq X d 35 Q 100000 [(0, (2, 2)), (1, (0, c))] [] H
  refine xq_run [4, 30] 300 ?_
  show xq X d 35 Q 4 [(0, (2, 2)), (1, (0, c)), (2, (0, (-1))), (3, (0, 0))] [] H
  exact h
theorem U_35_4 {X : Int × (Int → Int)} {d : Nat} {Q : Int → XH → Prop} (hd : 2 ≤ d) (v1 v2 v3 : Int) (H : XH) (h : ((H 2 2 ≤ v3) → Q v2 H) ∧ (¬ (H 2 2 ≤ v3) → ((0 : Int) ≤ v3 ∧ (v3 : Int) < 64) ∧ ((¬ H 4 v3 = 0) → (1 ≤ H 2 0 ∧ H 2 0 ≤ 8) ∧ (0 ≤ v1 ∧ v1 < 64) ∧ (0 ≤ v3 ∧ v3 < 64) ∧ (((v2 = (-1)) → (xI (v3 + 1)) ∧ xq X d 35 Q 4 [(0, (2, 2)), (1, (0, v1)), (2, (0, btw (H 2 0) v1 v3)), (3, (0, v3 + 1))] [] H) ∧ (¬ (v2 = (-1)) → ((v2 ≤ btw (H 2 0) v1 v3) → (xI (v3 + 1)) ∧ xq X d 35 Q 4 [(0, (2, 2)), (1, (0, v1)), (2, (0, v2)), (3, (0, v3 + 1))] [] H) ∧ (¬ (v2 ≤ btw (H 2 0) v1 v3) → (xI (v3 + 1)) ∧ xq X d 35 Q 4 [(0, (2, 2)), (1, (0, v1)), (2, (0, btw (H 2 0) v1 v3)), (3, (0, v3 + 1))] [] H)))) ∧ (¬ (¬ H 4 v3 = 0) → (xI (v3 + 1)) ∧ xq X d 35 Q 4 [(0, (2, 2)), (1, (0, v1)), (2, (0, v2)), (3, (0, v3 + 1))] [] H))) : xq X d 35 Q 4 [(0, (2, 2)), (1, (0, v1)), (2, (0, v2)), (3, (0, v3))] [] H := by
  show xq X d 35 Q 4 [(0, (2, 2)), (1, (0, v1)), (2, (0, v2)), (3, (0, v3))] [] H
  refine xq_run [4, 30] 300 ?_
  show ((H 2 2 ≤ v3) → xfR 0 v2 ∧ xKZ = xKZ ∧ Q v2 H) ∧ (¬ (H 2 2 ≤ v3) → ((0 : Int) ≤ v3 ∧ (v3 : Int) < 64) ∧ ((¬ H 4 v3 = 0) → xWM (xE X) xMC d 34 [(2, 2), (0, v1), (0, v3)] xKZ H _) ∧ (¬ (¬ H 4 v3 = 0) → (xI (v3 + 1)) ∧ xq X d 35 Q 4 [(0, (2, 2)), (1, (0, v1)), (2, (0, v2)), (3, (0, v3 + 1))] [] H))
  refine ⟨fun k_ => ?_, fun k_ => ?_⟩
  · replace h := h.1 k_
    exact ⟨trivial, rfl, h⟩
  · replace h := h.2 k_
    refine ⟨h.1, ?_⟩
    replace h := h.2
    refine ⟨fun k_ => ?_, fun k_ => ?_⟩
    · replace h := h.1 k_
      refine xc_in (s_34 (by omega) v1 v3 H (h.1) (h.2.1) (h.2.2.1) ?_)
      replace h := h.2.2.2
      show xq X d 35 Q 30 [(0, (2, 2)), (1, (0, v1)), (2, (0, v2)), (3, (0, v3))] [(0, btw (H 2 0) v1 v3)] H
      refine xq_run [4, 30] 300 ?_
      show ((v2 = (-1)) → (xI (v3 + 1)) ∧ xq X d 35 Q 4 [(0, (2, 2)), (1, (0, v1)), (2, (0, btw (H 2 0) v1 v3)), (3, (0, v3 + 1))] [] H) ∧ (¬ (v2 = (-1)) → ((v2 ≤ btw (H 2 0) v1 v3) → (xI (v3 + 1)) ∧ xq X d 35 Q 4 [(0, (2, 2)), (1, (0, v1)), (2, (0, v2)), (3, (0, v3 + 1))] [] H) ∧ (¬ (v2 ≤ btw (H 2 0) v1 v3) → (xI (v3 + 1)) ∧ xq X d 35 Q 4 [(0, (2, 2)), (1, (0, v1)), (2, (0, btw (H 2 0) v1 v3)), (3, (0, v3 + 1))] [] H))
      refine ⟨fun k_ => ?_, fun k_ => ?_⟩
      · replace h := h.1 k_
        refine ⟨h.1, ?_⟩
        replace h := h.2
        exact h
      · replace h := h.2 k_
        refine ⟨fun k_ => ?_, fun k_ => ?_⟩
        · replace h := h.1 k_
          refine ⟨h.1, ?_⟩
          replace h := h.2
          exact h
        · replace h := h.2 k_
          refine ⟨h.1, ?_⟩
          replace h := h.2
          exact h
    · replace h := h.2 k_
      refine ⟨h.1, ?_⟩
      replace h := h.2
      exact h

theorem s_35 {X : Int × (Int → Int)} {d : Nat} {Q : Int → XH → Prop} (hd : 3 ≤ d) (c : Int) (H : XH) (pw : 1 ≤ H 2 0 ∧ H 2 0 ≤ 8) (pn : 0 ≤ H 2 2 ∧ H 2 2 ≤ 64) (pc : 0 ≤ c ∧ c < 64) (hQ : Q (nrS (H 2 0) (H 2 2) (fun e => H 4 e) c) H) : xc X d 35 [(2, 2), (0, c)] H Q := by
  cases d with
  | zero => omega
  | succ d =>
  refine U_35 (by omega) c H ?_
  have key : ∀ o m, 0 ≤ o → Q (xfor (nrF (H 2 0) (fun e => H 4 e) c) o (H 2 2) m) H → xq X d 35 Q 4 [(0, (2, 2)), (1, (0, c)), (2, (0, m)), (3, (0, o))] [] H := by
    intro o m
    refine xloop (nrF (H 2 0) (fun e => H 4 e) c) (H 2 2) (fun o m => 0 ≤ o → Q (xfor (nrF (H 2 0) (fun e => H 4 e) c) o (H 2 2) m) H → xq X d 35 Q 4 [(0, (2, 2)), (1, (0, c)), (2, (0, m)), (3, (0, o))] [] H) ?_ ?_ o m
    · intro o m hb h0 hQ
      rw [xfor_end hb] at hQ
      exact U_35_4 (by omega) c m o H ⟨fun _ => hQ, fun q => absurd hb q⟩
    · intro o m hb ih h0 hQ
      rw [xfor_step hb] at hQ
      have k := ih (by omega) hQ
      have hI : xI (o + 1) := by unfold xI; omega
      refine U_35_4 (by omega) c m o H ⟨fun q => absurd q (by omega), fun _ => ⟨⟨h0, by omega⟩, fun q => ⟨pw, pc, ⟨h0, by omega⟩, fun e1 => ⟨hI, ?_⟩, fun e1 => ⟨fun e2 => ⟨hI, ?_⟩, fun e2 => ⟨hI, ?_⟩⟩⟩, fun q => ⟨hI, ?_⟩⟩⟩
      · rw [show nrF (H 2 0) (fun e => H 4 e) c o m = btw (H 2 0) c o by unfold nrF; rw [if_neg q, if_pos (Or.inl e1)]] at k
        exact k
      · rw [show nrF (H 2 0) (fun e => H 4 e) c o m = m by unfold nrF; rw [if_neg q, if_neg (by omega)]] at k
        exact k
      · rw [show nrF (H 2 0) (fun e => H 4 e) c o m = btw (H 2 0) c o by unfold nrF; rw [if_neg q, if_pos (Or.inr (by omega))]] at k
        exact k
      · rw [show nrF (H 2 0) (fun e => H 4 e) c o m = m by unfold nrF; rw [if_pos (Classical.not_not.mp q)]] at k
        exact k
  exact key 0 (-1) (Int.le_refl _) hQ

theorem U_32 {X : Int × (Int → Int)} {d : Nat} {Q : Int → XH → Prop} (hd : 0 ≤ d) (c : Int) (H : XH) (h : xq X d 32 Q 4 [(0, (2, 2)), (2, (0, c)), (3, (0, 0))] [] H) : xc X (d + 1) 32 [(2, 2), (0, c)] H Q := by
  refine ⟨rfl, ?_⟩
  show xq X d 32 Q 100000 [(0, (2, 2)), (1, (0, c))] [] H
  refine xq_run [4, 29] 300 ?_
  show xq X d 32 Q 4 [(0, (2, 2)), (2, (0, c)), (3, (0, 0))] [] H
  exact h
theorem U_32_4 {X : Int × (Int → Int)} {d : Nat} {Q : Int → XH → Prop} (hd : 1 ≤ d) (v2 v3 : Int) (H : XH) (h : ((64 ≤ v3) → Q v2 H) ∧ (¬ (64 ≤ v3) → ((0 : Int) ≤ v2 ∧ (v2 : Int) < 64) ∧ ((¬ H 4 v2 = 0) → Q v2 H) ∧ (¬ (¬ H 4 v2 = 0) → ((0 : Int) ≤ v2 ∧ (v2 : Int) < 64) ∧ ((((0 ≤ (H 5 v2) ∧ (H 5 v2) < H 2 2)) → ((0 : Int) ≤ v2 ∧ (v2 : Int) < 64) ∧ (xI (v3 + 1)) ∧ xq X d 32 Q 4 [(0, (2, 2)), (2, (0, H 5 v2)), (3, (0, v3 + 1))] [] H) ∧ (¬ ((0 ≤ (H 5 v2) ∧ (H 5 v2) < H 2 2)) → Q v2 H))))) : xq X d 32 Q 4 [(0, (2, 2)), (2, (0, v2)), (3, (0, v3))] [] H := by
  show xq X d 32 Q 4 [(0, (2, 2)), (2, (0, v2)), (3, (0, v3))] [] H
  refine xq_run [4, 29] 300 ?_
  show ((64 ≤ v3) → xfR 0 v2 ∧ xKZ = xKZ ∧ Q v2 H) ∧ (¬ (64 ≤ v3) → ((0 : Int) ≤ v2 ∧ (v2 : Int) < 64) ∧ ((¬ H 4 v2 = 0) → xfR 0 v2 ∧ xKZ = xKZ ∧ Q v2 H) ∧ (¬ (¬ H 4 v2 = 0) → ((0 : Int) ≤ v2 ∧ (v2 : Int) < 64) ∧ xWM (xE X) xMC d 18 [(2, 2), (0, H 5 v2)] xKZ H _))
  refine ⟨fun k_ => ?_, fun k_ => ?_⟩
  · replace h := h.1 k_
    exact ⟨trivial, rfl, h⟩
  · replace h := h.2 k_
    refine ⟨h.1, ?_⟩
    replace h := h.2
    refine ⟨fun k_ => ?_, fun k_ => ?_⟩
    · replace h := h.1 k_
      exact ⟨trivial, rfl, h⟩
    · replace h := h.2 k_
      refine ⟨h.1, ?_⟩
      replace h := h.2
      refine xc_in (s_18 (by omega) (H 5 v2) H  ?_)
      replace h := h
      show xq X d 32 Q 29 [(0, (2, 2)), (2, (0, v2)), (3, (0, v3))] [(0, xb (0 ≤ (H 5 v2) ∧ (H 5 v2) < H 2 2))] H
      refine xq_run [4, 29] 300 ?_
      show ((xb (0 ≤ (H 5 v2) ∧ (H 5 v2) < H 2 2) = 0) → xfR 0 v2 ∧ xKZ = xKZ ∧ Q v2 H) ∧ (¬ (xb (0 ≤ (H 5 v2) ∧ (H 5 v2) < H 2 2) = 0) → ((0 : Int) ≤ v2 ∧ (v2 : Int) < 64) ∧ (xI (v3 + 1)) ∧ xq X d 32 Q 4 [(0, (2, 2)), (2, (0, H 5 v2)), (3, (0, v3 + 1))] [] H)
      refine ⟨fun k_ => ?_, fun k_ => ?_⟩
      · replace h := h.2 (xbe_0.mp k_)
        exact ⟨trivial, rfl, h⟩
      · replace h := h.1 (xbe_1.mp k_)
        refine ⟨h.1, ?_⟩
        replace h := h.2
        refine ⟨h.1, ?_⟩
        replace h := h.2
        exact h

theorem U_36 {X : Int × (Int → Int)} {d : Nat} {Q : Int → XH → Prop} (hd : 0 ≤ d) (t : Int) (a : Int) (H : XH) (h : ((t < 0) → Q 0 H) ∧ (¬ (t < 0) → (xI (t + 5)) ∧ (1 ≤ xTy xKZ a ∧ xTy xKZ a ≤ 5) ∧ ((t + 5 ≤ xLen xKZ a) → xq X d 36 Q 18 [(0, (2, a)), (1, (0, t)), (2, (0, 0)), (3, (0, 0))] [] H) ∧ (¬ (t + 5 ≤ xLen xKZ a) → Q 0 H))) : xc X (d + 1) 36 [(2, a), (0, t)] H Q := by
  refine ⟨rfl, ?_⟩
  show xq X d 36 Q 100000 [(0, (2, a)), (1, (0, t))] [] H
  refine xq_run [18] 300 ?_
  show ((t < 0) → xfR 0 0 ∧ xKZ = xKZ ∧ Q 0 H) ∧ (¬ (t < 0) → (xI (t + 5)) ∧ (1 ≤ xTy xKZ a ∧ xTy xKZ a ≤ 5) ∧ ((t + 5 ≤ xLen xKZ a) → xq X d 36 Q 18 [(0, (2, a)), (1, (0, t)), (2, (0, 0)), (3, (0, 0))] [] H) ∧ (¬ (t + 5 ≤ xLen xKZ a) → xfR 0 0 ∧ xKZ = xKZ ∧ Q 0 H))
  refine ⟨fun k_ => ?_, fun k_ => ?_⟩
  · replace h := h.1 k_
    exact ⟨trivial, rfl, h⟩
  · replace h := h.2 k_
    refine ⟨h.1, ?_⟩
    replace h := h.2
    refine ⟨h.1, ?_⟩
    replace h := h.2
    refine ⟨fun k_ => ?_, fun k_ => ?_⟩
    · replace h := h.1 k_
      exact h
    · replace h := h.2 k_
      exact ⟨trivial, rfl, h⟩
theorem U_36_18 {X : Int × (Int → Int)} {d : Nat} {Q : Int → XH → Prop} (hd : 0 ≤ d) (v1 v2 v3 : Int) (a : Int) (H : XH) (h : ((5 ≤ v3) → Q v2 H) ∧ (¬ (5 ≤ v3) → (xI (v1 + v3)) ∧ ((0 : Int) ≤ v1 + v3 ∧ (v1 + v3 : Int) < xLn xKZ a 1) ∧ (xI (v2 + (H a (v1 + v3)))) ∧ (xI (v3 + 1)) ∧ xq X d 36 Q 18 [(0, (2, a)), (1, (0, v1)), (2, (0, v2 + (H a (v1 + v3)))), (3, (0, v3 + 1))] [] H)) : xq X d 36 Q 18 [(0, (2, a)), (1, (0, v1)), (2, (0, v2)), (3, (0, v3))] [] H := by
  show xq X d 36 Q 18 [(0, (2, a)), (1, (0, v1)), (2, (0, v2)), (3, (0, v3))] [] H
  refine xq_run [18] 300 ?_
  show ((5 ≤ v3) → xfR 0 v2 ∧ xKZ = xKZ ∧ Q v2 H) ∧ (¬ (5 ≤ v3) → (xI (v1 + v3)) ∧ ((0 : Int) ≤ v1 + v3 ∧ (v1 + v3 : Int) < xLn xKZ a 1) ∧ (xI (v2 + (H a (v1 + v3)))) ∧ (xI (v3 + 1)) ∧ xq X d 36 Q 18 [(0, (2, a)), (1, (0, v1)), (2, (0, v2 + (H a (v1 + v3)))), (3, (0, v3 + 1))] [] H)
  refine ⟨fun k_ => ?_, fun k_ => ?_⟩
  · replace h := h.1 k_
    exact ⟨trivial, rfl, h⟩
  · replace h := h.2 k_
    refine ⟨h.1, ?_⟩
    replace h := h.2
    refine ⟨h.1, ?_⟩
    replace h := h.2
    refine ⟨h.1, ?_⟩
    replace h := h.2
    refine ⟨h.1, ?_⟩
    replace h := h.2
    exact h

theorem U_40 {X : Int × (Int → Int)} {d : Nat} {Q : Int → XH → Prop} (hd : 0 ≤ d) (x : Int) (H : XH) (h : ((0 ≤ x) → Q x H) ∧ (¬ (0 ≤ x) → (xI (-x)) ∧ Q (-x) H)) : xc X (d + 1) 40 [(0, x)] H Q := by
  refine ⟨rfl, ?_⟩
  show xq X d 40 Q 100000 [(0, (0, x))] [] H
  refine xq_run [] 300 ?_
  show ((0 ≤ x) → xfR 0 x ∧ xKZ = xKZ ∧ Q x H) ∧ (¬ (0 ≤ x) → (xI (-x)) ∧ xfR 0 (-x) ∧ xKZ = xKZ ∧ Q (-x) H)
  refine ⟨fun k_ => ?_, fun k_ => ?_⟩
  · replace h := h.1 k_
    exact ⟨trivial, rfl, h⟩
  · replace h := h.2 k_
    refine ⟨h.1, ?_⟩
    replace h := h.2
    exact ⟨trivial, rfl, h⟩

theorem s_40 {X : Int × (Int → Int)} {d : Nat} {Q : Int → XH → Prop} (hd : 1 ≤ d) (x : Int) (H : XH) (p0 : -2147483648 < x ∧ x ≤ 2147483647) (hQ : Q (iabs x) H) : xc X d 40 [(0, x)] H Q := by
  cases d with
  | zero => omega
  | succ d =>
  refine U_40 (by omega) x H ?_
  refine ⟨fun c1 => ?_, fun c1 => ?_⟩
  · skip
    exact xQr hQ (by unfold iabs; split <;> omega)
  · skip
    refine ⟨?_, ?_⟩
    · unfold xI; omega
    exact xQr hQ (by unfold iabs; split <;> omega)

theorem U_24 {X : Int × (Int → Int)} {d : Nat} {Q : Int → XH → Prop} (hd : 1 ≤ d) (c : Int) (H : XH) (h : (xI ((H 67 1) - 1)) ∧ (Q (xb (0 ≤ c ∧ c ≤ ((H 67 1) - 1))) H)) : xc X (d + 1) 24 [(2, 67), (0, c)] H Q := by
  refine ⟨rfl, ?_⟩
  show xq X d 24 Q 100000 [(0, (2, 67)), (1, (0, c))] [] H
  refine xq_run [11] 300 ?_
  show (xI ((H 67 1) - 1)) ∧ xWM (xE X) xMC d 23 [(0, c), (0, 0), (0, (H 67 1) - 1)] xKZ H _
  refine ⟨h.1, ?_⟩
  replace h := h.2
  refine xc_in (s_23 (by omega) c 0 ((H 67 1) - 1) H  ?_)
  replace h := h
  show xq X d 24 Q 11 [(0, (2, 67)), (1, (0, c))] [(0, xb (0 ≤ c ∧ c ≤ ((H 67 1) - 1)))] H
  refine xq_run [11] 300 ?_
  show xfR 3 (xb (0 ≤ c ∧ c ≤ ((H 67 1) - 1))) ∧ xKZ = xKZ ∧ Q (xb (0 ≤ c ∧ c ≤ ((H 67 1) - 1))) H
  exact ⟨xfR3_b, rfl, h⟩

theorem s_24 {X : Int × (Int → Int)} {d : Nat} {Q : Int → XH → Prop} (hd : 2 ≤ d) (c : Int) (H : XH) (p0 : -2147483648 < H 67 1 ∧ H 67 1 ≤ 2147483647) (hQ : Q (xb (0 ≤ c ∧ c < H 67 1)) H) : xc X d 24 [(2, 67), (0, c)] H Q := by
  cases d with
  | zero => omega
  | succ d =>
  refine U_24 (by omega) c H ?_
  refine ⟨?_, ?_⟩
  · unfold xI; omega
  exact xQr hQ (by unfold xb; split <;> split <;> omega)

theorem U_41 {X : Int × (Int → Int)} {d : Nat} {Q : Int → XH → Prop} (hd : 1 ≤ d) (c e : Int) (H : XH) (h : (¬ H 67 0 = 0 ∧ xI (Int.tdiv c (H 67 0))) ∧ (¬ H 67 0 = 0 ∧ xI (Int.tdiv e (H 67 0))) ∧ (xI ((Int.tmod c (H 67 0)) - (Int.tmod e (H 67 0)))) ∧ (-2147483648 < ((Int.tmod c (H 67 0)) - (Int.tmod e (H 67 0))) ∧ ((Int.tmod c (H 67 0)) - (Int.tmod e (H 67 0))) ≤ 2147483647) ∧ ((¬ H 67 0 = 0 ∧ xI (Int.tdiv c (H 67 0))) ∧ (¬ H 67 0 = 0 ∧ xI (Int.tdiv e (H 67 0))) ∧ (xI ((Int.tdiv c (H 67 0)) - (Int.tdiv e (H 67 0)))) ∧ (-2147483648 < ((Int.tdiv c (H 67 0)) - (Int.tdiv e (H 67 0))) ∧ ((Int.tdiv c (H 67 0)) - (Int.tdiv e (H 67 0))) ≤ 2147483647) ∧ ((xI ((iabs ((Int.tmod c (H 67 0)) - (Int.tmod e (H 67 0)))) + (iabs ((Int.tdiv c (H 67 0)) - (Int.tdiv e (H 67 0)))))) ∧ Q ((iabs ((Int.tmod c (H 67 0)) - (Int.tmod e (H 67 0)))) + (iabs ((Int.tdiv c (H 67 0)) - (Int.tdiv e (H 67 0))))) H))) : xc X (d + 1) 41 [(2, 67), (0, c), (0, e)] H Q := by
  refine ⟨rfl, ?_⟩
  show xq X d 41 Q 100000 [(0, (2, 67)), (1, (0, c)), (2, (0, e))] [] H
  refine xq_run [16, 32] 300 ?_
  show (¬ H 67 0 = 0 ∧ xI (Int.tdiv c (H 67 0))) ∧ (¬ H 67 0 = 0 ∧ xI (Int.tdiv e (H 67 0))) ∧ (xI ((Int.tmod c (H 67 0)) - (Int.tmod e (H 67 0)))) ∧ xWM (xE X) xMC d 40 [(0, (Int.tmod c (H 67 0)) - (Int.tmod e (H 67 0)))] xKZ H _
  refine ⟨h.1, ?_⟩
  replace h := h.2
  refine ⟨h.1, ?_⟩
  replace h := h.2
  refine ⟨h.1, ?_⟩
  replace h := h.2
  refine xc_in (s_40 (by omega) ((Int.tmod c (H 67 0)) - (Int.tmod e (H 67 0))) H (h.1) ?_)
  replace h := h.2
  show xq X d 41 Q 16 [(0, (2, 67)), (1, (0, c)), (2, (0, e))] [(0, iabs ((Int.tmod c (H 67 0)) - (Int.tmod e (H 67 0))))] H
  refine xq_run [16, 32] 300 ?_
  show (¬ H 67 0 = 0 ∧ xI (Int.tdiv c (H 67 0))) ∧ (¬ H 67 0 = 0 ∧ xI (Int.tdiv e (H 67 0))) ∧ (xI ((Int.tdiv c (H 67 0)) - (Int.tdiv e (H 67 0)))) ∧ xWM (xE X) xMC d 40 [(0, (Int.tdiv c (H 67 0)) - (Int.tdiv e (H 67 0)))] xKZ H _
  refine ⟨h.1, ?_⟩
  replace h := h.2
  refine ⟨h.1, ?_⟩
  replace h := h.2
  refine ⟨h.1, ?_⟩
  replace h := h.2
  refine xc_in (s_40 (by omega) ((Int.tdiv c (H 67 0)) - (Int.tdiv e (H 67 0))) H (h.1) ?_)
  replace h := h.2
  show xq X d 41 Q 32 [(0, (2, 67)), (1, (0, c)), (2, (0, e))] [(0, iabs ((Int.tdiv c (H 67 0)) - (Int.tdiv e (H 67 0)))), (0, iabs ((Int.tmod c (H 67 0)) - (Int.tmod e (H 67 0))))] H
  refine xq_run [16, 32] 300 ?_
  show (xI ((iabs ((Int.tmod c (H 67 0)) - (Int.tmod e (H 67 0)))) + (iabs ((Int.tdiv c (H 67 0)) - (Int.tdiv e (H 67 0)))))) ∧ xfR 0 ((iabs ((Int.tmod c (H 67 0)) - (Int.tmod e (H 67 0)))) + (iabs ((Int.tdiv c (H 67 0)) - (Int.tdiv e (H 67 0))))) ∧ xKZ = xKZ ∧ Q ((iabs ((Int.tmod c (H 67 0)) - (Int.tmod e (H 67 0)))) + (iabs ((Int.tdiv c (H 67 0)) - (Int.tdiv e (H 67 0))))) H
  refine ⟨h.1, ?_⟩
  replace h := h.2
  exact ⟨trivial, rfl, h⟩

theorem s_41 {X : Int × (Int → Int)} {d : Nat} {Q : Int → XH → Prop} (hd : 2 ≤ d) (c e : Int) (H : XH) (p0 : 1 ≤ H 67 0 ∧ H 67 0 ≤ 8) (p1 : 0 ≤ c ∧ c < 64) (p2 : 0 ≤ e ∧ e < 64) (hQ : Q (btw (H 67 0) c e) H) : xc X d 41 [(2, 67), (0, c), (0, e)] H Q := by
  cases d with
  | zero => omega
  | succ d =>
  have h1 := xdm p1.1 p0.1
  have h2 := xdm p2.1 p0.1
  refine U_41 (by omega) c e H ?_
  refine ⟨?_, ?_⟩
  · first | omega | (refine ⟨?_, ?_⟩ <;> unfold xI <;> omega) | (unfold xI; omega) | (unfold xI iabs; split <;> split <;> omega)
  refine ⟨?_, ?_⟩
  · first | omega | (refine ⟨?_, ?_⟩ <;> unfold xI <;> omega) | (unfold xI; omega) | (unfold xI iabs; split <;> split <;> omega)
  refine ⟨?_, ?_⟩
  · first | omega | (refine ⟨?_, ?_⟩ <;> unfold xI <;> omega) | (unfold xI; omega) | (unfold xI iabs; split <;> split <;> omega)
  refine ⟨?_, ?_⟩
  · first | omega | (refine ⟨?_, ?_⟩ <;> unfold xI <;> omega) | (unfold xI; omega) | (unfold xI iabs; split <;> split <;> omega)
  refine ⟨?_, ?_⟩
  · first | omega | (refine ⟨?_, ?_⟩ <;> unfold xI <;> omega) | (unfold xI; omega) | (unfold xI iabs; split <;> split <;> omega)
  refine ⟨?_, ?_⟩
  · first | omega | (refine ⟨?_, ?_⟩ <;> unfold xI <;> omega) | (unfold xI; omega) | (unfold xI iabs; split <;> split <;> omega)
  refine ⟨?_, ?_⟩
  · first | omega | (refine ⟨?_, ?_⟩ <;> unfold xI <;> omega) | (unfold xI; omega) | (unfold xI iabs; split <;> split <;> omega)
  refine ⟨?_, ?_⟩
  · first | omega | (refine ⟨?_, ?_⟩ <;> unfold xI <;> omega) | (unfold xI; omega) | (unfold xI iabs; split <;> split <;> omega)
  refine ⟨?_, ?_⟩
  · first | omega | (refine ⟨?_, ?_⟩ <;> unfold xI <;> omega) | (unfold xI; omega) | (unfold xI iabs; split <;> split <;> omega)
  first | exact xQr hQ rfl | omega

theorem U_42 {X : Int × (Int → Int)} {d : Nat} {Q : Int → XH → Prop} (hd : 0 ≤ d) (c : Int) (H : XH) (h : xq X d 42 Q 4 [(0, (2, 67)), (1, (0, c)), (2, (0, (-1))), (3, (0, 0))] [] H) : xc X (d + 1) 42 [(2, 67), (0, c)] H Q := by
  refine ⟨rfl, ?_⟩
  show xq X d 42 Q 100000 [(0, (2, 67)), (1, (0, c))] [] H
  refine xq_run [4, 37, 47] 300 ?_
  show xq X d 42 Q 4 [(0, (2, 67)), (1, (0, c)), (2, (0, (-1))), (3, (0, 0))] [] H
  exact h
theorem U_42_4 {X : Int × (Int → Int)} {d : Nat} {Q : Int → XH → Prop} (hd : 2 ≤ d) (v1 v2 v3 : Int) (H : XH) (h : ((H 67 1 ≤ v3) → Q v2 H) ∧ (¬ (H 67 1 ≤ v3) → (xI (160 + v3)) ∧ ((0 : Int) ≤ 160 + v3 ∧ (160 + v3 : Int) < 1180) ∧ ((¬ H 68 (160 + v3) = 1) → (xI (v3 + 1)) ∧ xq X d 42 Q 4 [(0, (2, 67)), (1, (0, v1)), (2, (0, v2)), (3, (0, v3 + 1))] [] H) ∧ (¬ (¬ H 68 (160 + v3) = 1) → ((v2 = (-1)) → (1 ≤ H 67 0 ∧ H 67 0 ≤ 8) ∧ (0 ≤ v3 ∧ v3 < 64) ∧ (0 ≤ v1 ∧ v1 < 64) ∧ ((xI (v3 + 1)) ∧ xq X d 42 Q 4 [(0, (2, 67)), (1, (0, v1)), (2, (0, btw (H 67 0) v3 v1)), (3, (0, v3 + 1))] [] H)) ∧ (¬ (v2 = (-1)) → (1 ≤ H 67 0 ∧ H 67 0 ≤ 8) ∧ (0 ≤ v3 ∧ v3 < 64) ∧ (0 ≤ v1 ∧ v1 < 64) ∧ (((v2 ≤ btw (H 67 0) v3 v1) → (xI (v3 + 1)) ∧ xq X d 42 Q 4 [(0, (2, 67)), (1, (0, v1)), (2, (0, v2)), (3, (0, v3 + 1))] [] H) ∧ (¬ (v2 ≤ btw (H 67 0) v3 v1) → (1 ≤ H 67 0 ∧ H 67 0 ≤ 8) ∧ (0 ≤ v3 ∧ v3 < 64) ∧ (0 ≤ v1 ∧ v1 < 64) ∧ ((xI (v3 + 1)) ∧ xq X d 42 Q 4 [(0, (2, 67)), (1, (0, v1)), (2, (0, btw (H 67 0) v3 v1)), (3, (0, v3 + 1))] [] H))))))) : xq X d 42 Q 4 [(0, (2, 67)), (1, (0, v1)), (2, (0, v2)), (3, (0, v3))] [] H := by
  show xq X d 42 Q 4 [(0, (2, 67)), (1, (0, v1)), (2, (0, v2)), (3, (0, v3))] [] H
  refine xq_run [4, 37, 47] 300 ?_
  show ((H 67 1 ≤ v3) → xfR 0 v2 ∧ xKZ = xKZ ∧ Q v2 H) ∧ (¬ (H 67 1 ≤ v3) → (xI (160 + v3)) ∧ ((0 : Int) ≤ 160 + v3 ∧ (160 + v3 : Int) < 1180) ∧ ((¬ H 68 (160 + v3) = 1) → (xI (v3 + 1)) ∧ xq X d 42 Q 4 [(0, (2, 67)), (1, (0, v1)), (2, (0, v2)), (3, (0, v3 + 1))] [] H) ∧ (¬ (¬ H 68 (160 + v3) = 1) → ((v2 = (-1)) → xWM (xE X) xMC d 41 [(2, 67), (0, v3), (0, v1)] xKZ H _) ∧ (¬ (v2 = (-1)) → xWM (xE X) xMC d 41 [(2, 67), (0, v3), (0, v1)] xKZ H _)))
  refine ⟨fun k_ => ?_, fun k_ => ?_⟩
  · replace h := h.1 k_
    exact ⟨trivial, rfl, h⟩
  · replace h := h.2 k_
    refine ⟨h.1, ?_⟩
    replace h := h.2
    refine ⟨h.1, ?_⟩
    replace h := h.2
    refine ⟨fun k_ => ?_, fun k_ => ?_⟩
    · replace h := h.1 k_
      refine ⟨h.1, ?_⟩
      replace h := h.2
      exact h
    · replace h := h.2 k_
      refine ⟨fun k_ => ?_, fun k_ => ?_⟩
      · replace h := h.1 k_
        refine xc_in (s_41 (by omega) v3 v1 H (h.1) (h.2.1) (h.2.2.1) ?_)
        replace h := h.2.2.2
        show xq X d 42 Q 47 [(0, (2, 67)), (1, (0, v1)), (2, (0, v2)), (3, (0, v3))] [(0, btw (H 67 0) v3 v1)] H
        refine xq_run [4, 37, 47] 300 ?_
        show (xI (v3 + 1)) ∧ xq X d 42 Q 4 [(0, (2, 67)), (1, (0, v1)), (2, (0, btw (H 67 0) v3 v1)), (3, (0, v3 + 1))] [] H
        refine ⟨h.1, ?_⟩
        replace h := h.2
        exact h
      · replace h := h.2 k_
        refine xc_in (s_41 (by omega) v3 v1 H (h.1) (h.2.1) (h.2.2.1) ?_)
        replace h := h.2.2.2
        show xq X d 42 Q 37 [(0, (2, 67)), (1, (0, v1)), (2, (0, v2)), (3, (0, v3))] [(0, btw (H 67 0) v3 v1)] H
        refine xq_run [4, 37, 47] 300 ?_
        show ((v2 ≤ btw (H 67 0) v3 v1) → (xI (v3 + 1)) ∧ xq X d 42 Q 4 [(0, (2, 67)), (1, (0, v1)), (2, (0, v2)), (3, (0, v3 + 1))] [] H) ∧ (¬ (v2 ≤ btw (H 67 0) v3 v1) → xWM (xE X) xMC d 41 [(2, 67), (0, v3), (0, v1)] xKZ H _)
        refine ⟨fun k_ => ?_, fun k_ => ?_⟩
        · replace h := h.1 k_
          refine ⟨h.1, ?_⟩
          replace h := h.2
          exact h
        · replace h := h.2 k_
          refine xc_in (s_41 (by omega) v3 v1 H (h.1) (h.2.1) (h.2.2.1) ?_)
          replace h := h.2.2.2
          show xq X d 42 Q 47 [(0, (2, 67)), (1, (0, v1)), (2, (0, v2)), (3, (0, v3))] [(0, btw (H 67 0) v3 v1)] H
          refine xq_run [4, 37, 47] 300 ?_
          show (xI (v3 + 1)) ∧ xq X d 42 Q 4 [(0, (2, 67)), (1, (0, v1)), (2, (0, btw (H 67 0) v3 v1)), (3, (0, v3 + 1))] [] H
          refine ⟨h.1, ?_⟩
          replace h := h.2
          exact h

theorem s_32 {X : Int × (Int → Int)} {d : Nat} {Q : Int → XH → Prop} (hd : 2 ≤ d) (c : Int) (H : XH) (pn : 0 ≤ H 2 2 ∧ H 2 2 ≤ 64) (pc : 0 ≤ c ∧ c < H 2 2) (hQ : Q (srcS (H 2 2) (fun e => H 4 e) (fun e => H 5 e) 64 c) H) : xc X d 32 [(2, 2), (0, c)] H Q := by
  cases d with
  | zero => omega
  | succ d =>
  refine U_32 (by omega) c H ?_
  have key : ∀ (k : Nat) (j c : Int), j = 64 - (k : Int) → k ≤ 64 → 0 ≤ c ∧ c < H 2 2 → Q (srcS (H 2 2) (fun e => H 4 e) (fun e => H 5 e) k c) H → xq X d 32 Q 4 [(0, (2, 2)), (2, (0, c)), (3, (0, j))] [] H := by
    intro k
    induction k with
    | zero =>
      intro j c hj hk hc hQ
      exact U_32_4 (by omega) c j H ⟨fun _ => hQ, fun q => absurd (by omega) q⟩
    | succ k ih =>
      intro j c hj hk hc hQ
      refine U_32_4 (by omega) c j H ⟨fun q => absurd q (by omega), fun _ => ⟨⟨hc.1, by omega⟩, fun q => ?_, fun q => ⟨⟨hc.1, by omega⟩, fun e => ⟨⟨hc.1, by omega⟩, by unfold xI; omega, ?_⟩, fun e => ?_⟩⟩⟩
      · unfold srcS at hQ
        rw [if_neg q] at hQ
        exact hQ
      · unfold srcS at hQ
        rw [if_pos (Classical.not_not.mp q), if_pos e] at hQ
        exact ih (j + 1) (H 5 c) (by omega) (by omega) e hQ
      · unfold srcS at hQ
        rw [if_pos (Classical.not_not.mp q), if_neg e] at hQ
        exact hQ
  exact key 64 0 c (by omega) (by omega) pc hQ
theorem s_36 {X : Int × (Int → Int)} {d : Nat} {Q : Int → XH → Prop} (hd : 1 ≤ d) (a t : Int) (H : XH) (n : Int) (pa : xTy xKZ a = 1) (pl : xLen xKZ a = n) (pt : 0 ≤ t ∧ t + 5 ≤ n) (pn : n ≤ 100000) (pb : ∀ s, 0 ≤ s → s < 5 → 0 ≤ H a (t + s) ∧ H a (t + s) ≤ 100000) (hQ : Q (sum5 (H a) t) H) : xc X d 36 [(2, a), (0, t)] H Q := by
  cases d with
  | zero => omega
  | succ d =>
  have hln : xLn xKZ a 1 = n := by unfold xLn; rw [pa]; exact pl
  refine U_36 (by omega) t a H ⟨fun q => absurd q (by omega), fun _ => ⟨by unfold xI; omega, ⟨by omega, by omega⟩, fun _ => ?_, fun q => absurd (by omega) q⟩⟩
  rw [← sum5_for] at hQ
  have key : ∀ i acc, 0 ≤ i → 0 ≤ acc ∧ acc ≤ 100000 * i → Q (xfor (fun s acc => acc + H a (t + s)) i 5 acc) H → xq X d 36 Q 18 [(0, (2, a)), (1, (0, t)), (2, (0, acc)), (3, (0, i))] [] H := by
    intro i acc
    refine xloop (fun s acc => acc + H a (t + s)) 5 (fun i acc => 0 ≤ i → 0 ≤ acc ∧ acc ≤ 100000 * i → Q (xfor (fun s acc => acc + H a (t + s)) i 5 acc) H → xq X d 36 Q 18 [(0, (2, a)), (1, (0, t)), (2, (0, acc)), (3, (0, i))] [] H) ?_ ?_ i acc
    · intro i acc hb h0 hac hQ
      rw [xfor_end hb] at hQ
      exact U_36_18 (by omega) t acc i a H ⟨fun _ => hQ, fun q => absurd hb q⟩
    · intro i acc hb ih h0 hac hQ
      rw [xfor_step hb] at hQ
      have hb2 := pb i h0 hb
      exact U_36_18 (by omega) t acc i a H ⟨fun q => absurd q (by omega), fun _ => ⟨by unfold xI; omega, ⟨by omega, by omega⟩, by unfold xI; omega, by unfold xI; omega, ih (by omega) ⟨by omega, by omega⟩ hQ⟩⟩
  exact key 0 0 (Int.le_refl _) ⟨by omega, by omega⟩ hQ
theorem s_42 {X : Int × (Int → Int)} {d : Nat} {Q : Int → XH → Prop} (hd : 3 ≤ d) (c : Int) (H : XH) (pw : 1 ≤ H 67 0 ∧ H 67 0 ≤ 8) (pn : 0 ≤ H 67 1 ∧ H 67 1 ≤ 64) (pg : ∀ e, 0 ≤ e → e < 64 → H 68 (160 + e) = 0 ∨ H 68 (160 + e) = 1) (pc : 0 ≤ c ∧ c < 64) (hQ : Q (nrS (H 67 0) (H 67 1) (fun e => H 68 (160 + e)) c) H) : xc X d 42 [(2, 67), (0, c)] H Q := by
  cases d with
  | zero => omega
  | succ d =>
  refine U_42 (by omega) c H ?_
  have key : ∀ o m, 0 ≤ o → Q (xfor (nrF (H 67 0) (fun e => H 68 (160 + e)) c) o (H 67 1) m) H → xq X d 42 Q 4 [(0, (2, 67)), (1, (0, c)), (2, (0, m)), (3, (0, o))] [] H := by
    intro o m
    refine xloop (nrF (H 67 0) (fun e => H 68 (160 + e)) c) (H 67 1) (fun o m => 0 ≤ o → Q (xfor (nrF (H 67 0) (fun e => H 68 (160 + e)) c) o (H 67 1) m) H → xq X d 42 Q 4 [(0, (2, 67)), (1, (0, c)), (2, (0, m)), (3, (0, o))] [] H) ?_ ?_ o m
    · intro o m hb h0 hQ
      rw [xfor_end hb] at hQ
      exact U_42_4 (by omega) c m o H ⟨fun _ => hQ, fun q => absurd hb q⟩
    · intro o m hb ih h0 hQ
      rw [xfor_step hb] at hQ
      have k := ih (by omega) hQ
      have hI : xI (o + 1) := by unfold xI; omega
      have hg := pg o h0 (by omega)
      refine U_42_4 (by omega) c m o H ⟨fun q => absurd q (by omega), fun _ => ⟨by unfold xI; omega, ⟨by omega, by omega⟩, fun q => ⟨hI, ?_⟩, fun q => ⟨fun e1 => ⟨pw, ⟨h0, by omega⟩, pc, hI, ?_⟩, fun e1 => ⟨pw, ⟨h0, by omega⟩, pc, fun e2 => ⟨hI, ?_⟩, fun e2 => ⟨pw, ⟨h0, by omega⟩, pc, hI, ?_⟩⟩⟩⟩⟩
      · rw [show nrF (H 67 0) (fun e => H 68 (160 + e)) c o m = m by unfold nrF; dsimp only; rw [if_pos (by omega)]] at k
        exact k
      · rw [show nrF (H 67 0) (fun e => H 68 (160 + e)) c o m = btw (H 67 0) o c by unfold nrF; dsimp only; rw [if_neg (by omega), if_pos (Or.inl e1), btw_comm]] at k
        exact k
      · rw [show nrF (H 67 0) (fun e => H 68 (160 + e)) c o m = m by unfold nrF; dsimp only; rw [if_neg (by omega), btw_comm, if_neg (by omega)]] at k
        exact k
      · rw [show nrF (H 67 0) (fun e => H 68 (160 + e)) c o m = btw (H 67 0) o c by unfold nrF; dsimp only; rw [if_neg (by omega), btw_comm, if_pos (Or.inr (by omega))]] at k
        exact k
  exact key 0 (-1) (Int.le_refl _) hQ
