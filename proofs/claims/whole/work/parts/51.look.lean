/-! THE PURE LAYER 21: the survey -/
theorem U_58 {X : Int × (Int → Int)} {d : Nat} {Q : Int → XH → Prop} (hd : 0 ≤ d) (v : Int) (H : XH) (h : ((0 ≤ v) → Q v H) ∧ (¬ (0 ≤ v) → (xJ (-v)) ∧ Q (-v) H)) : xc X (d + 1) 58 [(1, v)] H Q := by
  refine ⟨rfl, ?_⟩
  show xq X d 58 Q 100000 [(0, (1, v))] [] H
  refine xq_run [] 300 ?_
  show ((0 ≤ xcmp v 0) → xfR 1 v ∧ xKZ = xKZ ∧ Q v H) ∧ (¬ (0 ≤ xcmp v 0) → (xJ (-v)) ∧ xfR 1 (-v) ∧ xKZ = xKZ ∧ Q (-v) H)
  refine ⟨fun k_ => ?_, fun k_ => ?_⟩
  · replace h := h.1 (xcmp_ge.mp k_)
    exact ⟨trivial, rfl, h⟩
  · replace h := h.2 (fun q => k_ (xcmp_ge.mpr q))
    refine ⟨h.1, ?_⟩
    replace h := h.2
    exact ⟨trivial, rfl, h⟩

theorem s_58 {X : Int × (Int → Int)} {d : Nat} {Q : Int → XH → Prop} (hd : 1 ≤ d) (v : Int) (H : XH) (p0 : xJ (-v)) (hQ : Q (iabs v) H) : xc X d 58 [(1, v)] H Q := by
  cases d with
  | zero => omega
  | succ d =>
  refine U_58 (by omega) v H ?_
  refine ⟨fun c1 => ?_, fun c1 => ?_⟩
  · skip
    exact xQr hQ (by unfold iabs; split <;> omega)
  · skip
    refine ⟨?_, ?_⟩
    · first | assumption | omega
    exact xQr hQ (by unfold iabs; split <;> omega)

theorem U_59_a8_a40 {X : Int × (Int → Int)} {d : Nat} {Q : Int → XH → Prop} (hd : 1 ≤ d) (i j : Int) (H : XH) (h : (0 ≤ i ∧ i + 5 ≤ 40) ∧ ((40 : Int) ≤ 100000) ∧ (∀ s, 0 ≤ s → s < 5 → 0 ≤ H 8 (i + s) ∧ H 8 (i + s) ≤ 100000) ∧ ((0 ≤ j ∧ j + 5 ≤ 320) ∧ ((320 : Int) ≤ 100000) ∧ (∀ s, 0 ≤ s → s < 5 → 0 ≤ H 40 (j + s) ∧ H 40 (j + s) ≤ 100000) ∧ (((sum5 (H 8) i < 1) → Q 1000 H) ∧ (¬ (sum5 (H 8) i < 1) → ((1 ≤ sum5 (H 40) j) → xq X d 59 Q 40 [(0, (2, 8)), (1, (0, i)), (2, (2, 40)), (3, (0, j)), (4, (1, sum5 (H 8) i)), (6, (1, sum5 (H 40) j)), (8, (1, 0)), (10, (0, 0))] [] H) ∧ (¬ (1 ≤ sum5 (H 40) j) → Q 1000 H))))) : xc X (d + 1) 59 [(2, 8), (0, i), (2, 40), (0, j)] H Q := by
  refine ⟨rfl, ?_⟩
  show xq X d 59 Q 100000 [(0, (2, 8)), (1, (0, i)), (2, (2, 40)), (3, (0, j))] [] H
  refine xq_run [5, 13, 40, 72] 300 ?_
  show xWM (xE X) xMC d 36 [(2, 8), (0, i)] xKZ H _
  refine xc_in (s_36 (by omega) 8 i H 40 rfl rfl (h.1) (h.2.1) (h.2.2.1) ?_)
  replace h := h.2.2.2
  show xq X d 59 Q 5 [(0, (2, 8)), (1, (0, i)), (2, (2, 40)), (3, (0, j))] [(0, sum5 (H 8) i)] H
  refine xq_run [5, 13, 40, 72] 300 ?_
  show xWM (xE X) xMC d 36 [(2, 40), (0, j)] xKZ H _
  refine xc_in (s_36 (by omega) 40 j H 320 rfl rfl (h.1) (h.2.1) (h.2.2.1) ?_)
  replace h := h.2.2.2
  show xq X d 59 Q 13 [(4, (1, sum5 (H 8) i)), (0, (2, 8)), (1, (0, i)), (2, (2, 40)), (3, (0, j))] [(0, sum5 (H 40) j)] H
  refine xq_run [5, 13, 40, 72] 300 ?_
  show ((xcmp (sum5 (H 8) i) 1 < 0) → xfR 0 1000 ∧ xKZ = xKZ ∧ Q 1000 H) ∧ (¬ (xcmp (sum5 (H 8) i) 1 < 0) → ((0 ≤ xcmp (sum5 (H 40) j) 1) → xq X d 59 Q 40 [(0, (2, 8)), (1, (0, i)), (2, (2, 40)), (3, (0, j)), (4, (1, sum5 (H 8) i)), (6, (1, sum5 (H 40) j)), (8, (1, 0)), (10, (0, 0))] [] H) ∧ (¬ (0 ≤ xcmp (sum5 (H 40) j) 1) → xfR 0 1000 ∧ xKZ = xKZ ∧ Q 1000 H))
  refine ⟨fun k_ => ?_, fun k_ => ?_⟩
  · replace h := h.1 (xcmp_lt.mp k_)
    exact ⟨trivial, rfl, h⟩
  · replace h := h.2 (fun q => k_ (xcmp_lt.mpr q))
    refine ⟨fun k_ => ?_, fun k_ => ?_⟩
    · replace h := h.1 (xcmp_ge.mp k_)
      exact h
    · replace h := h.2 (fun q => k_ (xcmp_ge.mpr q))
      exact ⟨trivial, rfl, h⟩
theorem U_59_40_a8_a40 {X : Int × (Int → Int)} {d : Nat} {Q : Int → XH → Prop} (hd : 1 ≤ d) (v1 v3 v4 v6 v8 v10 : Int) (H : XH) (h : ((5 ≤ v10) → (xJ (1000 * v8)) ∧ (xJ (2 * v4)) ∧ (xJ ((2 * v4) * v6)) ∧ (¬ (2 * v4) * v6 = 0 ∧ xJ (Int.tdiv (1000 * v8) ((2 * v4) * v6))) ∧ Q (xl2i (Int.tdiv (1000 * v8) ((2 * v4) * v6))) H) ∧ (¬ (5 ≤ v10) → (xI (v1 + v10)) ∧ ((0 : Int) ≤ v1 + v10 ∧ (v1 + v10 : Int) < 40) ∧ (xJ ((H 8 (v1 + v10)) * v6)) ∧ (xI (v3 + v10)) ∧ ((0 : Int) ≤ v3 + v10 ∧ (v3 + v10 : Int) < 320) ∧ (xJ ((H 40 (v3 + v10)) * v4)) ∧ (xJ (((H 8 (v1 + v10)) * v6) - ((H 40 (v3 + v10)) * v4))) ∧ (xJ (-(((H 8 (v1 + v10)) * v6) - ((H 40 (v3 + v10)) * v4)))) ∧ ((xJ (v8 + (iabs (((H 8 (v1 + v10)) * v6) - ((H 40 (v3 + v10)) * v4))))) ∧ (xI (v10 + 1)) ∧ xq X d 59 Q 40 [(0, (2, 8)), (1, (0, v1)), (2, (2, 40)), (3, (0, v3)), (4, (1, v4)), (6, (1, v6)), (8, (1, v8 + (iabs (((H 8 (v1 + v10)) * v6) - ((H 40 (v3 + v10)) * v4))))), (10, (0, v10 + 1))] [] H))) : xq X d 59 Q 40 [(0, (2, 8)), (1, (0, v1)), (2, (2, 40)), (3, (0, v3)), (4, (1, v4)), (6, (1, v6)), (8, (1, v8)), (10, (0, v10))] [] H := by
  show xq X d 59 Q 40 [(0, (2, 8)), (1, (0, v1)), (2, (2, 40)), (3, (0, v3)), (4, (1, v4)), (6, (1, v6)), (8, (1, v8)), (10, (0, v10))] [] H
  refine xq_run [5, 13, 40, 72] 300 ?_
  show ((5 ≤ v10) → (xJ (1000 * v8)) ∧ (xJ (2 * v4)) ∧ (xJ ((2 * v4) * v6)) ∧ (¬ (2 * v4) * v6 = 0 ∧ xJ (Int.tdiv (1000 * v8) ((2 * v4) * v6))) ∧ xfR 0 (xl2i (Int.tdiv (1000 * v8) ((2 * v4) * v6))) ∧ xKZ = xKZ ∧ Q (xl2i (Int.tdiv (1000 * v8) ((2 * v4) * v6))) H) ∧ (¬ (5 ≤ v10) → (xI (v1 + v10)) ∧ ((0 : Int) ≤ v1 + v10 ∧ (v1 + v10 : Int) < 40) ∧ (xJ ((H 8 (v1 + v10)) * v6)) ∧ (xI (v3 + v10)) ∧ ((0 : Int) ≤ v3 + v10 ∧ (v3 + v10 : Int) < 320) ∧ (xJ ((H 40 (v3 + v10)) * v4)) ∧ (xJ (((H 8 (v1 + v10)) * v6) - ((H 40 (v3 + v10)) * v4))) ∧ xWM (xE X) xMC d 58 [(1, ((H 8 (v1 + v10)) * v6) - ((H 40 (v3 + v10)) * v4))] xKZ H _)
  refine ⟨fun k_ => ?_, fun k_ => ?_⟩
  · replace h := h.1 k_
    refine ⟨h.1, ?_⟩
    replace h := h.2
    refine ⟨h.1, ?_⟩
    replace h := h.2
    refine ⟨h.1, ?_⟩
    replace h := h.2
    refine ⟨h.1, ?_⟩
    replace h := h.2
    exact ⟨trivial, rfl, h⟩
  · replace h := h.2 k_
    refine ⟨h.1, ?_⟩
    replace h := h.2
    refine ⟨h.1, ?_⟩
    replace h := h.2
    refine ⟨h.1, ?_⟩
    replace h := h.2
    refine ⟨h.1, ?_⟩
    replace h := h.2
    refine ⟨h.1, ?_⟩
    replace h := h.2
    refine ⟨h.1, ?_⟩
    replace h := h.2
    refine ⟨h.1, ?_⟩
    replace h := h.2
    refine xc_in (s_58 (by omega) (((H 8 (v1 + v10)) * v6) - ((H 40 (v3 + v10)) * v4)) H (h.1) ?_)
    replace h := h.2
    show xq X d 59 Q 72 [(0, (2, 8)), (1, (0, v1)), (2, (2, 40)), (3, (0, v3)), (4, (1, v4)), (6, (1, v6)), (8, (1, v8)), (10, (0, v10))] [(1, iabs (((H 8 (v1 + v10)) * v6) - ((H 40 (v3 + v10)) * v4))), (1, v8)] H
    refine xq_run [5, 13, 40, 72] 300 ?_
    show (xJ (v8 + (iabs (((H 8 (v1 + v10)) * v6) - ((H 40 (v3 + v10)) * v4))))) ∧ (xI (v10 + 1)) ∧ xq X d 59 Q 40 [(0, (2, 8)), (1, (0, v1)), (2, (2, 40)), (3, (0, v3)), (4, (1, v4)), (6, (1, v6)), (8, (1, v8 + (iabs (((H 8 (v1 + v10)) * v6) - ((H 40 (v3 + v10)) * v4))))), (10, (0, v10 + 1))] [] H
    refine ⟨h.1, ?_⟩
    replace h := h.2
    refine ⟨h.1, ?_⟩
    replace h := h.2
    exact h

theorem s_59_a8_a40 {X : Int × (Int → Int)} {d : Nat} {Q : Int → XH → Prop} (hd : 3 ≤ d) (i j : Int) (H : XH) (pi : 0 ≤ i ∧ i + 5 ≤ 40) (pj : 0 ≤ j ∧ j + 5 ≤ 320) (pa : ∀ s, 0 ≤ s → s < 5 → 0 ≤ H 8 (i + s) ∧ H 8 (i + s) ≤ 1000) (pb : ∀ s, 0 ≤ s → s < 5 → 0 ≤ H 40 (j + s) ∧ H 40 (j + s) ≤ 1000) (hQ : Q (farV (fun s => H 8 (i + s)) (fun s => H 40 (j + s))) H) : xc X d 59 [(2, 8), (0, i), (2, 40), (0, j)] H Q := by
  cases d with
  | zero => omega
  | succ d =>
  have ra := sum5_rng pa
  have rb := sum5_rng pb
  have ea := sum5_at (H 8) i
  have eb := sum5_at (H 40) j
  have rO := farO_rng (a := fun s => H 8 (i + s)) (b := fun s => H 40 (j + s)) (fun s a b => (pa s a b).1) (fun s a b => (pb s a b).1)
  have rV := farV_rng (a := fun s => H 8 (i + s)) (b := fun s => H 40 (j + s)) (fun s a b => (pa s a b).1) (fun s a b => (pb s a b).1)
  have no : sum5 (H 8) i < 1 ∨ sum5 (H 40) j < 1 → Q 1000 H := fun q => by
    unfold farV at hQ
    rw [ea, eb, if_pos q] at hQ
    exact hQ
  have yes : 1 ≤ sum5 (H 8) i → 1 ≤ sum5 (H 40) j → xq X d 59 Q 40 [(0, (2, 8)), (1, (0, i)), (2, (2, 40)), (3, (0, j)), (4, (1, sum5 (H 8) i)), (6, (1, sum5 (H 40) j)), (8, (1, 0)), (10, (0, 0))] [] H := by
    intro y1 y2
    unfold farV at hQ rV
    rw [if_neg (by omega)] at hQ rV
    rw [ea, eb] at hQ rV rO
    generalize hT : sum5 (H 8) i = T at *
    generalize hU : sum5 (H 40) j = U at *
    have hTU := mulB (x := T) (y := U) (A := 5000) (B := 5000) (by omega) (by omega)
    have b := fun (s : Int) (p : 0 ≤ s) (q : s < 5) => And.intro (mulB (A := 1000) (B := 5000) (pa s p q) (show 0 ≤ U ∧ U ≤ 5000 by omega)) (mulB (A := 1000) (B := 5000) (pb s p q) (show 0 ≤ T ∧ T ≤ 5000 by omega))
    have s2 : ∀ o s, 0 ≤ s → s < 5 → (0 ≤ o ∧ o ≤ 50000000) → xq X d 59 Q 40 [(0, (2, 8)), (1, (0, i)), (2, (2, 40)), (3, (0, j)), (4, (1, T)), (6, (1, U)), (8, (1, o + iabs (H 8 (i + s) * U - H 40 (j + s) * T))), (10, (0, s + 1))] [] H → xq X d 59 Q 40 [(0, (2, 8)), (1, (0, i)), (2, (2, 40)), (3, (0, j)), (4, (1, T)), (6, (1, U)), (8, (1, o)), (10, (0, s))] [] H := by
      intro o s h0 h5 ho hk
      obtain ⟨h1, h2⟩ := b s h0 h5
      have h3 := iabs_le h1.1 h2.1
      refine U_59_40_a8_a40 (by omega) i j T U o s H ?_
      refine ⟨fun c1 => ?_, fun c1 => ?_⟩
      · skip
        refine ⟨?_, ?_⟩
        · first | omega | (unfold xI; omega) | (unfold xJ; omega) | assumption | (exfalso; omega)
        refine ⟨?_, ?_⟩
        · first | omega | (unfold xI; omega) | (unfold xJ; omega) | assumption | (exfalso; omega)
        refine ⟨?_, ?_⟩
        · first | omega | (unfold xI; omega) | (unfold xJ; omega) | assumption | (exfalso; omega)
        refine ⟨?_, ?_⟩
        · first | omega | (unfold xI; omega) | (unfold xJ; omega) | assumption | (exfalso; omega)
        first | exact hk | (exfalso; omega)
      · skip
        refine ⟨?_, ?_⟩
        · first | omega | (unfold xI; omega) | (unfold xJ; omega) | assumption | (exfalso; omega)
        refine ⟨?_, ?_⟩
        · first | omega | (unfold xI; omega) | (unfold xJ; omega) | assumption | (exfalso; omega)
        refine ⟨?_, ?_⟩
        · first | omega | (unfold xI; omega) | (unfold xJ; omega) | assumption | (exfalso; omega)
        refine ⟨?_, ?_⟩
        · first | omega | (unfold xI; omega) | (unfold xJ; omega) | assumption | (exfalso; omega)
        refine ⟨?_, ?_⟩
        · first | omega | (unfold xI; omega) | (unfold xJ; omega) | assumption | (exfalso; omega)
        refine ⟨?_, ?_⟩
        · first | omega | (unfold xI; omega) | (unfold xJ; omega) | assumption | (exfalso; omega)
        refine ⟨?_, ?_⟩
        · first | omega | (unfold xI; omega) | (unfold xJ; omega) | assumption | (exfalso; omega)
        refine ⟨?_, ?_⟩
        · first | omega | (unfold xI; omega) | (unfold xJ; omega) | assumption | (exfalso; omega)
        refine ⟨?_, ?_⟩
        · first | omega | (unfold xI; omega) | (unfold xJ; omega) | assumption | (exfalso; omega)
        refine ⟨?_, ?_⟩
        · first | omega | (unfold xI; omega) | (unfold xJ; omega) | assumption | (exfalso; omega)
        first | exact hk | (exfalso; omega)
    have b0 := b 0 (by decide) (by decide)
    have b1 := b 1 (by decide) (by decide)
    have b2 := b 2 (by decide) (by decide)
    have b3 := b 3 (by decide) (by decide)
    have b4 := b 4 (by decide) (by decide)
    have k0 := iabs_le b0.1.1 b0.2.1
    have k1 := iabs_le b1.1.1 b1.2.1
    have k2 := iabs_le b2.1.1 b2.2.1
    have k3 := iabs_le b3.1.1 b3.2.1
    have k4 := iabs_le b4.1.1 b4.2.1
    refine s2 0 0 (by decide) (by decide) (by omega) ?_
    refine s2 (0 + iabs (H 8 (i + 0) * U - H 40 (j + 0) * T)) 1 (by decide) (by decide) (by omega) ?_
    refine s2 (0 + iabs (H 8 (i + 0) * U - H 40 (j + 0) * T) + iabs (H 8 (i + 1) * U - H 40 (j + 1) * T)) 2 (by decide) (by decide) (by omega) ?_
    refine s2 (0 + iabs (H 8 (i + 0) * U - H 40 (j + 0) * T) + iabs (H 8 (i + 1) * U - H 40 (j + 1) * T) + iabs (H 8 (i + 2) * U - H 40 (j + 2) * T)) 3 (by decide) (by decide) (by omega) ?_
    refine s2 (0 + iabs (H 8 (i + 0) * U - H 40 (j + 0) * T) + iabs (H 8 (i + 1) * U - H 40 (j + 1) * T) + iabs (H 8 (i + 2) * U - H 40 (j + 2) * T) + iabs (H 8 (i + 3) * U - H 40 (j + 3) * T)) 4 (by decide) (by decide) (by omega) ?_
    have eO : 0 + iabs (H 8 (i + 0) * U - H 40 (j + 0) * T) + iabs (H 8 (i + 1) * U - H 40 (j + 1) * T) + iabs (H 8 (i + 2) * U - H 40 (j + 2) * T) + iabs (H 8 (i + 3) * U - H 40 (j + 3) * T) + iabs (H 8 (i + 4) * U - H 40 (j + 4) * T) = farO (fun s => H 8 (i + s)) (fun s => H 40 (j + s)) T U := by
      rw [Int.zero_add]
      rfl
    rw [eO]
    have nz : ¬ 2 * T * U = 0 := by
      rw [Int.mul_assoc]
      have := Int.mul_le_mul (a := 1) (b := 1) (c := T) (d := U) (by omega) (by omega) (by omega) (by omega)
      omega
    have e2 : 2 * T * U = 2 * (T * U) := Int.mul_assoc _ _ _
    exact U_59_40_a8_a40 (by omega) i j T U _ (4 + 1) H ⟨fun _ => ⟨by unfold xJ; omega, by unfold xJ; omega, by unfold xJ; omega, ⟨nz, by unfold xJ; omega⟩, xQr hQ (xl2i_id (by unfold xI; omega))⟩, fun q => absurd (by decide) q⟩
  refine U_59_a8_a40 (by omega) i j H ?_
  refine ⟨?_, ?_⟩
  · first | omega | (intro s a b; have := pa s a b; omega) | (intro s a b; have := pb s a b; omega)
  refine ⟨?_, ?_⟩
  · first | omega | (intro s a b; have := pa s a b; omega) | (intro s a b; have := pb s a b; omega)
  refine ⟨?_, ?_⟩
  · first | omega | (intro s a b; have := pa s a b; omega) | (intro s a b; have := pb s a b; omega)
  refine ⟨?_, ?_⟩
  · first | omega | (intro s a b; have := pa s a b; omega) | (intro s a b; have := pb s a b; omega)
  refine ⟨?_, ?_⟩
  · first | omega | (intro s a b; have := pa s a b; omega) | (intro s a b; have := pb s a b; omega)
  refine ⟨?_, ?_⟩
  · first | omega | (intro s a b; have := pa s a b; omega) | (intro s a b; have := pb s a b; omega)
  refine ⟨fun c1 => ?_, fun c1 => ?_⟩
  · skip
    first | exact no (by omega) | exact yes (by omega) (by omega)
  · skip
    refine ⟨fun c2 => ?_, fun c2 => ?_⟩
    · skip
      first | exact no (by omega) | exact yes (by omega) (by omega)
    · skip
      first | exact no (by omega) | exact yes (by omega) (by omega)

theorem U_59_a60_a61 {X : Int × (Int → Int)} {d : Nat} {Q : Int → XH → Prop} (hd : 1 ≤ d) (i j : Int) (H : XH) (h : (0 ≤ i ∧ i + 5 ≤ 40) ∧ ((40 : Int) ≤ 100000) ∧ (∀ s, 0 ≤ s → s < 5 → 0 ≤ H 60 (i + s) ∧ H 60 (i + s) ≤ 100000) ∧ ((0 ≤ j ∧ j + 5 ≤ 5) ∧ ((5 : Int) ≤ 100000) ∧ (∀ s, 0 ≤ s → s < 5 → 0 ≤ H 61 (j + s) ∧ H 61 (j + s) ≤ 100000) ∧ (((sum5 (H 60) i < 1) → Q 1000 H) ∧ (¬ (sum5 (H 60) i < 1) → ((1 ≤ sum5 (H 61) j) → xq X d 59 Q 40 [(0, (2, 60)), (1, (0, i)), (2, (2, 61)), (3, (0, j)), (4, (1, sum5 (H 60) i)), (6, (1, sum5 (H 61) j)), (8, (1, 0)), (10, (0, 0))] [] H) ∧ (¬ (1 ≤ sum5 (H 61) j) → Q 1000 H))))) : xc X (d + 1) 59 [(2, 60), (0, i), (2, 61), (0, j)] H Q := by
  refine ⟨rfl, ?_⟩
  show xq X d 59 Q 100000 [(0, (2, 60)), (1, (0, i)), (2, (2, 61)), (3, (0, j))] [] H
  refine xq_run [5, 13, 40, 72] 300 ?_
  show xWM (xE X) xMC d 36 [(2, 60), (0, i)] xKZ H _
  refine xc_in (s_36 (by omega) 60 i H 40 rfl rfl (h.1) (h.2.1) (h.2.2.1) ?_)
  replace h := h.2.2.2
  show xq X d 59 Q 5 [(0, (2, 60)), (1, (0, i)), (2, (2, 61)), (3, (0, j))] [(0, sum5 (H 60) i)] H
  refine xq_run [5, 13, 40, 72] 300 ?_
  show xWM (xE X) xMC d 36 [(2, 61), (0, j)] xKZ H _
  refine xc_in (s_36 (by omega) 61 j H 5 rfl rfl (h.1) (h.2.1) (h.2.2.1) ?_)
  replace h := h.2.2.2
  show xq X d 59 Q 13 [(4, (1, sum5 (H 60) i)), (0, (2, 60)), (1, (0, i)), (2, (2, 61)), (3, (0, j))] [(0, sum5 (H 61) j)] H
  refine xq_run [5, 13, 40, 72] 300 ?_
  show ((xcmp (sum5 (H 60) i) 1 < 0) → xfR 0 1000 ∧ xKZ = xKZ ∧ Q 1000 H) ∧ (¬ (xcmp (sum5 (H 60) i) 1 < 0) → ((0 ≤ xcmp (sum5 (H 61) j) 1) → xq X d 59 Q 40 [(0, (2, 60)), (1, (0, i)), (2, (2, 61)), (3, (0, j)), (4, (1, sum5 (H 60) i)), (6, (1, sum5 (H 61) j)), (8, (1, 0)), (10, (0, 0))] [] H) ∧ (¬ (0 ≤ xcmp (sum5 (H 61) j) 1) → xfR 0 1000 ∧ xKZ = xKZ ∧ Q 1000 H))
  refine ⟨fun k_ => ?_, fun k_ => ?_⟩
  · replace h := h.1 (xcmp_lt.mp k_)
    exact ⟨trivial, rfl, h⟩
  · replace h := h.2 (fun q => k_ (xcmp_lt.mpr q))
    refine ⟨fun k_ => ?_, fun k_ => ?_⟩
    · replace h := h.1 (xcmp_ge.mp k_)
      exact h
    · replace h := h.2 (fun q => k_ (xcmp_ge.mpr q))
      exact ⟨trivial, rfl, h⟩
theorem U_59_40_a60_a61 {X : Int × (Int → Int)} {d : Nat} {Q : Int → XH → Prop} (hd : 1 ≤ d) (v1 v3 v4 v6 v8 v10 : Int) (H : XH) (h : ((5 ≤ v10) → (xJ (1000 * v8)) ∧ (xJ (2 * v4)) ∧ (xJ ((2 * v4) * v6)) ∧ (¬ (2 * v4) * v6 = 0 ∧ xJ (Int.tdiv (1000 * v8) ((2 * v4) * v6))) ∧ Q (xl2i (Int.tdiv (1000 * v8) ((2 * v4) * v6))) H) ∧ (¬ (5 ≤ v10) → (xI (v1 + v10)) ∧ ((0 : Int) ≤ v1 + v10 ∧ (v1 + v10 : Int) < 40) ∧ (xJ ((H 60 (v1 + v10)) * v6)) ∧ (xI (v3 + v10)) ∧ ((0 : Int) ≤ v3 + v10 ∧ (v3 + v10 : Int) < 5) ∧ (xJ ((H 61 (v3 + v10)) * v4)) ∧ (xJ (((H 60 (v1 + v10)) * v6) - ((H 61 (v3 + v10)) * v4))) ∧ (xJ (-(((H 60 (v1 + v10)) * v6) - ((H 61 (v3 + v10)) * v4)))) ∧ ((xJ (v8 + (iabs (((H 60 (v1 + v10)) * v6) - ((H 61 (v3 + v10)) * v4))))) ∧ (xI (v10 + 1)) ∧ xq X d 59 Q 40 [(0, (2, 60)), (1, (0, v1)), (2, (2, 61)), (3, (0, v3)), (4, (1, v4)), (6, (1, v6)), (8, (1, v8 + (iabs (((H 60 (v1 + v10)) * v6) - ((H 61 (v3 + v10)) * v4))))), (10, (0, v10 + 1))] [] H))) : xq X d 59 Q 40 [(0, (2, 60)), (1, (0, v1)), (2, (2, 61)), (3, (0, v3)), (4, (1, v4)), (6, (1, v6)), (8, (1, v8)), (10, (0, v10))] [] H := by
  show xq X d 59 Q 40 [(0, (2, 60)), (1, (0, v1)), (2, (2, 61)), (3, (0, v3)), (4, (1, v4)), (6, (1, v6)), (8, (1, v8)), (10, (0, v10))] [] H
  refine xq_run [5, 13, 40, 72] 300 ?_
  show ((5 ≤ v10) → (xJ (1000 * v8)) ∧ (xJ (2 * v4)) ∧ (xJ ((2 * v4) * v6)) ∧ (¬ (2 * v4) * v6 = 0 ∧ xJ (Int.tdiv (1000 * v8) ((2 * v4) * v6))) ∧ xfR 0 (xl2i (Int.tdiv (1000 * v8) ((2 * v4) * v6))) ∧ xKZ = xKZ ∧ Q (xl2i (Int.tdiv (1000 * v8) ((2 * v4) * v6))) H) ∧ (¬ (5 ≤ v10) → (xI (v1 + v10)) ∧ ((0 : Int) ≤ v1 + v10 ∧ (v1 + v10 : Int) < 40) ∧ (xJ ((H 60 (v1 + v10)) * v6)) ∧ (xI (v3 + v10)) ∧ ((0 : Int) ≤ v3 + v10 ∧ (v3 + v10 : Int) < 5) ∧ (xJ ((H 61 (v3 + v10)) * v4)) ∧ (xJ (((H 60 (v1 + v10)) * v6) - ((H 61 (v3 + v10)) * v4))) ∧ xWM (xE X) xMC d 58 [(1, ((H 60 (v1 + v10)) * v6) - ((H 61 (v3 + v10)) * v4))] xKZ H _)
  refine ⟨fun k_ => ?_, fun k_ => ?_⟩
  · replace h := h.1 k_
    refine ⟨h.1, ?_⟩
    replace h := h.2
    refine ⟨h.1, ?_⟩
    replace h := h.2
    refine ⟨h.1, ?_⟩
    replace h := h.2
    refine ⟨h.1, ?_⟩
    replace h := h.2
    exact ⟨trivial, rfl, h⟩
  · replace h := h.2 k_
    refine ⟨h.1, ?_⟩
    replace h := h.2
    refine ⟨h.1, ?_⟩
    replace h := h.2
    refine ⟨h.1, ?_⟩
    replace h := h.2
    refine ⟨h.1, ?_⟩
    replace h := h.2
    refine ⟨h.1, ?_⟩
    replace h := h.2
    refine ⟨h.1, ?_⟩
    replace h := h.2
    refine ⟨h.1, ?_⟩
    replace h := h.2
    refine xc_in (s_58 (by omega) (((H 60 (v1 + v10)) * v6) - ((H 61 (v3 + v10)) * v4)) H (h.1) ?_)
    replace h := h.2
    show xq X d 59 Q 72 [(0, (2, 60)), (1, (0, v1)), (2, (2, 61)), (3, (0, v3)), (4, (1, v4)), (6, (1, v6)), (8, (1, v8)), (10, (0, v10))] [(1, iabs (((H 60 (v1 + v10)) * v6) - ((H 61 (v3 + v10)) * v4))), (1, v8)] H
    refine xq_run [5, 13, 40, 72] 300 ?_
    show (xJ (v8 + (iabs (((H 60 (v1 + v10)) * v6) - ((H 61 (v3 + v10)) * v4))))) ∧ (xI (v10 + 1)) ∧ xq X d 59 Q 40 [(0, (2, 60)), (1, (0, v1)), (2, (2, 61)), (3, (0, v3)), (4, (1, v4)), (6, (1, v6)), (8, (1, v8 + (iabs (((H 60 (v1 + v10)) * v6) - ((H 61 (v3 + v10)) * v4))))), (10, (0, v10 + 1))] [] H
    refine ⟨h.1, ?_⟩
    replace h := h.2
    refine ⟨h.1, ?_⟩
    replace h := h.2
    exact h

theorem s_59_a60_a61 {X : Int × (Int → Int)} {d : Nat} {Q : Int → XH → Prop} (hd : 3 ≤ d) (i j : Int) (H : XH) (pi : 0 ≤ i ∧ i + 5 ≤ 40) (pj : 0 ≤ j ∧ j + 5 ≤ 5) (pa : ∀ s, 0 ≤ s → s < 5 → 0 ≤ H 60 (i + s) ∧ H 60 (i + s) ≤ 1000) (pb : ∀ s, 0 ≤ s → s < 5 → 0 ≤ H 61 (j + s) ∧ H 61 (j + s) ≤ 1000) (hQ : Q (farV (fun s => H 60 (i + s)) (fun s => H 61 (j + s))) H) : xc X d 59 [(2, 60), (0, i), (2, 61), (0, j)] H Q := by
  cases d with
  | zero => omega
  | succ d =>
  have ra := sum5_rng pa
  have rb := sum5_rng pb
  have ea := sum5_at (H 60) i
  have eb := sum5_at (H 61) j
  have rO := farO_rng (a := fun s => H 60 (i + s)) (b := fun s => H 61 (j + s)) (fun s a b => (pa s a b).1) (fun s a b => (pb s a b).1)
  have rV := farV_rng (a := fun s => H 60 (i + s)) (b := fun s => H 61 (j + s)) (fun s a b => (pa s a b).1) (fun s a b => (pb s a b).1)
  have no : sum5 (H 60) i < 1 ∨ sum5 (H 61) j < 1 → Q 1000 H := fun q => by
    unfold farV at hQ
    rw [ea, eb, if_pos q] at hQ
    exact hQ
  have yes : 1 ≤ sum5 (H 60) i → 1 ≤ sum5 (H 61) j → xq X d 59 Q 40 [(0, (2, 60)), (1, (0, i)), (2, (2, 61)), (3, (0, j)), (4, (1, sum5 (H 60) i)), (6, (1, sum5 (H 61) j)), (8, (1, 0)), (10, (0, 0))] [] H := by
    intro y1 y2
    unfold farV at hQ rV
    rw [if_neg (by omega)] at hQ rV
    rw [ea, eb] at hQ rV rO
    generalize hT : sum5 (H 60) i = T at *
    generalize hU : sum5 (H 61) j = U at *
    have hTU := mulB (x := T) (y := U) (A := 5000) (B := 5000) (by omega) (by omega)
    have b := fun (s : Int) (p : 0 ≤ s) (q : s < 5) => And.intro (mulB (A := 1000) (B := 5000) (pa s p q) (show 0 ≤ U ∧ U ≤ 5000 by omega)) (mulB (A := 1000) (B := 5000) (pb s p q) (show 0 ≤ T ∧ T ≤ 5000 by omega))
    have s2 : ∀ o s, 0 ≤ s → s < 5 → (0 ≤ o ∧ o ≤ 50000000) → xq X d 59 Q 40 [(0, (2, 60)), (1, (0, i)), (2, (2, 61)), (3, (0, j)), (4, (1, T)), (6, (1, U)), (8, (1, o + iabs (H 60 (i + s) * U - H 61 (j + s) * T))), (10, (0, s + 1))] [] H → xq X d 59 Q 40 [(0, (2, 60)), (1, (0, i)), (2, (2, 61)), (3, (0, j)), (4, (1, T)), (6, (1, U)), (8, (1, o)), (10, (0, s))] [] H := by
      intro o s h0 h5 ho hk
      obtain ⟨h1, h2⟩ := b s h0 h5
      have h3 := iabs_le h1.1 h2.1
      refine U_59_40_a60_a61 (by omega) i j T U o s H ?_
      refine ⟨fun c1 => ?_, fun c1 => ?_⟩
      · skip
        refine ⟨?_, ?_⟩
        · first | omega | (unfold xI; omega) | (unfold xJ; omega) | assumption | (exfalso; omega)
        refine ⟨?_, ?_⟩
        · first | omega | (unfold xI; omega) | (unfold xJ; omega) | assumption | (exfalso; omega)
        refine ⟨?_, ?_⟩
        · first | omega | (unfold xI; omega) | (unfold xJ; omega) | assumption | (exfalso; omega)
        refine ⟨?_, ?_⟩
        · first | omega | (unfold xI; omega) | (unfold xJ; omega) | assumption | (exfalso; omega)
        first | exact hk | (exfalso; omega)
      · skip
        refine ⟨?_, ?_⟩
        · first | omega | (unfold xI; omega) | (unfold xJ; omega) | assumption | (exfalso; omega)
        refine ⟨?_, ?_⟩
        · first | omega | (unfold xI; omega) | (unfold xJ; omega) | assumption | (exfalso; omega)
        refine ⟨?_, ?_⟩
        · first | omega | (unfold xI; omega) | (unfold xJ; omega) | assumption | (exfalso; omega)
        refine ⟨?_, ?_⟩
        · first | omega | (unfold xI; omega) | (unfold xJ; omega) | assumption | (exfalso; omega)
        refine ⟨?_, ?_⟩
        · first | omega | (unfold xI; omega) | (unfold xJ; omega) | assumption | (exfalso; omega)
        refine ⟨?_, ?_⟩
        · first | omega | (unfold xI; omega) | (unfold xJ; omega) | assumption | (exfalso; omega)
        refine ⟨?_, ?_⟩
        · first | omega | (unfold xI; omega) | (unfold xJ; omega) | assumption | (exfalso; omega)
        refine ⟨?_, ?_⟩
        · first | omega | (unfold xI; omega) | (unfold xJ; omega) | assumption | (exfalso; omega)
        refine ⟨?_, ?_⟩
        · first | omega | (unfold xI; omega) | (unfold xJ; omega) | assumption | (exfalso; omega)
        refine ⟨?_, ?_⟩
        · first | omega | (unfold xI; omega) | (unfold xJ; omega) | assumption | (exfalso; omega)
        first | exact hk | (exfalso; omega)
    have b0 := b 0 (by decide) (by decide)
    have b1 := b 1 (by decide) (by decide)
    have b2 := b 2 (by decide) (by decide)
    have b3 := b 3 (by decide) (by decide)
    have b4 := b 4 (by decide) (by decide)
    have k0 := iabs_le b0.1.1 b0.2.1
    have k1 := iabs_le b1.1.1 b1.2.1
    have k2 := iabs_le b2.1.1 b2.2.1
    have k3 := iabs_le b3.1.1 b3.2.1
    have k4 := iabs_le b4.1.1 b4.2.1
    refine s2 0 0 (by decide) (by decide) (by omega) ?_
    refine s2 (0 + iabs (H 60 (i + 0) * U - H 61 (j + 0) * T)) 1 (by decide) (by decide) (by omega) ?_
    refine s2 (0 + iabs (H 60 (i + 0) * U - H 61 (j + 0) * T) + iabs (H 60 (i + 1) * U - H 61 (j + 1) * T)) 2 (by decide) (by decide) (by omega) ?_
    refine s2 (0 + iabs (H 60 (i + 0) * U - H 61 (j + 0) * T) + iabs (H 60 (i + 1) * U - H 61 (j + 1) * T) + iabs (H 60 (i + 2) * U - H 61 (j + 2) * T)) 3 (by decide) (by decide) (by omega) ?_
    refine s2 (0 + iabs (H 60 (i + 0) * U - H 61 (j + 0) * T) + iabs (H 60 (i + 1) * U - H 61 (j + 1) * T) + iabs (H 60 (i + 2) * U - H 61 (j + 2) * T) + iabs (H 60 (i + 3) * U - H 61 (j + 3) * T)) 4 (by decide) (by decide) (by omega) ?_
    have eO : 0 + iabs (H 60 (i + 0) * U - H 61 (j + 0) * T) + iabs (H 60 (i + 1) * U - H 61 (j + 1) * T) + iabs (H 60 (i + 2) * U - H 61 (j + 2) * T) + iabs (H 60 (i + 3) * U - H 61 (j + 3) * T) + iabs (H 60 (i + 4) * U - H 61 (j + 4) * T) = farO (fun s => H 60 (i + s)) (fun s => H 61 (j + s)) T U := by
      rw [Int.zero_add]
      rfl
    rw [eO]
    have nz : ¬ 2 * T * U = 0 := by
      rw [Int.mul_assoc]
      have := Int.mul_le_mul (a := 1) (b := 1) (c := T) (d := U) (by omega) (by omega) (by omega) (by omega)
      omega
    have e2 : 2 * T * U = 2 * (T * U) := Int.mul_assoc _ _ _
    exact U_59_40_a60_a61 (by omega) i j T U _ (4 + 1) H ⟨fun _ => ⟨by unfold xJ; omega, by unfold xJ; omega, by unfold xJ; omega, ⟨nz, by unfold xJ; omega⟩, xQr hQ (xl2i_id (by unfold xI; omega))⟩, fun q => absurd (by decide) q⟩
  refine U_59_a60_a61 (by omega) i j H ?_
  refine ⟨?_, ?_⟩
  · first | omega | (intro s a b; have := pa s a b; omega) | (intro s a b; have := pb s a b; omega)
  refine ⟨?_, ?_⟩
  · first | omega | (intro s a b; have := pa s a b; omega) | (intro s a b; have := pb s a b; omega)
  refine ⟨?_, ?_⟩
  · first | omega | (intro s a b; have := pa s a b; omega) | (intro s a b; have := pb s a b; omega)
  refine ⟨?_, ?_⟩
  · first | omega | (intro s a b; have := pa s a b; omega) | (intro s a b; have := pb s a b; omega)
  refine ⟨?_, ?_⟩
  · first | omega | (intro s a b; have := pa s a b; omega) | (intro s a b; have := pb s a b; omega)
  refine ⟨?_, ?_⟩
  · first | omega | (intro s a b; have := pa s a b; omega) | (intro s a b; have := pb s a b; omega)
  refine ⟨fun c1 => ?_, fun c1 => ?_⟩
  · skip
    first | exact no (by omega) | exact yes (by omega) (by omega)
  · skip
    refine ⟨fun c2 => ?_, fun c2 => ?_⟩
    · skip
      first | exact no (by omega) | exact yes (by omega) (by omega)
    · skip
      first | exact no (by omega) | exact yes (by omega) (by omega)

theorem U_59_a60_a8 {X : Int × (Int → Int)} {d : Nat} {Q : Int → XH → Prop} (hd : 1 ≤ d) (i j : Int) (H : XH) (h : (0 ≤ i ∧ i + 5 ≤ 40) ∧ ((40 : Int) ≤ 100000) ∧ (∀ s, 0 ≤ s → s < 5 → 0 ≤ H 60 (i + s) ∧ H 60 (i + s) ≤ 100000) ∧ ((0 ≤ j ∧ j + 5 ≤ 40) ∧ ((40 : Int) ≤ 100000) ∧ (∀ s, 0 ≤ s → s < 5 → 0 ≤ H 8 (j + s) ∧ H 8 (j + s) ≤ 100000) ∧ (((sum5 (H 60) i < 1) → Q 1000 H) ∧ (¬ (sum5 (H 60) i < 1) → ((1 ≤ sum5 (H 8) j) → xq X d 59 Q 40 [(0, (2, 60)), (1, (0, i)), (2, (2, 8)), (3, (0, j)), (4, (1, sum5 (H 60) i)), (6, (1, sum5 (H 8) j)), (8, (1, 0)), (10, (0, 0))] [] H) ∧ (¬ (1 ≤ sum5 (H 8) j) → Q 1000 H))))) : xc X (d + 1) 59 [(2, 60), (0, i), (2, 8), (0, j)] H Q := by
  refine ⟨rfl, ?_⟩
  show xq X d 59 Q 100000 [(0, (2, 60)), (1, (0, i)), (2, (2, 8)), (3, (0, j))] [] H
  refine xq_run [5, 13, 40, 72] 300 ?_
  show xWM (xE X) xMC d 36 [(2, 60), (0, i)] xKZ H _
  refine xc_in (s_36 (by omega) 60 i H 40 rfl rfl (h.1) (h.2.1) (h.2.2.1) ?_)
  replace h := h.2.2.2
  show xq X d 59 Q 5 [(0, (2, 60)), (1, (0, i)), (2, (2, 8)), (3, (0, j))] [(0, sum5 (H 60) i)] H
  refine xq_run [5, 13, 40, 72] 300 ?_
  show xWM (xE X) xMC d 36 [(2, 8), (0, j)] xKZ H _
  refine xc_in (s_36 (by omega) 8 j H 40 rfl rfl (h.1) (h.2.1) (h.2.2.1) ?_)
  replace h := h.2.2.2
  show xq X d 59 Q 13 [(4, (1, sum5 (H 60) i)), (0, (2, 60)), (1, (0, i)), (2, (2, 8)), (3, (0, j))] [(0, sum5 (H 8) j)] H
  refine xq_run [5, 13, 40, 72] 300 ?_
  show ((xcmp (sum5 (H 60) i) 1 < 0) → xfR 0 1000 ∧ xKZ = xKZ ∧ Q 1000 H) ∧ (¬ (xcmp (sum5 (H 60) i) 1 < 0) → ((0 ≤ xcmp (sum5 (H 8) j) 1) → xq X d 59 Q 40 [(0, (2, 60)), (1, (0, i)), (2, (2, 8)), (3, (0, j)), (4, (1, sum5 (H 60) i)), (6, (1, sum5 (H 8) j)), (8, (1, 0)), (10, (0, 0))] [] H) ∧ (¬ (0 ≤ xcmp (sum5 (H 8) j) 1) → xfR 0 1000 ∧ xKZ = xKZ ∧ Q 1000 H))
  refine ⟨fun k_ => ?_, fun k_ => ?_⟩
  · replace h := h.1 (xcmp_lt.mp k_)
    exact ⟨trivial, rfl, h⟩
  · replace h := h.2 (fun q => k_ (xcmp_lt.mpr q))
    refine ⟨fun k_ => ?_, fun k_ => ?_⟩
    · replace h := h.1 (xcmp_ge.mp k_)
      exact h
    · replace h := h.2 (fun q => k_ (xcmp_ge.mpr q))
      exact ⟨trivial, rfl, h⟩
theorem U_59_40_a60_a8 {X : Int × (Int → Int)} {d : Nat} {Q : Int → XH → Prop} (hd : 1 ≤ d) (v1 v3 v4 v6 v8 v10 : Int) (H : XH) (h : ((5 ≤ v10) → (xJ (1000 * v8)) ∧ (xJ (2 * v4)) ∧ (xJ ((2 * v4) * v6)) ∧ (¬ (2 * v4) * v6 = 0 ∧ xJ (Int.tdiv (1000 * v8) ((2 * v4) * v6))) ∧ Q (xl2i (Int.tdiv (1000 * v8) ((2 * v4) * v6))) H) ∧ (¬ (5 ≤ v10) → (xI (v1 + v10)) ∧ ((0 : Int) ≤ v1 + v10 ∧ (v1 + v10 : Int) < 40) ∧ (xJ ((H 60 (v1 + v10)) * v6)) ∧ (xI (v3 + v10)) ∧ ((0 : Int) ≤ v3 + v10 ∧ (v3 + v10 : Int) < 40) ∧ (xJ ((H 8 (v3 + v10)) * v4)) ∧ (xJ (((H 60 (v1 + v10)) * v6) - ((H 8 (v3 + v10)) * v4))) ∧ (xJ (-(((H 60 (v1 + v10)) * v6) - ((H 8 (v3 + v10)) * v4)))) ∧ ((xJ (v8 + (iabs (((H 60 (v1 + v10)) * v6) - ((H 8 (v3 + v10)) * v4))))) ∧ (xI (v10 + 1)) ∧ xq X d 59 Q 40 [(0, (2, 60)), (1, (0, v1)), (2, (2, 8)), (3, (0, v3)), (4, (1, v4)), (6, (1, v6)), (8, (1, v8 + (iabs (((H 60 (v1 + v10)) * v6) - ((H 8 (v3 + v10)) * v4))))), (10, (0, v10 + 1))] [] H))) : xq X d 59 Q 40 [(0, (2, 60)), (1, (0, v1)), (2, (2, 8)), (3, (0, v3)), (4, (1, v4)), (6, (1, v6)), (8, (1, v8)), (10, (0, v10))] [] H := by
  show xq X d 59 Q 40 [(0, (2, 60)), (1, (0, v1)), (2, (2, 8)), (3, (0, v3)), (4, (1, v4)), (6, (1, v6)), (8, (1, v8)), (10, (0, v10))] [] H
  refine xq_run [5, 13, 40, 72] 300 ?_
  show ((5 ≤ v10) → (xJ (1000 * v8)) ∧ (xJ (2 * v4)) ∧ (xJ ((2 * v4) * v6)) ∧ (¬ (2 * v4) * v6 = 0 ∧ xJ (Int.tdiv (1000 * v8) ((2 * v4) * v6))) ∧ xfR 0 (xl2i (Int.tdiv (1000 * v8) ((2 * v4) * v6))) ∧ xKZ = xKZ ∧ Q (xl2i (Int.tdiv (1000 * v8) ((2 * v4) * v6))) H) ∧ (¬ (5 ≤ v10) → (xI (v1 + v10)) ∧ ((0 : Int) ≤ v1 + v10 ∧ (v1 + v10 : Int) < 40) ∧ (xJ ((H 60 (v1 + v10)) * v6)) ∧ (xI (v3 + v10)) ∧ ((0 : Int) ≤ v3 + v10 ∧ (v3 + v10 : Int) < 40) ∧ (xJ ((H 8 (v3 + v10)) * v4)) ∧ (xJ (((H 60 (v1 + v10)) * v6) - ((H 8 (v3 + v10)) * v4))) ∧ xWM (xE X) xMC d 58 [(1, ((H 60 (v1 + v10)) * v6) - ((H 8 (v3 + v10)) * v4))] xKZ H _)
  refine ⟨fun k_ => ?_, fun k_ => ?_⟩
  · replace h := h.1 k_
    refine ⟨h.1, ?_⟩
    replace h := h.2
    refine ⟨h.1, ?_⟩
    replace h := h.2
    refine ⟨h.1, ?_⟩
    replace h := h.2
    refine ⟨h.1, ?_⟩
    replace h := h.2
    exact ⟨trivial, rfl, h⟩
  · replace h := h.2 k_
    refine ⟨h.1, ?_⟩
    replace h := h.2
    refine ⟨h.1, ?_⟩
    replace h := h.2
    refine ⟨h.1, ?_⟩
    replace h := h.2
    refine ⟨h.1, ?_⟩
    replace h := h.2
    refine ⟨h.1, ?_⟩
    replace h := h.2
    refine ⟨h.1, ?_⟩
    replace h := h.2
    refine ⟨h.1, ?_⟩
    replace h := h.2
    refine xc_in (s_58 (by omega) (((H 60 (v1 + v10)) * v6) - ((H 8 (v3 + v10)) * v4)) H (h.1) ?_)
    replace h := h.2
    show xq X d 59 Q 72 [(0, (2, 60)), (1, (0, v1)), (2, (2, 8)), (3, (0, v3)), (4, (1, v4)), (6, (1, v6)), (8, (1, v8)), (10, (0, v10))] [(1, iabs (((H 60 (v1 + v10)) * v6) - ((H 8 (v3 + v10)) * v4))), (1, v8)] H
    refine xq_run [5, 13, 40, 72] 300 ?_
    show (xJ (v8 + (iabs (((H 60 (v1 + v10)) * v6) - ((H 8 (v3 + v10)) * v4))))) ∧ (xI (v10 + 1)) ∧ xq X d 59 Q 40 [(0, (2, 60)), (1, (0, v1)), (2, (2, 8)), (3, (0, v3)), (4, (1, v4)), (6, (1, v6)), (8, (1, v8 + (iabs (((H 60 (v1 + v10)) * v6) - ((H 8 (v3 + v10)) * v4))))), (10, (0, v10 + 1))] [] H
    refine ⟨h.1, ?_⟩
    replace h := h.2
    refine ⟨h.1, ?_⟩
    replace h := h.2
    exact h

theorem s_59_a60_a8 {X : Int × (Int → Int)} {d : Nat} {Q : Int → XH → Prop} (hd : 3 ≤ d) (i j : Int) (H : XH) (pi : 0 ≤ i ∧ i + 5 ≤ 40) (pj : 0 ≤ j ∧ j + 5 ≤ 40) (pa : ∀ s, 0 ≤ s → s < 5 → 0 ≤ H 60 (i + s) ∧ H 60 (i + s) ≤ 1000) (pb : ∀ s, 0 ≤ s → s < 5 → 0 ≤ H 8 (j + s) ∧ H 8 (j + s) ≤ 1000) (hQ : Q (farV (fun s => H 60 (i + s)) (fun s => H 8 (j + s))) H) : xc X d 59 [(2, 60), (0, i), (2, 8), (0, j)] H Q := by
  cases d with
  | zero => omega
  | succ d =>
  have ra := sum5_rng pa
  have rb := sum5_rng pb
  have ea := sum5_at (H 60) i
  have eb := sum5_at (H 8) j
  have rO := farO_rng (a := fun s => H 60 (i + s)) (b := fun s => H 8 (j + s)) (fun s a b => (pa s a b).1) (fun s a b => (pb s a b).1)
  have rV := farV_rng (a := fun s => H 60 (i + s)) (b := fun s => H 8 (j + s)) (fun s a b => (pa s a b).1) (fun s a b => (pb s a b).1)
  have no : sum5 (H 60) i < 1 ∨ sum5 (H 8) j < 1 → Q 1000 H := fun q => by
    unfold farV at hQ
    rw [ea, eb, if_pos q] at hQ
    exact hQ
  have yes : 1 ≤ sum5 (H 60) i → 1 ≤ sum5 (H 8) j → xq X d 59 Q 40 [(0, (2, 60)), (1, (0, i)), (2, (2, 8)), (3, (0, j)), (4, (1, sum5 (H 60) i)), (6, (1, sum5 (H 8) j)), (8, (1, 0)), (10, (0, 0))] [] H := by
    intro y1 y2
    unfold farV at hQ rV
    rw [if_neg (by omega)] at hQ rV
    rw [ea, eb] at hQ rV rO
    generalize hT : sum5 (H 60) i = T at *
    generalize hU : sum5 (H 8) j = U at *
    have hTU := mulB (x := T) (y := U) (A := 5000) (B := 5000) (by omega) (by omega)
    have b := fun (s : Int) (p : 0 ≤ s) (q : s < 5) => And.intro (mulB (A := 1000) (B := 5000) (pa s p q) (show 0 ≤ U ∧ U ≤ 5000 by omega)) (mulB (A := 1000) (B := 5000) (pb s p q) (show 0 ≤ T ∧ T ≤ 5000 by omega))
    have s2 : ∀ o s, 0 ≤ s → s < 5 → (0 ≤ o ∧ o ≤ 50000000) → xq X d 59 Q 40 [(0, (2, 60)), (1, (0, i)), (2, (2, 8)), (3, (0, j)), (4, (1, T)), (6, (1, U)), (8, (1, o + iabs (H 60 (i + s) * U - H 8 (j + s) * T))), (10, (0, s + 1))] [] H → xq X d 59 Q 40 [(0, (2, 60)), (1, (0, i)), (2, (2, 8)), (3, (0, j)), (4, (1, T)), (6, (1, U)), (8, (1, o)), (10, (0, s))] [] H := by
      intro o s h0 h5 ho hk
      obtain ⟨h1, h2⟩ := b s h0 h5
      have h3 := iabs_le h1.1 h2.1
      refine U_59_40_a60_a8 (by omega) i j T U o s H ?_
      refine ⟨fun c1 => ?_, fun c1 => ?_⟩
      · skip
        refine ⟨?_, ?_⟩
        · first | omega | (unfold xI; omega) | (unfold xJ; omega) | assumption | (exfalso; omega)
        refine ⟨?_, ?_⟩
        · first | omega | (unfold xI; omega) | (unfold xJ; omega) | assumption | (exfalso; omega)
        refine ⟨?_, ?_⟩
        · first | omega | (unfold xI; omega) | (unfold xJ; omega) | assumption | (exfalso; omega)
        refine ⟨?_, ?_⟩
        · first | omega | (unfold xI; omega) | (unfold xJ; omega) | assumption | (exfalso; omega)
        first | exact hk | (exfalso; omega)
      · skip
        refine ⟨?_, ?_⟩
        · first | omega | (unfold xI; omega) | (unfold xJ; omega) | assumption | (exfalso; omega)
        refine ⟨?_, ?_⟩
        · first | omega | (unfold xI; omega) | (unfold xJ; omega) | assumption | (exfalso; omega)
        refine ⟨?_, ?_⟩
        · first | omega | (unfold xI; omega) | (unfold xJ; omega) | assumption | (exfalso; omega)
        refine ⟨?_, ?_⟩
        · first | omega | (unfold xI; omega) | (unfold xJ; omega) | assumption | (exfalso; omega)
        refine ⟨?_, ?_⟩
        · first | omega | (unfold xI; omega) | (unfold xJ; omega) | assumption | (exfalso; omega)
        refine ⟨?_, ?_⟩
        · first | omega | (unfold xI; omega) | (unfold xJ; omega) | assumption | (exfalso; omega)
        refine ⟨?_, ?_⟩
        · first | omega | (unfold xI; omega) | (unfold xJ; omega) | assumption | (exfalso; omega)
        refine ⟨?_, ?_⟩
        · first | omega | (unfold xI; omega) | (unfold xJ; omega) | assumption | (exfalso; omega)
        refine ⟨?_, ?_⟩
        · first | omega | (unfold xI; omega) | (unfold xJ; omega) | assumption | (exfalso; omega)
        refine ⟨?_, ?_⟩
        · first | omega | (unfold xI; omega) | (unfold xJ; omega) | assumption | (exfalso; omega)
        first | exact hk | (exfalso; omega)
    have b0 := b 0 (by decide) (by decide)
    have b1 := b 1 (by decide) (by decide)
    have b2 := b 2 (by decide) (by decide)
    have b3 := b 3 (by decide) (by decide)
    have b4 := b 4 (by decide) (by decide)
    have k0 := iabs_le b0.1.1 b0.2.1
    have k1 := iabs_le b1.1.1 b1.2.1
    have k2 := iabs_le b2.1.1 b2.2.1
    have k3 := iabs_le b3.1.1 b3.2.1
    have k4 := iabs_le b4.1.1 b4.2.1
    refine s2 0 0 (by decide) (by decide) (by omega) ?_
    refine s2 (0 + iabs (H 60 (i + 0) * U - H 8 (j + 0) * T)) 1 (by decide) (by decide) (by omega) ?_
    refine s2 (0 + iabs (H 60 (i + 0) * U - H 8 (j + 0) * T) + iabs (H 60 (i + 1) * U - H 8 (j + 1) * T)) 2 (by decide) (by decide) (by omega) ?_
    refine s2 (0 + iabs (H 60 (i + 0) * U - H 8 (j + 0) * T) + iabs (H 60 (i + 1) * U - H 8 (j + 1) * T) + iabs (H 60 (i + 2) * U - H 8 (j + 2) * T)) 3 (by decide) (by decide) (by omega) ?_
    refine s2 (0 + iabs (H 60 (i + 0) * U - H 8 (j + 0) * T) + iabs (H 60 (i + 1) * U - H 8 (j + 1) * T) + iabs (H 60 (i + 2) * U - H 8 (j + 2) * T) + iabs (H 60 (i + 3) * U - H 8 (j + 3) * T)) 4 (by decide) (by decide) (by omega) ?_
    have eO : 0 + iabs (H 60 (i + 0) * U - H 8 (j + 0) * T) + iabs (H 60 (i + 1) * U - H 8 (j + 1) * T) + iabs (H 60 (i + 2) * U - H 8 (j + 2) * T) + iabs (H 60 (i + 3) * U - H 8 (j + 3) * T) + iabs (H 60 (i + 4) * U - H 8 (j + 4) * T) = farO (fun s => H 60 (i + s)) (fun s => H 8 (j + s)) T U := by
      rw [Int.zero_add]
      rfl
    rw [eO]
    have nz : ¬ 2 * T * U = 0 := by
      rw [Int.mul_assoc]
      have := Int.mul_le_mul (a := 1) (b := 1) (c := T) (d := U) (by omega) (by omega) (by omega) (by omega)
      omega
    have e2 : 2 * T * U = 2 * (T * U) := Int.mul_assoc _ _ _
    exact U_59_40_a60_a8 (by omega) i j T U _ (4 + 1) H ⟨fun _ => ⟨by unfold xJ; omega, by unfold xJ; omega, by unfold xJ; omega, ⟨nz, by unfold xJ; omega⟩, xQr hQ (xl2i_id (by unfold xI; omega))⟩, fun q => absurd (by decide) q⟩
  refine U_59_a60_a8 (by omega) i j H ?_
  refine ⟨?_, ?_⟩
  · first | omega | (intro s a b; have := pa s a b; omega) | (intro s a b; have := pb s a b; omega)
  refine ⟨?_, ?_⟩
  · first | omega | (intro s a b; have := pa s a b; omega) | (intro s a b; have := pb s a b; omega)
  refine ⟨?_, ?_⟩
  · first | omega | (intro s a b; have := pa s a b; omega) | (intro s a b; have := pb s a b; omega)
  refine ⟨?_, ?_⟩
  · first | omega | (intro s a b; have := pa s a b; omega) | (intro s a b; have := pb s a b; omega)
  refine ⟨?_, ?_⟩
  · first | omega | (intro s a b; have := pa s a b; omega) | (intro s a b; have := pb s a b; omega)
  refine ⟨?_, ?_⟩
  · first | omega | (intro s a b; have := pa s a b; omega) | (intro s a b; have := pb s a b; omega)
  refine ⟨fun c1 => ?_, fun c1 => ?_⟩
  · skip
    first | exact no (by omega) | exact yes (by omega) (by omega)
  · skip
    refine ⟨fun c2 => ?_, fun c2 => ?_⟩
    · skip
      first | exact no (by omega) | exact yes (by omega) (by omega)
    · skip
      first | exact no (by omega) | exact yes (by omega) (by omega)

theorem U_60 {X : Int × (Int → Int)} {d : Nat} {Q : Int → XH → Prop} (hd : 0 ≤ d) (H : XH) (h : xq X d 60 Q 35 [(0, (2, 39)), (1, (2, 1)), (2, (0, 0))] [] (xup (xup (xup H 39 6 (H 2 2)) 39 7 (H 7 1)) 39 8 (H 9 0))) : xc X (d + 1) 60 [(2, 39), (2, 1)] H Q := by
  refine ⟨rfl, ?_⟩
  show xq X d 60 Q 100000 [(0, (2, 39)), (1, (2, 1))] [] H
  refine xq_run [35, 63, 66, 94] 300 ?_
  show xq X d 60 Q 35 [(0, (2, 39)), (1, (2, 1)), (2, (0, 0))] [] (xup (xup (xup H 39 6 (H 2 2)) 39 7 (H 7 1)) 39 8 (H 9 0))
  exact h
theorem U_60_35 {X : Int × (Int → Int)} {d : Nat} {Q : Int → XH → Prop} (hd : 4 ≤ d) (v2 : Int) (H : XH) (h : ((H 39 6 ≤ v2) → Q 0 H) ∧ (¬ (H 39 6 ≤ v2) → (xI (v2 * 5)) ∧ (1 ≤ H 2 0 ∧ H 2 0 ≤ 8) ∧ (0 ≤ H 2 2 ∧ H 2 2 ≤ 64) ∧ (0 ≤ v2 ∧ v2 < H 2 2) ∧ ((0 : Int) ≤ v2 * 5 ∧ ((v2 * 5) : Int) + 5 ≤ 320) ∧ (∀ k, 0 ≤ k → k < 320 → 0 ≤ H 3 k ∧ H 3 k ≤ 9) ∧ (((0 : Int) ≤ v2 ∧ (v2 : Int) < 64) ∧ xq X d 60 Q 66 [(0, (2, 39)), (1, (2, 1)), (2, (0, v2)), (3, (0, 0))] [] (xup (xset H 40 (fun k => if v2 * 5 ≤ k ∧ k < (v2 * 5) + 5 then soilF (H 2 0) (H 2 2) (fun e => H 4 e) (fun e => H 5 e) (fun k => H 3 k) v2 (k - (v2 * 5)) else H 40 k)) 41 v2 (soilT (H 2 0) (H 2 2) (fun e => H 4 e) (fun e => H 5 e) (fun k => H 3 k) v2))))) : xq X d 60 Q 35 [(0, (2, 39)), (1, (2, 1)), (2, (0, v2))] [] H := by
  show xq X d 60 Q 35 [(0, (2, 39)), (1, (2, 1)), (2, (0, v2))] [] H
  refine xq_run [35, 63, 66, 94] 300 ?_
  show ((H 39 6 ≤ v2) → xfR 2 0 ∧ xKZ = xKZ ∧ Q 0 H) ∧ (¬ (H 39 6 ≤ v2) → (xI (v2 * 5)) ∧ xWM (xE X) xMC d 37 [(2, 2), (0, v2), (2, 40), (0, v2 * 5)] xKZ H _)
  refine ⟨fun k_ => ?_, fun k_ => ?_⟩
  · replace h := h.1 k_
    exact ⟨trivial, rfl, h⟩
  · replace h := h.2 k_
    refine ⟨h.1, ?_⟩
    replace h := h.2
    refine xc_in (s_37_a40 (by omega) v2 (v2 * 5) H (h.1) (h.2.1) (h.2.2.1) (h.2.2.2.1) (h.2.2.2.2.1) ?_)
    replace h := h.2.2.2.2.2
    show xq X d 60 Q 63 [(0, (2, 39)), (1, (2, 1)), (2, (0, v2))] [(0, soilT (H 2 0) (H 2 2) (fun e => H 4 e) (fun e => H 5 e) (fun k => H 3 k) v2), (0, v2), (2, 41)] (xset H 40 (fun k => if v2 * 5 ≤ k ∧ k < (v2 * 5) + 5 then soilF (H 2 0) (H 2 2) (fun e => H 4 e) (fun e => H 5 e) (fun k => H 3 k) v2 (k - (v2 * 5)) else H 40 k))
    refine xq_run [35, 63, 66, 94] 300 ?_
    show ((0 : Int) ≤ v2 ∧ (v2 : Int) < 64) ∧ xq X d 60 Q 66 [(0, (2, 39)), (1, (2, 1)), (2, (0, v2)), (3, (0, 0))] [] (xup (xset H 40 (fun k => if v2 * 5 ≤ k ∧ k < (v2 * 5) + 5 then soilF (H 2 0) (H 2 2) (fun e => H 4 e) (fun e => H 5 e) (fun k => H 3 k) v2 (k - (v2 * 5)) else H 40 k)) 41 v2 (soilT (H 2 0) (H 2 2) (fun e => H 4 e) (fun e => H 5 e) (fun k => H 3 k) v2))
    refine ⟨h.1, ?_⟩
    replace h := h.2
    exact h
theorem U_60_66 {X : Int × (Int → Int)} {d : Nat} {Q : Int → XH → Prop} (hd : 3 ≤ d) (v2 v3 : Int) (H : XH) (h : ((H 39 7 ≤ v3) → (xI (v2 + 1)) ∧ xq X d 60 Q 35 [(0, (2, 39)), (1, (2, 1)), (2, (0, v2 + 1))] [] H) ∧ (¬ (H 39 7 ≤ v3) → (xI (v3 * 5)) ∧ (xI (v2 * 5)) ∧ ((0 : Int) ≤ v3 * 5 ∧ (v3 * 5) + 5 ≤ 40) ∧ ((0 : Int) ≤ v2 * 5 ∧ (v2 * 5) + 5 ≤ 320) ∧ (∀ s, 0 ≤ s → s < 5 → 0 ≤ H 8 ((v3 * 5) + s) ∧ H 8 ((v3 * 5) + s) ≤ 1000) ∧ (∀ s, 0 ≤ s → s < 5 → 0 ≤ H 40 ((v2 * 5) + s) ∧ H 40 ((v2 * 5) + s) ≤ 1000) ∧ ((xI (v3 * 64)) ∧ (xI ((v3 * 64) + v2)) ∧ ((0 : Int) ≤ v2 ∧ (v2 : Int) < 64) ∧ ((1 ≤ H 41 v2) → ((0 : Int) ≤ (v3 * 64) + v2 ∧ ((v3 * 64) + v2 : Int) < 512) ∧ (xI (v3 + 1)) ∧ xq X d 60 Q 66 [(0, (2, 39)), (1, (2, 1)), (2, (0, v2)), (3, (0, v3 + 1))] [] (xup H 42 ((v3 * 64) + v2) (farV (fun s => H 8 ((v3 * 5) + s)) (fun s => H 40 ((v2 * 5) + s))))) ∧ (¬ (1 ≤ H 41 v2) → ((0 : Int) ≤ (v3 * 64) + v2 ∧ ((v3 * 64) + v2 : Int) < 512) ∧ (xI (v3 + 1)) ∧ xq X d 60 Q 66 [(0, (2, 39)), (1, (2, 1)), (2, (0, v2)), (3, (0, v3 + 1))] [] (xup H 42 ((v3 * 64) + v2) (-1)))))) : xq X d 60 Q 66 [(0, (2, 39)), (1, (2, 1)), (2, (0, v2)), (3, (0, v3))] [] H := by
  show xq X d 60 Q 66 [(0, (2, 39)), (1, (2, 1)), (2, (0, v2)), (3, (0, v3))] [] H
  refine xq_run [35, 63, 66, 94] 300 ?_
  show ((H 39 7 ≤ v3) → (xI (v2 + 1)) ∧ xq X d 60 Q 35 [(0, (2, 39)), (1, (2, 1)), (2, (0, v2 + 1))] [] H) ∧ (¬ (H 39 7 ≤ v3) → (xI (v3 * 5)) ∧ (xI (v2 * 5)) ∧ xWM (xE X) xMC d 59 [(2, 8), (0, v3 * 5), (2, 40), (0, v2 * 5)] xKZ H _)
  refine ⟨fun k_ => ?_, fun k_ => ?_⟩
  · replace h := h.1 k_
    refine ⟨h.1, ?_⟩
    replace h := h.2
    exact h
  · replace h := h.2 k_
    refine ⟨h.1, ?_⟩
    replace h := h.2
    refine ⟨h.1, ?_⟩
    replace h := h.2
    refine xc_in (s_59_a8_a40 (by omega) (v3 * 5) (v2 * 5) H (h.1) (h.2.1) (h.2.2.1) (h.2.2.2.1) ?_)
    replace h := h.2.2.2.2
    show xq X d 60 Q 94 [(0, (2, 39)), (1, (2, 1)), (2, (0, v2)), (3, (0, v3))] [(0, farV (fun s => H 8 ((v3 * 5) + s)) (fun s => H 40 ((v2 * 5) + s)))] H
    refine xq_run [35, 63, 66, 94] 300 ?_
    show (xI (v3 * 64)) ∧ (xI ((v3 * 64) + v2)) ∧ ((0 : Int) ≤ v2 ∧ (v2 : Int) < 64) ∧ ((1 ≤ H 41 v2) → ((0 : Int) ≤ (v3 * 64) + v2 ∧ ((v3 * 64) + v2 : Int) < 512) ∧ (xI (v3 + 1)) ∧ xq X d 60 Q 66 [(0, (2, 39)), (1, (2, 1)), (2, (0, v2)), (3, (0, v3 + 1))] [] (xup H 42 ((v3 * 64) + v2) (farV (fun s => H 8 ((v3 * 5) + s)) (fun s => H 40 ((v2 * 5) + s))))) ∧ (¬ (1 ≤ H 41 v2) → ((0 : Int) ≤ (v3 * 64) + v2 ∧ ((v3 * 64) + v2 : Int) < 512) ∧ (xI (v3 + 1)) ∧ xq X d 60 Q 66 [(0, (2, 39)), (1, (2, 1)), (2, (0, v2)), (3, (0, v3 + 1))] [] (xup H 42 ((v3 * 64) + v2) (-1)))
    refine ⟨h.1, ?_⟩
    replace h := h.2
    refine ⟨h.1, ?_⟩
    replace h := h.2
    refine ⟨h.1, ?_⟩
    replace h := h.2
    refine ⟨fun k_ => ?_, fun k_ => ?_⟩
    · replace h := h.1 k_
      refine ⟨h.1, ?_⟩
      replace h := h.2
      refine ⟨h.1, ?_⟩
      replace h := h.2
      exact h
    · replace h := h.2 k_
      refine ⟨h.1, ?_⟩
      replace h := h.2
      refine ⟨h.1, ?_⟩
      replace h := h.2
      exact h

/-- what the survey says: S soils, T their masses, F how far, E its fields -/
def lkC (w n : Int) (g S T F : Int → Int) (c m : Int) : Prop := T c = soT w n g c ∧ (∀ s, 0 ≤ s → s < 5 → S (c * 5 + s) = soF w n g c s) ∧ ∀ l, 0 ≤ l → l < m → F (l * 64 + c) = frV w n g l c
def lkOk (w n : Int) (g S T F E : Int → Int) : Prop := E 6 = n ∧ E 7 = g 1 ∧ E 8 = g 6 ∧ ∀ c, 0 ≤ c → c < n → lkC w n g S T F c (g 1)
theorem s_60 {X : Int × (Int → Int)} {d : Nat} {Q : Int → XH → Prop} (hd : 6 ≤ d) (H : XH) (hi : InvS H) (hQ : ∀ h1 : XH, (frC H h1 ∧ lkOk (H 67 0) (H 67 1) (H 68) (h1 40) (h1 41) (h1 42) (h1 39)) → Q 0 h1) : xc X d 60 [(2, 39), (2, 1)] H Q := by
  cases d with
  | zero => omega
  | succ d =>
  obtain ⟨hg, hs⟩ := hi
  have nn := hg.nn
  have ww := hg.ww
  have l0 := hs.l0
  have l2 := hs.l2
  have hc := hs.c
  have hr0 := hs.r0
  have lyb := hg.lyb
  refine U_60 (by omega) H ?_
  refine xlR (H 67 1) (fun c (h : XH) => 0 ≤ c ∧ frC H h ∧ h 39 6 = H 67 1 ∧ h 39 7 = H 68 1 ∧ h 39 8 = H 68 6 ∧ ∀ e, 0 ≤ e → e < c → e < H 67 1 → lkC (H 67 0) (H 67 1) (H 68) (h 40) (h 41) (h 42) e (H 68 1)) (fun c h => xq X d 60 Q 35 [(0, (2, 39)), (1, (2, 1)), (2, (0, c))] [] h) (fun c h hb hI => ?_) (fun c h hb hI hk => ?_) 0 _ ⟨Int.le_refl _, frC_up (frC_up (frC_up (frC_refl H) (by decide)) (by decide)) (by decide), l2, hc, hr0, fun e a b => by omega⟩
  · obtain ⟨i0, i1, i2, i3, i4, i5⟩ := hI
    exact U_60_35 (by omega) c h ⟨fun _ => hQ h ⟨i1, i2, i3, i4, fun e a b => i5 e a (by omega) b⟩, fun q => absurd (by omega) q⟩
  · obtain ⟨i0, i1, i2, i3, i4, i5⟩ := hI
    have f2 := i1 2 (by decide) (by decide)
    have f3 := i1 3 (by decide) (by decide)
    have f4 := i1 4 (by decide) (by decide)
    have f5 := i1 5 (by decide) (by decide)
    have f7 := i1 7 (by decide) (by decide)
    have f8 := i1 8 (by decide) (by decide)
    have hT : ∀ s, 0 ≤ s → s < 5 → soilF (H 2 0) (H 2 2) (fun e => H 4 e) (fun e => H 5 e) (fun k => H 3 k) c s = soF (H 67 0) (H 67 1) (H 68) c s := fun s a b => by
      rw [l0, l2]
      exact soilF_congr nn.2 (fun e a b => hs.i e a (by omega)) (fun e a b => hs.o e a (by omega)) hs.d ⟨i0, hb⟩ ⟨a, b⟩
    have hT2 : soilT (H 2 0) (H 2 2) (fun e => H 4 e) (fun e => H 5 e) (fun k => H 3 k) c = soT (H 67 0) (H 67 1) (H 68) c := by
      rw [l0, l2]
      exact soilT_congr nn.2 (fun e a b => hs.i e a (by omega)) (fun e a b => hs.o e a (by omega)) hs.d ⟨i0, hb⟩
    refine U_60_35 (by omega) c h ⟨fun q => (by exfalso; omega), fun _ => ⟨by unfold xI; omega, by rw [f2]; omega, by rw [f2]; omega, by rw [f2]; omega, by omega, by rw [f3]; intro k a b; rw [hs.d k a b]; exact hg.amb k a b, ⟨by omega, by omega⟩, ?_⟩⟩
    rw [f2, f3, f4, f5, hT2]
    refine xlR (H 68 1) (fun l (h' : XH) => 0 ≤ l ∧ frC H h' ∧ h' 39 6 = H 67 1 ∧ h' 39 7 = H 68 1 ∧ h' 39 8 = H 68 6 ∧ (∀ e, 0 ≤ e → e < c → e < H 67 1 → lkC (H 67 0) (H 67 1) (H 68) (h' 40) (h' 41) (h' 42) e (H 68 1)) ∧ h' 41 c = soT (H 67 0) (H 67 1) (H 68) c ∧ (∀ s, 0 ≤ s → s < 5 → h' 40 (c * 5 + s) = soF (H 67 0) (H 67 1) (H 68) c s) ∧ ∀ m, 0 ≤ m → m < l → m < H 68 1 → h' 42 (m * 64 + c) = frV (H 67 0) (H 67 1) (H 68) m c) (fun l h' => xq X d 60 Q 66 [(0, (2, 39)), (1, (2, 1)), (2, (0, c)), (3, (0, l))] [] h') (fun l h' hb2 hJ => ?_) (fun l h' hb2 hJ hk2 => ?_) 0 _ ⟨Int.le_refl _, frC_up (frC_set i1 (by decide)) (by decide), i2, i3, i4, fun e a b b' => ?_, ?_, fun s a b => ?_, fun m a b => by omega⟩
    · obtain ⟨j0, j1, j2, j3, j4, j5, j6, j7, j8⟩ := hJ
      refine U_60_66 (by omega) c l h' ⟨fun _ => ⟨by unfold xI; omega, hk h' ⟨by omega, j1, j2, j3, j4, fun e a b b' => ?_⟩⟩, fun q => absurd (by omega) q⟩
      by_cases he : e = c
      · subst he
        exact ⟨j6, j7, fun m a' b'' => j8 m a' (by omega) b''⟩
      · exact j5 e a (by omega) b'
    · obtain ⟨j0, j1, j2, j3, j4, j5, j6, j7, j8⟩ := hJ
      have g8 := j1 8 (by decide) (by decide)
      have hk3 := fun v (hv : v = frV (H 67 0) (H 67 1) (H 68) l c) => hk2 (xup h' 42 (l * 64 + c) v) ⟨by omega, frC_up j1 (by decide), j2, j3, j4, fun e a b b' => by
          obtain ⟨z1, z2, z3⟩ := j5 e a b b'
          refine ⟨z1, z2, fun m a' b'' => ?_⟩
          rw [xup_eq, if_neg (by omega)]
          exact z3 m a' b'', j6, j7, fun m a' b' b'' => by
          rw [xup_eq]
          split
          · next z => rw [hv, show m = l by omega]
          · exact j8 m a' (by omega) b''⟩
      have hA : ∀ s, 0 ≤ s → s < 5 → h' 8 (l * 5 + s) = H 68 (560 + 5 * l + s) := fun s a b => by
        rw [g8, hs.am (l * 5 + s) (by omega) (by omega)]
        congr 1
        omega
      have hlb : 0 ≤ l ∧ l < 8 := by omega
      refine U_60_66 (by omega) c l h' ?_
      refine ⟨fun c1 => ?_, fun c1 => ?_⟩
      · skip
        refine ⟨?_, ?_⟩
        · first | omega | (unfold xI; omega) | (intro s a b; rw [hA s a b]; have k := hg.lya (5 * l + s) (by omega) (by omega); rw [← Int.add_assoc] at k; omega) | (intro s a b; rw [j7 s a b]; have k := soF_rng hg (c := c) (s := s) ⟨a, b⟩; omega) | (exfalso; omega)
        exfalso
        omega
      · skip
        refine ⟨?_, ?_⟩
        · first | omega | (unfold xI; omega) | (intro s a b; rw [hA s a b]; have k := hg.lya (5 * l + s) (by omega) (by omega); rw [← Int.add_assoc] at k; omega) | (intro s a b; rw [j7 s a b]; have k := soF_rng hg (c := c) (s := s) ⟨a, b⟩; omega) | (exfalso; omega)
        refine ⟨?_, ?_⟩
        · first | omega | (unfold xI; omega) | (intro s a b; rw [hA s a b]; have k := hg.lya (5 * l + s) (by omega) (by omega); rw [← Int.add_assoc] at k; omega) | (intro s a b; rw [j7 s a b]; have k := soF_rng hg (c := c) (s := s) ⟨a, b⟩; omega) | (exfalso; omega)
        refine ⟨?_, ?_⟩
        · first | omega | (unfold xI; omega) | (intro s a b; rw [hA s a b]; have k := hg.lya (5 * l + s) (by omega) (by omega); rw [← Int.add_assoc] at k; omega) | (intro s a b; rw [j7 s a b]; have k := soF_rng hg (c := c) (s := s) ⟨a, b⟩; omega) | (exfalso; omega)
        refine ⟨?_, ?_⟩
        · first | omega | (unfold xI; omega) | (intro s a b; rw [hA s a b]; have k := hg.lya (5 * l + s) (by omega) (by omega); rw [← Int.add_assoc] at k; omega) | (intro s a b; rw [j7 s a b]; have k := soF_rng hg (c := c) (s := s) ⟨a, b⟩; omega) | (exfalso; omega)
        refine ⟨?_, ?_⟩
        · first | omega | (unfold xI; omega) | (intro s a b; rw [hA s a b]; have k := hg.lya (5 * l + s) (by omega) (by omega); rw [← Int.add_assoc] at k; omega) | (intro s a b; rw [j7 s a b]; have k := soF_rng hg (c := c) (s := s) ⟨a, b⟩; omega) | (exfalso; omega)
        refine ⟨?_, ?_⟩
        · first | omega | (unfold xI; omega) | (intro s a b; rw [hA s a b]; have k := hg.lya (5 * l + s) (by omega) (by omega); rw [← Int.add_assoc] at k; omega) | (intro s a b; rw [j7 s a b]; have k := soF_rng hg (c := c) (s := s) ⟨a, b⟩; omega) | (exfalso; omega)
        refine ⟨?_, ?_⟩
        · first | omega | (unfold xI; omega) | (intro s a b; rw [hA s a b]; have k := hg.lya (5 * l + s) (by omega) (by omega); rw [← Int.add_assoc] at k; omega) | (intro s a b; rw [j7 s a b]; have k := soF_rng hg (c := c) (s := s) ⟨a, b⟩; omega) | (exfalso; omega)
        refine ⟨?_, ?_⟩
        · first | omega | (unfold xI; omega) | (intro s a b; rw [hA s a b]; have k := hg.lya (5 * l + s) (by omega) (by omega); rw [← Int.add_assoc] at k; omega) | (intro s a b; rw [j7 s a b]; have k := soF_rng hg (c := c) (s := s) ⟨a, b⟩; omega) | (exfalso; omega)
        refine ⟨?_, ?_⟩
        · first | omega | (unfold xI; omega) | (intro s a b; rw [hA s a b]; have k := hg.lya (5 * l + s) (by omega) (by omega); rw [← Int.add_assoc] at k; omega) | (intro s a b; rw [j7 s a b]; have k := soF_rng hg (c := c) (s := s) ⟨a, b⟩; omega) | (exfalso; omega)
        refine ⟨fun c2 => ?_, fun c2 => ?_⟩
        · skip
          refine ⟨?_, ?_⟩
          · first | omega | (unfold xI; omega) | (intro s a b; rw [hA s a b]; have k := hg.lya (5 * l + s) (by omega) (by omega); rw [← Int.add_assoc] at k; omega) | (intro s a b; rw [j7 s a b]; have k := soF_rng hg (c := c) (s := s) ⟨a, b⟩; omega) | (exfalso; omega)
          refine ⟨?_, ?_⟩
          · first | omega | (unfold xI; omega) | (intro s a b; rw [hA s a b]; have k := hg.lya (5 * l + s) (by omega) (by omega); rw [← Int.add_assoc] at k; omega) | (intro s a b; rw [j7 s a b]; have k := soF_rng hg (c := c) (s := s) ⟨a, b⟩; omega) | (exfalso; omega)
          refine hk3 _ ?_
          unfold frV
          rw [if_neg (by omega)]
          exact farV_congr hA (fun s a b => j7 s a b)
        · skip
          refine ⟨?_, ?_⟩
          · first | omega | (unfold xI; omega) | (intro s a b; rw [hA s a b]; have k := hg.lya (5 * l + s) (by omega) (by omega); rw [← Int.add_assoc] at k; omega) | (intro s a b; rw [j7 s a b]; have k := soF_rng hg (c := c) (s := s) ⟨a, b⟩; omega) | (exfalso; omega)
          refine ⟨?_, ?_⟩
          · first | omega | (unfold xI; omega) | (intro s a b; rw [hA s a b]; have k := hg.lya (5 * l + s) (by omega) (by omega); rw [← Int.add_assoc] at k; omega) | (intro s a b; rw [j7 s a b]; have k := soF_rng hg (c := c) (s := s) ⟨a, b⟩; omega) | (exfalso; omega)
          refine hk3 _ ?_
          unfold frV
          rw [if_pos (by omega)]
    · obtain ⟨z1, z2, z3⟩ := i5 e a b b'
      refine ⟨?_, fun s a' b'' => ?_, z3⟩
      · rw [xup_eq, if_neg (by omega)]
        exact z1
      · refine (congrFun (xset_at h 40 _) (e * 5 + s)).trans ?_
        exact (if_neg (show ¬ (c * 5 ≤ e * 5 + s ∧ e * 5 + s < c * 5 + 5) by omega)).trans (z2 s a' b'')
    · rw [xup_eq, if_pos rfl]
    · refine (congrFun (xset_at h 40 _) (c * 5 + s)).trans ?_
      refine (if_pos (show c * 5 ≤ c * 5 + s ∧ c * 5 + s < c * 5 + 5 by omega)).trans ?_
      rw [iacl]
      exact hT s a b

theorem U_61 {X : Int × (Int → Int)} {d : Nat} {Q : Int → XH → Prop} (hd : 1 ≤ d) (l c : Int) (H : XH) (h : (xI ((H 39 7) - 1)) ∧ ((((0 ≤ l ∧ l ≤ ((H 39 7) - 1))) → (xI ((H 39 6) - 1)) ∧ ((((0 ≤ c ∧ c ≤ ((H 39 6) - 1))) → (xI (l * 64)) ∧ (xI ((l * 64) + c)) ∧ ((0 : Int) ≤ (l * 64) + c ∧ ((l * 64) + c : Int) < 512) ∧ Q (H 42 ((l * 64) + c)) H) ∧ (¬ ((0 ≤ c ∧ c ≤ ((H 39 6) - 1))) → Q (-1) H))) ∧ (¬ ((0 ≤ l ∧ l ≤ ((H 39 7) - 1))) → Q (-1) H))) : xc X (d + 1) 61 [(2, 39), (0, l), (0, c)] H Q := by
  refine ⟨rfl, ?_⟩
  show xq X d 61 Q 100000 [(0, (2, 39)), (1, (0, l)), (2, (0, c))] [] H
  refine xq_run [11, 25] 300 ?_
  show (xI ((H 39 7) - 1)) ∧ xWM (xE X) xMC d 19 [(0, l), (0, 0), (0, (H 39 7) - 1)] xKZ H _
  refine ⟨h.1, ?_⟩
  replace h := h.2
  refine xc_in (s_19 (by omega) l 0 ((H 39 7) - 1) H  ?_)
  replace h := h
  show xq X d 61 Q 11 [(0, (2, 39)), (1, (0, l)), (2, (0, c))] [(0, xb (0 ≤ l ∧ l ≤ ((H 39 7) - 1)))] H
  refine xq_run [11, 25] 300 ?_
  show ((xb (0 ≤ l ∧ l ≤ ((H 39 7) - 1)) = 0) → xfR 0 (-1) ∧ xKZ = xKZ ∧ Q (-1) H) ∧ (¬ (xb (0 ≤ l ∧ l ≤ ((H 39 7) - 1)) = 0) → (xI ((H 39 6) - 1)) ∧ xWM (xE X) xMC d 19 [(0, c), (0, 0), (0, (H 39 6) - 1)] xKZ H _)
  refine ⟨fun k_ => ?_, fun k_ => ?_⟩
  · replace h := h.2 (xbe_0.mp k_)
    exact ⟨trivial, rfl, h⟩
  · replace h := h.1 (xbe_1.mp k_)
    refine ⟨h.1, ?_⟩
    replace h := h.2
    refine xc_in (s_19 (by omega) c 0 ((H 39 6) - 1) H  ?_)
    replace h := h
    show xq X d 61 Q 25 [(0, (2, 39)), (1, (0, l)), (2, (0, c))] [(0, xb (0 ≤ c ∧ c ≤ ((H 39 6) - 1)))] H
    refine xq_run [11, 25] 300 ?_
    show ((¬ xb (0 ≤ c ∧ c ≤ ((H 39 6) - 1)) = 0) → (xI (l * 64)) ∧ (xI ((l * 64) + c)) ∧ ((0 : Int) ≤ (l * 64) + c ∧ ((l * 64) + c : Int) < 512) ∧ xfR 0 (H 42 ((l * 64) + c)) ∧ xKZ = xKZ ∧ Q (H 42 ((l * 64) + c)) H) ∧ (¬ (¬ xb (0 ≤ c ∧ c ≤ ((H 39 6) - 1)) = 0) → xfR 0 (-1) ∧ xKZ = xKZ ∧ Q (-1) H)
    refine ⟨fun k_ => ?_, fun k_ => ?_⟩
    · replace h := h.1 (xbe_1.mp k_)
      refine ⟨h.1, ?_⟩
      replace h := h.2
      refine ⟨h.1, ?_⟩
      replace h := h.2
      refine ⟨h.1, ?_⟩
      replace h := h.2
      exact ⟨trivial, rfl, h⟩
    · replace h := h.2 (xbe_n.mp k_)
      exact ⟨trivial, rfl, h⟩

theorem s_61 {X : Int × (Int → Int)} {d : Nat} {Q : Int → XH → Prop} (hd : 2 ≤ d) (l c : Int) (H : XH) (p0 : 0 ≤ H 39 7 ∧ H 39 7 ≤ 8) (p1 : 0 ≤ H 39 6 ∧ H 39 6 ≤ 64) (hY : (0 ≤ l ∧ l < H 39 7) ∧ (0 ≤ c ∧ c < H 39 6) → Q (H 42 (l * 64 + c)) H) (hN : ¬ ((0 ≤ l ∧ l < H 39 7) ∧ (0 ≤ c ∧ c < H 39 6)) → Q (-1) H) : xc X d 61 [(2, 39), (0, l), (0, c)] H Q := by
  cases d with
  | zero => omega
  | succ d =>
  refine U_61 (by omega) l c H ?_
  refine ⟨?_, ?_⟩
  · first | omega | (unfold xI; omega) | (unfold xJ; omega) | assumption | (exfalso; omega)
  refine ⟨fun c1 => ?_, fun c1 => ?_⟩
  · skip
    refine ⟨?_, ?_⟩
    · first | omega | (unfold xI; omega) | (unfold xJ; omega) | assumption | (exfalso; omega)
    refine ⟨fun c2 => ?_, fun c2 => ?_⟩
    · skip
      refine ⟨?_, ?_⟩
      · first | omega | (unfold xI; omega) | (unfold xJ; omega) | assumption | (exfalso; omega)
      refine ⟨?_, ?_⟩
      · first | omega | (unfold xI; omega) | (unfold xJ; omega) | assumption | (exfalso; omega)
      refine ⟨?_, ?_⟩
      · first | omega | (unfold xI; omega) | (unfold xJ; omega) | assumption | (exfalso; omega)
      first | (exact hN (fun q => by omega)) | (exact xQrh (hY (by omega)) (by omega) rfl) | (exfalso; omega)
    · skip
      first | (exact hN (fun q => by omega)) | (exact xQrh (hY (by omega)) (by omega) rfl) | (exfalso; omega)
  · skip
    first | (exact hN (fun q => by omega)) | (exact xQrh (hY (by omega)) (by omega) rfl) | (exfalso; omega)

/-- the survey is asked: layer l, cell c -/
def lkA (w n : Int) (g : Int → Int) (H : XH) : Prop := GOk w n g ∧ lkOk w n g (H 40) (H 41) (H 42) (H 39)
theorem s_61b {X : Int × (Int → Int)} {d : Nat} {Q : Int → XH → Prop} (hd : 2 ≤ d) (w n : Int) (g : Int → Int) (l c : Int) (H : XH) (hk : lkA w n g H) (pl : 0 ≤ l ∧ l < g 1) (pc : 0 ≤ c ∧ c < n) (hQ : Q (frV w n g l c) H) : xc X d 61 [(2, 39), (0, l), (0, c)] H Q := by
  obtain ⟨hg, e6, e7, e8, hk⟩ := hk
  have nn := hg.nn
  have lyb := hg.lyb
  refine s_61 (by omega) l c H (by omega) (by omega) (fun _ => ?_) (fun q => absurd ⟨by omega, by omega⟩ q)
  rw [(hk c pc.1 pc.2).2.2 l pl.1 pl.2]
  exact hQ

theorem U_68 {X : Int × (Int → Int)} {d : Nat} {Q : Int → XH → Prop} (hd : 2 ≤ d) (l c : Int) (w n : Int) (g : Int → Int) (H : XH) (h : (lkA w n g H) ∧ (0 ≤ l ∧ l < g 1) ∧ (0 ≤ c ∧ c < n) ∧ (((frV w n g l c = (-1)) → Q 0 H) ∧ (¬ (frV w n g l c = (-1)) → ((H 39 8 < frV w n g l c) → Q 0 H) ∧ (¬ (H 39 8 < frV w n g l c) → Q 1 H)))) : xc X (d + 1) 68 [(2, 39), (0, l), (0, c)] H Q := by
  refine ⟨rfl, ?_⟩
  show xq X d 68 Q 100000 [(0, (2, 39)), (1, (0, l)), (2, (0, c))] [] H
  refine xq_run [6] 300 ?_
  show xWM (xE X) xMC d 61 [(2, 39), (0, l), (0, c)] xKZ H _
  refine xc_in (s_61b (by omega) w n g l c H (h.1) (h.2.1) (h.2.2.1) ?_)
  replace h := h.2.2.2
  show xq X d 68 Q 6 [(0, (2, 39)), (1, (0, l)), (2, (0, c))] [(0, frV w n g l c)] H
  refine xq_run [6] 300 ?_
  show ((frV w n g l c = (-1)) → xfR 3 0 ∧ xKZ = xKZ ∧ Q 0 H) ∧ (¬ (frV w n g l c = (-1)) → ((H 39 8 < frV w n g l c) → xfR 3 0 ∧ xKZ = xKZ ∧ Q 0 H) ∧ (¬ (H 39 8 < frV w n g l c) → xfR 3 1 ∧ xKZ = xKZ ∧ Q 1 H))
  refine ⟨fun k_ => ?_, fun k_ => ?_⟩
  · replace h := h.1 k_
    exact ⟨xfR3_0, rfl, h⟩
  · replace h := h.2 k_
    refine ⟨fun k_ => ?_, fun k_ => ?_⟩
    · replace h := h.1 k_
      exact ⟨xfR3_0, rfl, h⟩
    · replace h := h.2 k_
      exact ⟨xfR3_1, rfl, h⟩

theorem s_68 {X : Int × (Int → Int)} {d : Nat} {Q : Int → XH → Prop} (hd : 3 ≤ d) (w n : Int) (g : Int → Int) (l c : Int) (H : XH) (hk : lkA w n g H) (pl : 0 ≤ l ∧ l < g 1) (pc : 0 ≤ c ∧ c < n) (hQ : Q (alB w n g l c) H) : xc X d 68 [(2, 39), (0, l), (0, c)] H Q := by
  cases d with
  | zero => omega
  | succ d =>
  have e8 : H 39 8 = g 6 := hk.2.2.2.1
  unfold alB at hQ
  refine U_68 (by omega) l c w n g H ?_
  refine ⟨?_, ?_⟩
  · first | exact hk | omega
  refine ⟨?_, ?_⟩
  · first | exact hk | omega
  refine ⟨?_, ?_⟩
  · first | exact hk | omega
  refine ⟨fun c1 => ?_, fun c1 => ?_⟩
  · skip
    first | (rw [if_pos (by omega)] at hQ; exact hQ) | (rw [if_neg (by omega)] at hQ; exact hQ)
  · skip
    refine ⟨fun c2 => ?_, fun c2 => ?_⟩
    · skip
      first | (rw [if_pos (by omega)] at hQ; exact hQ) | (rw [if_neg (by omega)] at hQ; exact hQ)
    · skip
      first | (rw [if_pos (by omega)] at hQ; exact hQ) | (rw [if_neg (by omega)] at hQ; exact hQ)
