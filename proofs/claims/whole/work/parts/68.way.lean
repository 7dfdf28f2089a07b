/-! THE PURE LAYER 38: the pair way; who comes to whom -/
theorem U_106 {X : Int × (Int → Int)} {d : Nat} {Q : Int → XH → Prop} (hd : 8 ≤ d) (l : Int) (H : XH) (h : ((l = (-1)) → (GOk (H 67 0) (H 67 1) (H 68)) ∧ (∀ (J396 : Int) (h395 : XH), ((frM H h395 ∧ ((H 68 1 = 0 ∧ J396 = 0) ∨ (¬ H 68 1 = 0 ∧ yOk (H 67 0) (H 67 1) (H 68) ∧ mpK (H 67 0) (H 67 1) (H 68) (H 68 1).toNat h395 ∧ J396 = (if yR (H 67 0) (H 67 1) (H 68) (H 68 1).toNat (H 68 5) = -1 then 0 else 1)))) ∧ (J396 = 0 ∨ J396 = 1)) → ((¬ J396 = 0) → ((¬ l = (-1)) → xq X d 106 Q 43 [(0, (2, 67)), (1, (0, l)), (2, (0, h395 68 5)), (3, (0, 0))] [] h395) ∧ (¬ (¬ l = (-1)) → ((0 : Int) ≤ h395 68 5 ∧ (h395 68 5 : Int) < 576) ∧ Q (h395 81 (h395 68 5)) h395)) ∧ (¬ (¬ J396 = 0) → Q (-1) h395))) ∧ (¬ (l = (-1)) → (0 ≤ H 68 1 ∧ H 68 1 ≤ 8) ∧ ((((0 ≤ l ∧ l < H 68 1)) → (GOk (H 67 0) (H 67 1) (H 68)) ∧ (∀ (J398 : Int) (h397 : XH), ((frM H h397 ∧ ((H 68 1 = 0 ∧ J398 = 0) ∨ (¬ H 68 1 = 0 ∧ yOk (H 67 0) (H 67 1) (H 68) ∧ mpK (H 67 0) (H 67 1) (H 68) (H 68 1).toNat h397 ∧ J398 = (if yR (H 67 0) (H 67 1) (H 68) (H 68 1).toNat (H 68 5) = -1 then 0 else 1)))) ∧ (J398 = 0 ∨ J398 = 1)) → ((¬ J398 = 0) → ((¬ l = (-1)) → xq X d 106 Q 43 [(0, (2, 67)), (1, (0, l)), (2, (0, h397 68 5)), (3, (0, 0))] [] h397) ∧ (¬ (¬ l = (-1)) → ((0 : Int) ≤ h397 68 5 ∧ (h397 68 5 : Int) < 576) ∧ Q (h397 81 (h397 68 5)) h397)) ∧ (¬ (¬ J398 = 0) → Q (-1) h397))) ∧ (¬ ((0 ≤ l ∧ l < H 68 1)) → Q (-1) H)))) : xc X (d + 1) 106 [(2, 67), (0, l)] H Q := by
  refine ⟨rfl, ?_⟩
  show xq X d 106 Q 100000 [(0, (2, 67)), (1, (0, l))] [] H
  refine xq_run [10, 17, 43, 51, 59, 70] 300 ?_
  show ((l = (-1)) → xWM (xE X) xMC d 105 [(2, 67)] xKZ H _) ∧ (¬ (l = (-1)) → xWM (xE X) xMC d 63 [(2, 67), (0, l)] xKZ H _)
  refine ⟨fun k_ => ?_, fun k_ => ?_⟩
  · replace h := h.1 k_
    refine xc_in (s_105 (by omega) H (h.1) ?_)
    intro J396 h395 q_0
    replace h := h.2 J396 h395 q_0
    show xq X d 106 Q 17 [(0, (2, 67)), (1, (0, l))] [(0, J396)] h395
    refine xq_run [10, 17, 43, 51, 59, 70] 300 ?_
    show ((¬ J396 = 0) → ((0 : Int) ≤ 5 ∧ (5 : Int) < 1180) ∧ ((¬ l = (-1)) → xq X d 106 Q 43 [(0, (2, 67)), (1, (0, l)), (2, (0, h395 68 5)), (3, (0, 0))] [] h395) ∧ (¬ (¬ l = (-1)) → ((0 : Int) ≤ h395 68 5 ∧ (h395 68 5 : Int) < 576) ∧ xfR 0 (h395 81 (h395 68 5)) ∧ xKZ = xKZ ∧ Q (h395 81 (h395 68 5)) h395)) ∧ (¬ (¬ J396 = 0) → xfR 0 (-1) ∧ xKZ = xKZ ∧ Q (-1) h395)
    refine ⟨fun k_ => ?_, fun k_ => ?_⟩
    · replace h := h.1 k_
      refine ⟨⟨by decide, by decide⟩, ?_⟩
      refine ⟨fun k_ => ?_, fun k_ => ?_⟩
      · replace h := h.1 k_
        exact h
      · replace h := h.2 k_
        refine ⟨h.1, ?_⟩
        replace h := h.2
        exact ⟨trivial, rfl, h⟩
    · replace h := h.2 k_
      exact ⟨trivial, rfl, h⟩
  · replace h := h.2 k_
    refine xc_in (s_63 (by omega) l H (h.1) ?_)
    replace h := h.2
    show xq X d 106 Q 10 [(0, (2, 67)), (1, (0, l))] [(0, xb (0 ≤ l ∧ l < H 68 1))] H
    refine xq_run [10, 17, 43, 51, 59, 70] 300 ?_
    show ((xb (0 ≤ l ∧ l < H 68 1) = 0) → xfR 0 (-1) ∧ xKZ = xKZ ∧ Q (-1) H) ∧ (¬ (xb (0 ≤ l ∧ l < H 68 1) = 0) → xWM (xE X) xMC d 105 [(2, 67)] xKZ H _)
    refine ⟨fun k_ => ?_, fun k_ => ?_⟩
    · replace h := h.2 (xbe_0.mp k_)
      exact ⟨trivial, rfl, h⟩
    · replace h := h.1 (xbe_1.mp k_)
      refine xc_in (s_105 (by omega) H (h.1) ?_)
      intro J398 h397 q_0
      replace h := h.2 J398 h397 q_0
      show xq X d 106 Q 17 [(0, (2, 67)), (1, (0, l))] [(0, J398)] h397
      refine xq_run [10, 17, 43, 51, 59, 70] 300 ?_
      show ((¬ J398 = 0) → ((0 : Int) ≤ 5 ∧ (5 : Int) < 1180) ∧ ((¬ l = (-1)) → xq X d 106 Q 43 [(0, (2, 67)), (1, (0, l)), (2, (0, h397 68 5)), (3, (0, 0))] [] h397) ∧ (¬ (¬ l = (-1)) → ((0 : Int) ≤ h397 68 5 ∧ (h397 68 5 : Int) < 576) ∧ xfR 0 (h397 81 (h397 68 5)) ∧ xKZ = xKZ ∧ Q (h397 81 (h397 68 5)) h397)) ∧ (¬ (¬ J398 = 0) → xfR 0 (-1) ∧ xKZ = xKZ ∧ Q (-1) h397)
      refine ⟨fun k_ => ?_, fun k_ => ?_⟩
      · replace h := h.1 k_
        refine ⟨⟨by decide, by decide⟩, ?_⟩
        refine ⟨fun k_ => ?_, fun k_ => ?_⟩
        · replace h := h.1 k_
          exact h
        · replace h := h.2 k_
          refine ⟨h.1, ?_⟩
          replace h := h.2
          exact ⟨trivial, rfl, h⟩
      · replace h := h.2 k_
        exact ⟨trivial, rfl, h⟩
theorem U_106_43 {X : Int × (Int → Int)} {d : Nat} {Q : Int → XH → Prop} (hd : 0 ≤ d) (v1 v2 v3 : Int) (H : XH) (h : ((v1 < v3) → Q v2 H) ∧ (¬ (v1 < v3) → xq X d 106 Q 51 [(0, (2, 67)), (1, (0, v1)), (2, (0, v2)), (3, (0, v3)), (4, (0, 0))] [] H)) : xq X d 106 Q 43 [(0, (2, 67)), (1, (0, v1)), (2, (0, v2)), (3, (0, v3))] [] H := by
  show xq X d 106 Q 43 [(0, (2, 67)), (1, (0, v1)), (2, (0, v2)), (3, (0, v3))] [] H
  refine xq_run [10, 17, 43, 51, 59, 70] 300 ?_
  show ((v1 < v3) → xfR 0 v2 ∧ xKZ = xKZ ∧ Q v2 H) ∧ (¬ (v1 < v3) → xq X d 106 Q 51 [(0, (2, 67)), (1, (0, v1)), (2, (0, v2)), (3, (0, v3)), (4, (0, 0))] [] H)
  refine ⟨fun k_ => ?_, fun k_ => ?_⟩
  · replace h := h.1 k_
    exact ⟨trivial, rfl, h⟩
  · replace h := h.2 k_
    exact h
theorem U_106_51 {X : Int × (Int → Int)} {d : Nat} {Q : Int → XH → Prop} (hd : 1 ≤ d) (v1 v2 v3 v4 : Int) (H : XH) (h : (0 ≤ v3 ∧ v3 ≤ 7) ∧ (0 ≤ v2 ∧ v2 < 64) ∧ (0 ≤ v4 ∧ v4 < 64) ∧ ((((¬ H 83 (64 * v3 + v4) = -1 ∧ ¬ H 80 (64 * v2 + v4) = -1 ∧ H 81 (64 * v3 + 64 + v4) < 1000000000)) → (0 ≤ v3 ∧ v3 ≤ 7) ∧ (0 ≤ v2 ∧ v2 < 64) ∧ (0 ≤ v4 ∧ v4 < 64) ∧ (0 ≤ H 68 7 * H 80 (64 * v2 + v4) ∧ H 68 7 * H 80 (64 * v2 + v4) ≤ 10000) ∧ (-1 ≤ H 83 (64 * v3 + v4) ∧ H 83 (64 * v3 + v4) ≤ 1000) ∧ (0 ≤ H 81 (64 * v3 + 64 + v4) ∧ H 81 (64 * v3 + 64 + v4) ≤ 1000000000) ∧ ((xI (64 * v3)) ∧ (xI ((64 * v3) + v2)) ∧ ((0 : Int) ≤ (64 * v3) + v2 ∧ ((64 * v3) + v2 : Int) < 576) ∧ ((H 68 7 * H 80 (64 * v2 + v4) + H 83 (64 * v3 + v4) + H 81 (64 * v3 + 64 + v4) = H 81 ((64 * v3) + v2)) → (xI (v3 + 1)) ∧ xq X d 106 Q 43 [(0, (2, 67)), (1, (0, v1)), (2, (0, v4)), (3, (0, v3 + 1))] [] H) ∧ (¬ (H 68 7 * H 80 (64 * v2 + v4) + H 83 (64 * v3 + v4) + H 81 (64 * v3 + 64 + v4) = H 81 ((64 * v3) + v2)) → (xI (v4 + 1)) ∧ xq X d 106 Q 51 [(0, (2, 67)), (1, (0, v1)), (2, (0, v2)), (3, (0, v3)), (4, (0, v4 + 1))] [] H))) ∧ (¬ ((¬ H 83 (64 * v3 + v4) = -1 ∧ ¬ H 80 (64 * v2 + v4) = -1 ∧ H 81 (64 * v3 + 64 + v4) < 1000000000)) → (xI (v4 + 1)) ∧ xq X d 106 Q 51 [(0, (2, 67)), (1, (0, v1)), (2, (0, v2)), (3, (0, v3)), (4, (0, v4 + 1))] [] H))) : xq X d 106 Q 51 [(0, (2, 67)), (1, (0, v1)), (2, (0, v2)), (3, (0, v3)), (4, (0, v4))] [] H := by
  show xq X d 106 Q 51 [(0, (2, 67)), (1, (0, v1)), (2, (0, v2)), (3, (0, v3)), (4, (0, v4))] [] H
  refine xq_run [10, 17, 43, 51, 59, 70] 300 ?_
  show xWM (xE X) xMC d 102 [(2, 67), (0, v3), (0, v2), (0, v4)] xKZ H _
  refine xc_in (s_102 (by omega) v3 v2 v4 H (h.1) (h.2.1) (h.2.2.1) ?_)
  replace h := h.2.2.2
  show xq X d 106 Q 59 [(0, (2, 67)), (1, (0, v1)), (2, (0, v2)), (3, (0, v3)), (4, (0, v4))] [(0, xb (¬ H 83 (64 * v3 + v4) = -1 ∧ ¬ H 80 (64 * v2 + v4) = -1 ∧ H 81 (64 * v3 + 64 + v4) < 1000000000))] H
  refine xq_run [10, 17, 43, 51, 59, 70] 300 ?_
  show ((xb (¬ H 83 (64 * v3 + v4) = -1 ∧ ¬ H 80 (64 * v2 + v4) = -1 ∧ H 81 (64 * v3 + 64 + v4) < 1000000000) = 0) → (xI (v4 + 1)) ∧ xq X d 106 Q 51 [(0, (2, 67)), (1, (0, v1)), (2, (0, v2)), (3, (0, v3)), (4, (0, v4 + 1))] [] H) ∧ (¬ (xb (¬ H 83 (64 * v3 + v4) = -1 ∧ ¬ H 80 (64 * v2 + v4) = -1 ∧ H 81 (64 * v3 + 64 + v4) < 1000000000) = 0) → xWM (xE X) xMC d 103 [(2, 67), (0, v3), (0, v2), (0, v4)] xKZ H _)
  refine ⟨fun k_ => ?_, fun k_ => ?_⟩
  · replace h := h.2 (xbe_0.mp k_)
    refine ⟨h.1, ?_⟩
    replace h := h.2
    exact h
  · replace h := h.1 (xbe_1.mp k_)
    refine xc_in (s_103 (by omega) v3 v2 v4 H (h.1) (h.2.1) (h.2.2.1) (h.2.2.2.1) (h.2.2.2.2.1) (h.2.2.2.2.2.1) ?_)
    replace h := h.2.2.2.2.2.2
    show xq X d 106 Q 70 [(0, (2, 67)), (1, (0, v1)), (2, (0, v2)), (3, (0, v3)), (4, (0, v4))] [(0, H 68 7 * H 80 (64 * v2 + v4) + H 83 (64 * v3 + v4) + H 81 (64 * v3 + 64 + v4))] H
    refine xq_run [10, 17, 43, 51, 59, 70] 300 ?_
    show (xI (64 * v3)) ∧ (xI ((64 * v3) + v2)) ∧ ((0 : Int) ≤ (64 * v3) + v2 ∧ ((64 * v3) + v2 : Int) < 576) ∧ ((H 68 7 * H 80 (64 * v2 + v4) + H 83 (64 * v3 + v4) + H 81 (64 * v3 + 64 + v4) = H 81 ((64 * v3) + v2)) → (xI (v3 + 1)) ∧ xq X d 106 Q 43 [(0, (2, 67)), (1, (0, v1)), (2, (0, v4)), (3, (0, v3 + 1))] [] H) ∧ (¬ (H 68 7 * H 80 (64 * v2 + v4) + H 83 (64 * v3 + v4) + H 81 (64 * v3 + 64 + v4) = H 81 ((64 * v3) + v2)) → (xI (v4 + 1)) ∧ xq X d 106 Q 51 [(0, (2, 67)), (1, (0, v1)), (2, (0, v2)), (3, (0, v3)), (4, (0, v4 + 1))] [] H)
    refine ⟨h.1, ?_⟩
    replace h := h.2
    refine ⟨h.1, ?_⟩
    replace h := h.2
    refine ⟨h.1, ?_⟩
    replace h := h.2
    refine ⟨fun k_ => ?_, fun k_ => ?_⟩
    · replace h := h.1 k_
      refine ⟨h.1, ?_⟩
      replace h := h.2
      exact h
    · replace h := h.2 k_
      refine ⟨h.1, ?_⟩
      replace h := h.2
      exact h

theorem s_106 {X : Int × (Int → Int)} {d : Nat} {Q : Int → XH → Prop} (hd : 10 ≤ d) (l : Int) (H : XH) (hg : GOk (H 67 0) (H 67 1) (H 68)) (hQ : ∀ h1 : XH, frM H h1 → Q (vWay (H 67 0) (H 67 1) (H 68) l) h1) : xc X d 106 [(2, 67), (0, l)] H Q := by
  cases d with
  | zero => omega
  | succ d =>
  have nn := hg.nn
  have ww := hg.ww
  have lyb := hg.lyb
  have bnd := hg.bnd
  have stc := hg.stc
  obtain ⟨M, hM⟩ : ∃ M : Nat, (H 68 1).toNat = M := ⟨_, rfl⟩
  unfold vWay at hQ
  rw [hM] at hQ
  have no : ¬ (¬ H 68 1 < 1 ∧ (l = -1 ∨ (0 ≤ l ∧ l < H 68 1)) ∧ ¬ yR (H 67 0) (H 67 1) (H 68) M (H 68 5) = -1) → ∀ h, frM H h → Q (-1) h := fun q h f => by
    have k := hQ h f
    rw [if_neg q] at k
    exact k
  have keyJ : ∀ h, frM H h → yOk (H 67 0) (H 67 1) (H 68) → mpK (H 67 0) (H 67 1) (H 68) M h → ¬ yR (H 67 0) (H 67 1) (H 68) M (H 68 5) = -1 → 0 ≤ l → l < H 68 1 → ∀ (k j : Nat), (j : Int) + k = l + 1 → 0 ≤ yA (H 67 0) (H 67 1) (H 68) j → yA (H 67 0) (H 67 1) (H 68) j < H 67 1 → ¬ yR (H 67 0) (H 67 1) (H 68) (M - j) (yA (H 67 0) (H 67 1) (H 68) j) = -1 → xq X d 106 Q 43 [(0, (2, 67)), (1, (0, l)), (2, (0, yA (H 67 0) (H 67 1) (H 68) j)), (3, (0, (j : Int)))] [] h := by
    intro h f hy hm hs l0 l1 k
    have a8 := frM_o f 68 (by decide) (by decide)
    have a87 := congrFun a8 7
    have a1 := f.2 1 (by decide)
    induction k with
    | zero =>
      intro j hj y0 y1 hr
      have k := hQ h f
      rw [if_pos ⟨by omega, Or.inr ⟨l0, l1⟩, hs⟩, if_neg (by omega), show (l + 1).toNat = j by omega] at k
      refine U_106_43 (by omega) l _ (j : Int) h ?_
      refine ⟨fun c1 => ?_, fun c1 => ?_⟩
      · skip
        exact k
      · skip
        exfalso
        omega
    | succ k ih =>
      intro j hj y0 y1 hr
      obtain ⟨K, hK⟩ : ∃ K : Nat, M - (j + 1) = K := ⟨_, rfl⟩
      have hT := fun (c : Int) (c0 : 0 ≤ c) (c1 : c < (H 67 1).toNat) => ((yT_rng hg hy K (by omega) (yA (H 67 0) (H 67 1) (H 68) j) (by omega) y1).1 c c0 c1).1
      have ma := mn_at (ct := yT (H 67 0) (H 67 1) (H 68) K (yA (H 67 0) (H 67 1) (H 68) j)) (H 67 1).toNat hT
      have eR : mnR (yT (H 67 0) (H 67 1) (H 68) K (yA (H 67 0) (H 67 1) (H 68) j)) (H 67 1).toNat = yR (H 67 0) (H 67 1) (H 68) (M - j) (yA (H 67 0) (H 67 1) (H 68) j) := by
        rw [show M - j = K + 1 by omega]
        rfl
      have eB : mnB (yT (H 67 0) (H 67 1) (H 68) K (yA (H 67 0) (H 67 1) (H 68) j)) (H 67 1).toNat = yA (H 67 0) (H 67 1) (H 68) (j + 1) := by
        rw [yA_s _ _ _ (by omega), hM, hK]
      rw [eR, eB] at ma
      rcases ma with ⟨m1, -⟩ | ⟨m1, m2, m3, m4, m5⟩
      · exact absurd m1 hr
      have hl : (j : Int) = H 68 1 - ((K + 1 : Nat) : Int) := by omega
      have h81 := (hm.2.2 (M - j) (by omega) (yA (H 67 0) (H 67 1) (H 68) j) y0 y1).1
      rw [show 64 * (H 68 1 - ((M - j : Nat) : Int)) + yA (H 67 0) (H 67 1) (H 68) j = 64 * (j : Int) + yA (H 67 0) (H 67 1) (H 68) j by omega] at h81
      unfold mpL at h81
      rw [if_neg hr] at h81
      have gg := fun (c : Int) (c0 : 0 ≤ c) (c1 : c < H 67 1) => mp_go (k := K) hg hy (by omega) ⟨hm.1, hm.2.1, fun e e0 e1 => (hm.2.2 K (by omega) e e0 e1).1⟩ hl (f := yA (H 67 0) (H 67 1) (H 68) j) (c := c) y0 y1 c0 c1 a87
      have keyC : ∀ (m : Nat) (c : Int), c + m = yA (H 67 0) (H 67 1) (H 68) (j + 1) → 0 ≤ c → xq X d 106 Q 51 [(0, (2, 67)), (1, (0, l)), (2, (0, yA (H 67 0) (H 67 1) (H 68) j)), (3, (0, (j : Int))), (4, (0, c))] [] h := by
        intro m
        induction m with
        | zero =>
          intro c hc c0
          have ec : c = yA (H 67 0) (H 67 1) (H 68) (j + 1) := by omega
          have gg := gg c c0 (by omega)
          have nT : ¬ yT (H 67 0) (H 67 1) (H 68) K (yA (H 67 0) (H 67 1) (H 68) j) c = -1 := by rw [ec, m2]; exact hr
          have yt := yT_no hg hy (k := K) (by omega) (f := yA (H 67 0) (H 67 1) (H 68) j) (c := c) y0 y1 c0 (by omega)
          have nx := ih (j + 1) (by omega) (by omega) (by omega) (by
            rw [hK, ← ec]
            exact fun q => nT (yt.1.mpr (Or.inr (Or.inr q))))
          rw [← ec] at nx
          have e2 := (gg.2 nT).2.2.2
          rw [ec, m2, ← ec] at e2
          refine U_106_51 (by omega) l _ (j : Int) c h ?_
          refine ⟨?_, ?_⟩
          · first | omega | (exact (gg.2 nT).1) | (exact (gg.2 nT).2.1) | (exact (gg.2 nT).2.2.1) | (unfold xI; omega) | (exfalso; omega)
          refine ⟨?_, ?_⟩
          · first | omega | (exact (gg.2 nT).1) | (exact (gg.2 nT).2.1) | (exact (gg.2 nT).2.2.1) | (unfold xI; omega) | (exfalso; omega)
          refine ⟨?_, ?_⟩
          · first | omega | (exact (gg.2 nT).1) | (exact (gg.2 nT).2.1) | (exact (gg.2 nT).2.2.1) | (unfold xI; omega) | (exfalso; omega)
          refine ⟨fun c1 => ?_, fun c1 => ?_⟩
          · skip
            refine ⟨?_, ?_⟩
            · first | omega | (exact (gg.2 nT).1) | (exact (gg.2 nT).2.1) | (exact (gg.2 nT).2.2.1) | (unfold xI; omega) | (exfalso; omega)
            refine ⟨?_, ?_⟩
            · first | omega | (exact (gg.2 nT).1) | (exact (gg.2 nT).2.1) | (exact (gg.2 nT).2.2.1) | (unfold xI; omega) | (exfalso; omega)
            refine ⟨?_, ?_⟩
            · first | omega | (exact (gg.2 nT).1) | (exact (gg.2 nT).2.1) | (exact (gg.2 nT).2.2.1) | (unfold xI; omega) | (exfalso; omega)
            refine ⟨?_, ?_⟩
            · first | omega | (exact (gg.2 nT).1) | (exact (gg.2 nT).2.1) | (exact (gg.2 nT).2.2.1) | (unfold xI; omega) | (exfalso; omega)
            refine ⟨?_, ?_⟩
            · first | omega | (exact (gg.2 nT).1) | (exact (gg.2 nT).2.1) | (exact (gg.2 nT).2.2.1) | (unfold xI; omega) | (exfalso; omega)
            refine ⟨?_, ?_⟩
            · first | omega | (exact (gg.2 nT).1) | (exact (gg.2 nT).2.1) | (exact (gg.2 nT).2.2.1) | (unfold xI; omega) | (exfalso; omega)
            refine ⟨?_, ?_⟩
            · first | omega | (exact (gg.2 nT).1) | (exact (gg.2 nT).2.1) | (exact (gg.2 nT).2.2.1) | (unfold xI; omega) | (exfalso; omega)
            refine ⟨?_, ?_⟩
            · first | omega | (exact (gg.2 nT).1) | (exact (gg.2 nT).2.1) | (exact (gg.2 nT).2.2.1) | (unfold xI; omega) | (exfalso; omega)
            refine ⟨?_, ?_⟩
            · first | omega | (exact (gg.2 nT).1) | (exact (gg.2 nT).2.1) | (exact (gg.2 nT).2.2.1) | (unfold xI; omega) | (exfalso; omega)
            refine ⟨fun c2 => ?_, fun c2 => ?_⟩
            · skip
              refine ⟨?_, ?_⟩
              · first | omega | (exact (gg.2 nT).1) | (exact (gg.2 nT).2.1) | (exact (gg.2 nT).2.2.1) | (unfold xI; omega) | (exfalso; omega)
              exact nx
            · skip
              refine ⟨?_, ?_⟩
              · first | omega | (exact (gg.2 nT).1) | (exact (gg.2 nT).2.1) | (exact (gg.2 nT).2.2.1) | (unfold xI; omega) | (exfalso; omega)
              exact absurd (e2.trans h81.symm) (by assumption)
          · skip
            refine ⟨?_, ?_⟩
            · first | omega | (exact (gg.2 nT).1) | (exact (gg.2 nT).2.1) | (exact (gg.2 nT).2.2.1) | (unfold xI; omega) | (exfalso; omega)
            exact absurd (gg.1.mpr nT) (by assumption)
        | succ m ihc =>
          intro c hc c0
          have gg := gg c c0 (by omega)
          have nx := ihc (c + 1) (by omega) (by omega)
          have m5 := m5 c c0 (by omega)
          refine U_106_51 (by omega) l _ (j : Int) c h ?_
          refine ⟨?_, ?_⟩
          · first | omega | (exact (gg.2 (gg.1.mp (by assumption))).1) | (exact (gg.2 (gg.1.mp (by assumption))).2.1) | (exact (gg.2 (gg.1.mp (by assumption))).2.2.1) | (unfold xI; omega) | (exfalso; omega)
          refine ⟨?_, ?_⟩
          · first | omega | (exact (gg.2 (gg.1.mp (by assumption))).1) | (exact (gg.2 (gg.1.mp (by assumption))).2.1) | (exact (gg.2 (gg.1.mp (by assumption))).2.2.1) | (unfold xI; omega) | (exfalso; omega)
          refine ⟨?_, ?_⟩
          · first | omega | (exact (gg.2 (gg.1.mp (by assumption))).1) | (exact (gg.2 (gg.1.mp (by assumption))).2.1) | (exact (gg.2 (gg.1.mp (by assumption))).2.2.1) | (unfold xI; omega) | (exfalso; omega)
          refine ⟨fun c1 => ?_, fun c1 => ?_⟩
          · skip
            refine ⟨?_, ?_⟩
            · first | omega | (exact (gg.2 (gg.1.mp (by assumption))).1) | (exact (gg.2 (gg.1.mp (by assumption))).2.1) | (exact (gg.2 (gg.1.mp (by assumption))).2.2.1) | (unfold xI; omega) | (exfalso; omega)
            refine ⟨?_, ?_⟩
            · first | omega | (exact (gg.2 (gg.1.mp (by assumption))).1) | (exact (gg.2 (gg.1.mp (by assumption))).2.1) | (exact (gg.2 (gg.1.mp (by assumption))).2.2.1) | (unfold xI; omega) | (exfalso; omega)
            refine ⟨?_, ?_⟩
            · first | omega | (exact (gg.2 (gg.1.mp (by assumption))).1) | (exact (gg.2 (gg.1.mp (by assumption))).2.1) | (exact (gg.2 (gg.1.mp (by assumption))).2.2.1) | (unfold xI; omega) | (exfalso; omega)
            refine ⟨?_, ?_⟩
            · first | omega | (exact (gg.2 (gg.1.mp (by assumption))).1) | (exact (gg.2 (gg.1.mp (by assumption))).2.1) | (exact (gg.2 (gg.1.mp (by assumption))).2.2.1) | (unfold xI; omega) | (exfalso; omega)
            refine ⟨?_, ?_⟩
            · first | omega | (exact (gg.2 (gg.1.mp (by assumption))).1) | (exact (gg.2 (gg.1.mp (by assumption))).2.1) | (exact (gg.2 (gg.1.mp (by assumption))).2.2.1) | (unfold xI; omega) | (exfalso; omega)
            refine ⟨?_, ?_⟩
            · first | omega | (exact (gg.2 (gg.1.mp (by assumption))).1) | (exact (gg.2 (gg.1.mp (by assumption))).2.1) | (exact (gg.2 (gg.1.mp (by assumption))).2.2.1) | (unfold xI; omega) | (exfalso; omega)
            refine ⟨?_, ?_⟩
            · first | omega | (exact (gg.2 (gg.1.mp (by assumption))).1) | (exact (gg.2 (gg.1.mp (by assumption))).2.1) | (exact (gg.2 (gg.1.mp (by assumption))).2.2.1) | (unfold xI; omega) | (exfalso; omega)
            refine ⟨?_, ?_⟩
            · first | omega | (exact (gg.2 (gg.1.mp (by assumption))).1) | (exact (gg.2 (gg.1.mp (by assumption))).2.1) | (exact (gg.2 (gg.1.mp (by assumption))).2.2.1) | (unfold xI; omega) | (exfalso; omega)
            refine ⟨?_, ?_⟩
            · first | omega | (exact (gg.2 (gg.1.mp (by assumption))).1) | (exact (gg.2 (gg.1.mp (by assumption))).2.1) | (exact (gg.2 (gg.1.mp (by assumption))).2.2.1) | (unfold xI; omega) | (exfalso; omega)
            refine ⟨fun c2 => ?_, fun c2 => ?_⟩
            · skip
              refine ⟨?_, ?_⟩
              · first | omega | (exact (gg.2 (gg.1.mp (by assumption))).1) | (exact (gg.2 (gg.1.mp (by assumption))).2.1) | (exact (gg.2 (gg.1.mp (by assumption))).2.2.1) | (unfold xI; omega) | (exfalso; omega)
              have t1 := gg.1.mp (by assumption)
              have t2 := (gg.2 t1).2.2.2
              have t3 : yT (H 67 0) (H 67 1) (H 68) K (yA (H 67 0) (H 67 1) (H 68) j) c = yR (H 67 0) (H 67 1) (H 68) (M - j) (yA (H 67 0) (H 67 1) (H 68) j) := by
                rw [← t2, ← h81]
                assumption
              exfalso
              rcases m5 with q | q
              · exact t1 q
              · omega
            · skip
              refine ⟨?_, ?_⟩
              · first | omega | (exact (gg.2 (gg.1.mp (by assumption))).1) | (exact (gg.2 (gg.1.mp (by assumption))).2.1) | (exact (gg.2 (gg.1.mp (by assumption))).2.2.1) | (unfold xI; omega) | (exfalso; omega)
              exact nx
          · skip
            refine ⟨?_, ?_⟩
            · first | omega | (exact (gg.2 (gg.1.mp (by assumption))).1) | (exact (gg.2 (gg.1.mp (by assumption))).2.1) | (exact (gg.2 (gg.1.mp (by assumption))).2.2.1) | (unfold xI; omega) | (exfalso; omega)
            exact nx
      have z := keyC (yA (H 67 0) (H 67 1) (H 68) (j + 1)).toNat 0 (by omega) (by decide)
      refine U_106_43 (by omega) l _ (j : Int) h ?_
      refine ⟨fun c1 => ?_, fun c1 => ?_⟩
      · skip
        exfalso
        omega
      · skip
        exact z
  refine U_106 (by omega) l H ?_
  refine ⟨fun c1 => ?_, fun c1 => ?_⟩
  · skip
    refine ⟨?_, ?_⟩
    · first | omega | exact hg | (rw [frM_o uu.1.1 68 (by decide) (by decide)]; unfold xI; omega) | (rw [frM_o uu.1.1 68 (by decide) (by decide)]; omega) | (unfold xI; omega)
    intro J416 h415 c2
    have uu := c2
    refine ⟨fun c3 => ?_, fun c3 => ?_⟩
    · skip
      refine ⟨fun c4 => ?_, fun c4 => ?_⟩
      · skip
        obtain ⟨⟨f, u⟩, -⟩ := uu
        have a8 := frM_o f 68 (by decide) (by decide)
        have a85 := congrFun a8 5
        rcases u with ⟨u1, u2⟩ | ⟨u1, u2, u3, u4⟩
        · first | exact absurd u2 (by omega) | exact no (fun q => by omega) _ f
        · rw [hM] at u3 u4
          have h81 := (u3.2.2 M (Nat.le_refl _) (H 68 5) stc.1 stc.2).1
          rw [show 64 * (H 68 1 - (M : Int)) + H 68 5 = H 68 5 by omega] at h81
          unfold mpL at h81
          by_cases q : yR (H 67 0) (H 67 1) (H 68) M (H 68 5) = -1
          · rw [if_pos q] at u4
            first | exact no (fun z => z.2.2 q) _ f | (exfalso; omega)
          · rw [if_neg q] at u4 h81
            first | (exfalso; omega) | (rw [a85]; exact keyJ _ f u2 u3 q (by omega) (by omega) (l + 1).toNat 0 (by omega) stc.1 stc.2 q) | (rw [a85, h81]; have k := hQ _ f; rw [if_pos ⟨by omega, by omega, q⟩, if_pos (by omega)] at k; exact k)
      · skip
        refine ⟨?_, ?_⟩
        · first | omega | exact hg | (rw [frM_o uu.1.1 68 (by decide) (by decide)]; unfold xI; omega) | (rw [frM_o uu.1.1 68 (by decide) (by decide)]; omega) | (unfold xI; omega)
        obtain ⟨⟨f, u⟩, -⟩ := uu
        have a8 := frM_o f 68 (by decide) (by decide)
        have a85 := congrFun a8 5
        rcases u with ⟨u1, u2⟩ | ⟨u1, u2, u3, u4⟩
        · first | exact absurd u2 (by omega) | exact no (fun q => by omega) _ f
        · rw [hM] at u3 u4
          have h81 := (u3.2.2 M (Nat.le_refl _) (H 68 5) stc.1 stc.2).1
          rw [show 64 * (H 68 1 - (M : Int)) + H 68 5 = H 68 5 by omega] at h81
          unfold mpL at h81
          by_cases q : yR (H 67 0) (H 67 1) (H 68) M (H 68 5) = -1
          · rw [if_pos q] at u4
            first | exact no (fun z => z.2.2 q) _ f | (exfalso; omega)
          · rw [if_neg q] at u4 h81
            first | (exfalso; omega) | (rw [a85]; exact keyJ _ f u2 u3 q (by omega) (by omega) (l + 1).toNat 0 (by omega) stc.1 stc.2 q) | (rw [a85, h81]; have k := hQ _ f; rw [if_pos ⟨by omega, by omega, q⟩, if_pos (by omega)] at k; exact k)
    · skip
      obtain ⟨⟨f, u⟩, -⟩ := uu
      have a8 := frM_o f 68 (by decide) (by decide)
      have a85 := congrFun a8 5
      rcases u with ⟨u1, u2⟩ | ⟨u1, u2, u3, u4⟩
      · first | exact absurd u2 (by omega) | exact no (fun q => by omega) _ f
      · rw [hM] at u3 u4
        have h81 := (u3.2.2 M (Nat.le_refl _) (H 68 5) stc.1 stc.2).1
        rw [show 64 * (H 68 1 - (M : Int)) + H 68 5 = H 68 5 by omega] at h81
        unfold mpL at h81
        by_cases q : yR (H 67 0) (H 67 1) (H 68) M (H 68 5) = -1
        · rw [if_pos q] at u4
          first | exact no (fun z => z.2.2 q) _ f | (exfalso; omega)
        · rw [if_neg q] at u4 h81
          first | (exfalso; omega) | (rw [a85]; exact keyJ _ f u2 u3 q (by omega) (by omega) (l + 1).toNat 0 (by omega) stc.1 stc.2 q) | (rw [a85, h81]; have k := hQ _ f; rw [if_pos ⟨by omega, by omega, q⟩, if_pos (by omega)] at k; exact k)
  · skip
    refine ⟨?_, ?_⟩
    · first | omega | exact hg | (rw [frM_o uu.1.1 68 (by decide) (by decide)]; unfold xI; omega) | (rw [frM_o uu.1.1 68 (by decide) (by decide)]; omega) | (unfold xI; omega)
    refine ⟨fun c5 => ?_, fun c5 => ?_⟩
    · skip
      refine ⟨?_, ?_⟩
      · first | omega | exact hg | (rw [frM_o uu.1.1 68 (by decide) (by decide)]; unfold xI; omega) | (rw [frM_o uu.1.1 68 (by decide) (by decide)]; omega) | (unfold xI; omega)
      intro J418 h417 c6
      have uu := c6
      refine ⟨fun c7 => ?_, fun c7 => ?_⟩
      · skip
        refine ⟨fun c8 => ?_, fun c8 => ?_⟩
        · skip
          obtain ⟨⟨f, u⟩, -⟩ := uu
          have a8 := frM_o f 68 (by decide) (by decide)
          have a85 := congrFun a8 5
          rcases u with ⟨u1, u2⟩ | ⟨u1, u2, u3, u4⟩
          · first | exact absurd u2 (by omega) | exact no (fun q => by omega) _ f
          · rw [hM] at u3 u4
            have h81 := (u3.2.2 M (Nat.le_refl _) (H 68 5) stc.1 stc.2).1
            rw [show 64 * (H 68 1 - (M : Int)) + H 68 5 = H 68 5 by omega] at h81
            unfold mpL at h81
            by_cases q : yR (H 67 0) (H 67 1) (H 68) M (H 68 5) = -1
            · rw [if_pos q] at u4
              first | exact no (fun z => z.2.2 q) _ f | (exfalso; omega)
            · rw [if_neg q] at u4 h81
              first | (exfalso; omega) | (rw [a85]; exact keyJ _ f u2 u3 q (by omega) (by omega) (l + 1).toNat 0 (by omega) stc.1 stc.2 q) | (rw [a85, h81]; have k := hQ _ f; rw [if_pos ⟨by omega, by omega, q⟩, if_pos (by omega)] at k; exact k)
        · skip
          refine ⟨?_, ?_⟩
          · first | omega | exact hg | (rw [frM_o uu.1.1 68 (by decide) (by decide)]; unfold xI; omega) | (rw [frM_o uu.1.1 68 (by decide) (by decide)]; omega) | (unfold xI; omega)
          obtain ⟨⟨f, u⟩, -⟩ := uu
          have a8 := frM_o f 68 (by decide) (by decide)
          have a85 := congrFun a8 5
          rcases u with ⟨u1, u2⟩ | ⟨u1, u2, u3, u4⟩
          · first | exact absurd u2 (by omega) | exact no (fun q => by omega) _ f
          · rw [hM] at u3 u4
            have h81 := (u3.2.2 M (Nat.le_refl _) (H 68 5) stc.1 stc.2).1
            rw [show 64 * (H 68 1 - (M : Int)) + H 68 5 = H 68 5 by omega] at h81
            unfold mpL at h81
            by_cases q : yR (H 67 0) (H 67 1) (H 68) M (H 68 5) = -1
            · rw [if_pos q] at u4
              first | exact no (fun z => z.2.2 q) _ f | (exfalso; omega)
            · rw [if_neg q] at u4 h81
              first | (exfalso; omega) | (rw [a85]; exact keyJ _ f u2 u3 q (by omega) (by omega) (l + 1).toNat 0 (by omega) stc.1 stc.2 q) | (rw [a85, h81]; have k := hQ _ f; rw [if_pos ⟨by omega, by omega, q⟩, if_pos (by omega)] at k; exact k)
      · skip
        obtain ⟨⟨f, u⟩, -⟩ := uu
        have a8 := frM_o f 68 (by decide) (by decide)
        have a85 := congrFun a8 5
        rcases u with ⟨u1, u2⟩ | ⟨u1, u2, u3, u4⟩
        · first | exact absurd u2 (by omega) | exact no (fun q => by omega) _ f
        · rw [hM] at u3 u4
          have h81 := (u3.2.2 M (Nat.le_refl _) (H 68 5) stc.1 stc.2).1
          rw [show 64 * (H 68 1 - (M : Int)) + H 68 5 = H 68 5 by omega] at h81
          unfold mpL at h81
          by_cases q : yR (H 67 0) (H 67 1) (H 68) M (H 68 5) = -1
          · rw [if_pos q] at u4
            first | exact no (fun z => z.2.2 q) _ f | (exfalso; omega)
          · rw [if_neg q] at u4 h81
            first | (exfalso; omega) | (rw [a85]; exact keyJ _ f u2 u3 q (by omega) (by omega) (l + 1).toNat 0 (by omega) stc.1 stc.2 q) | (rw [a85, h81]; have k := hQ _ f; rw [if_pos ⟨by omega, by omega, q⟩, if_pos (by omega)] at k; exact k)
    · skip
      exact no (by omega) _ (frM_refl H)

theorem p_way {X : Int × (Int → Int)} {d : Nat} (hd : 12 ≤ d) (l : Int) (H : XH) (hi : InvS H) : xc X d 100 [(2, 0), (0, l)] H (fun r H1 => xc X d 106 [(2, 67), (0, l)] H1 (qOk H r)) :=
  s_100 (by omega) l H hi (fun h1 f => s_106 (by omega) l h1 (frC_S f hi).1 (fun h2 f' => ⟨by rw [f 67 (by decide) (by decide), f 68 (by decide) (by decide)], frQ_CM f f'⟩))

/-- who comes to whom -/
theorem DS_tr {w n : Int} {br : Int → Int} {f c : Int} {D D' : Int → Int} (h : DS w n br f D) (h' : DS w n br c D') (hc : ¬ D c = -1) : ∀ (k : Nat) (e : Int), 0 ≤ e → e < n → D' e = k → ¬ D e = -1 := by
  intro k
  induction k with
  | zero =>
    intro e e0 e1 he
    rcases h'.up e e0 e1 (by omega) with ⟨q, -⟩ | ⟨p, p0, p1, p2, -⟩
    · rw [q]
      exact hc
    · have := h'.rg p p0.1 p0.2
      omega
  | succ k ih =>
    intro e e0 e1 he
    rcases h'.up e e0 e1 (by omega) with ⟨q, -⟩ | ⟨p, p0, p1, p2, p3⟩
    · rw [q]
      exact hc
    · have z := ih p p0.1 p0.2 (by omega)
      have b : br e = 0 := by
        by_cases q : br e = 0
        · exact q
        · have := h'.bl e e0 e1 q
          omega
      exact (h.nx p e p0.1 p0.2 e0 e1 z p3 b).1
theorem DS_me {w n : Int} {br : Int → Int} {f : Int} {D : Int → Int} (h : DS w n br f D) : ∀ (k : Nat) (e : Int), 0 ≤ e → e < n → D e = k → ¬ D f = -1 := by
  intro k
  induction k with
  | zero =>
    intro e e0 e1 he
    rcases h.up e e0 e1 (by omega) with ⟨q, q2⟩ | ⟨p, p0, p1, p2, -⟩
    · rw [← q]
      omega
    · have := h.rg p p0.1 p0.2
      omega
  | succ k ih =>
    intro e e0 e1 he
    rcases h.up e e0 e1 (by omega) with ⟨q, q2⟩ | ⟨p, p0, p1, p2, -⟩
    · omega
    · exact ih p p0.1 p0.2 (by omega)
theorem DS_sy {w n : Int} {br : Int → Int} {f : Int} {D : Int → Int} {R : Int → Int → Int} (hR : ∀ c, 0 ≤ c → c < n → DS w n br c (R c)) (h : DS w n br f D) (f0 : 0 ≤ f) (f1 : f < n) : ∀ (k : Nat) (e : Int), 0 ≤ e → e < n → D e = k → ¬ R e f = -1 := by
  intro k
  induction k with
  | zero =>
    intro e e0 e1 he
    rcases h.up e e0 e1 (by omega) with ⟨q, q2⟩ | ⟨p, p0, p1, p2, -⟩
    · subst q
      have b : br e = 0 := by
        by_cases q : br e = 0
        · exact q
        · have := h.bl e e0 e1 q
          omega
      rw [(hR e e0 e1).st, if_pos b]
      decide
    · have := h.rg p p0.1 p0.2
      omega
  | succ k ih =>
    intro e e0 e1 he
    have b : ∀ x, 0 ≤ x → x < n → ¬ D x = -1 → br x = 0 := fun x x0 x1 y => by
      by_cases q : br x = 0
      · exact q
      · have := h.bl x x0 x1 q
        omega
    rcases h.up e e0 e1 (by omega) with ⟨q, q2⟩ | ⟨p, p0, p1, p2, p3⟩
    · omega
    · have z := ih p p0.1 p0.2 (by omega)
      have s : ¬ R e e = -1 := by
        rw [(hR e e0 e1).st, if_pos (b e e0 e1 (by omega))]
        decide
      have y := ((hR e e0 e1).nx e p e0 e1 p0.1 p0.2 s (by rw [btw_comm]; exact p3) (b p p0.1 p0.2 p1)).1
      have r := (hR p p0.1 p0.2).rg f f0 f1
      exact DS_tr (hR e e0 e1) (hR p p0.1 p0.2) y (R p f).toNat f f0 f1 (by omega)
/-- those that a cell comes to which START comes to are those that START comes to -/
theorem wy_same {w n : Int} {g : Int → Int} (hy : yOk w n g) {s f c : Int} (s0 : 0 ≤ s) (s1 : s < n) (f0 : 0 ≤ f) (f1 : f < n) (c0 : 0 ≤ c) (c1 : c < n) (h : ¬ wyD w n g s f = -1) : wyD w n g f c = -1 ↔ wyD w n g s c = -1 := by
  have rs := (hy s s0 s1).rg
  have rf := (hy f f0 f1).rg
  constructor
  · intro q
    by_cases y : wyD w n g s c = -1
    · exact y
    · have z := DS_sy (R := wyD w n g) (fun x a b => hy x a b) (hy s s0 s1) s0 s1 (wyD w n g s f).toNat f f0 f1 (by have := rs f f0 f1; omega)
      exact absurd q (DS_tr (hy f f0 f1) (hy s s0 s1) z (wyD w n g s c).toNat c c0 c1 (by have := rs c c0 c1; omega))
  · intro q
    by_cases y : wyD w n g f c = -1
    · exact y
    · exact absurd q (DS_tr (hy s s0 s1) (hy f f0 f1) h (wyD w n g f c).toNat c c0 c1 (by have := rf c c0 c1; omega))
theorem wy_none {w n : Int} {g : Int → Int} (hy : yOk w n g) {s c : Int} (s0 : 0 ≤ s) (s1 : s < n) (c0 : 0 ≤ c) (c1 : c < n) (h : wyD w n g s s = -1) : wyD w n g s c = -1 := by
  by_cases y : wyD w n g s c = -1
  · exact y
  · exact absurd h (DS_me (hy s s0 s1) (wyD w n g s c).toNat c c0 c1 (by have := (hy s s0 s1).rg c c0 c1; omega))
