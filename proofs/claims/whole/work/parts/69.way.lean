/-! THE PURE LAYER 39: how many ways: the pair ways -/
theorem saT_mul {a b : Int} (ha : 0 ≤ a) (hb : 0 ≤ b) : saT (saT a * b) = saT (a * b) := by
  unfold saT
  by_cases q : a ≤ 1000000
  · rw [if_pos q]
  · rw [if_neg q]
    by_cases z : b = 0
    · rw [z, Int.mul_zero, Int.mul_zero]
    · have h1 : 1000000 * 1 ≤ 1000000 * b := Int.mul_le_mul_of_nonneg_left (by omega) (by decide)
      have h2 : a * 1 ≤ a * b := Int.mul_le_mul_of_nonneg_left (by omega) ha
      rw [if_neg (show ¬ a * b ≤ 1000000 by omega)]
      split <;> omega
theorem saT_add {a b : Int} (ha : 0 ≤ a) (hb : 0 ≤ b) : saT (saT a + saT b) = saT (a + b) := by
  unfold saT
  repeat' split
  all_goals omega
/-- the cells of a layer that START comes to -/
noncomputable def opR (w n : Int) (g : Int → Int) (l : Int) : Nat → Int
  | 0 => 0
  | j + 1 => if alB w n g l j = 0 ∨ wyD w n g (g 5) j = -1 then opR w n g l j else opR w n g l j + 1
noncomputable def bkP (w n : Int) (g : Int → Int) : Nat → Int
  | 0 => 1
  | k + 1 => opR w n g (g 1 - ((k + 1 : Nat) : Int)) n.toNat * bkP w n g k
noncomputable def fwP (w n : Int) (g : Int → Int) : Nat → Int
  | 0 => 1
  | l + 1 => fwP w n g l * opR w n g (l : Int) n.toNat
theorem opR_rng (w n : Int) (g : Int → Int) (l : Int) : ∀ j : Nat, 0 ≤ opR w n g l j ∧ opR w n g l j ≤ j
  | 0 => ⟨Int.le_refl _, Int.le_refl _⟩
  | j + 1 => by
    have ih := opR_rng w n g l j
    unfold opR
    split <;> omega
theorem bkP_0 (w n : Int) (g : Int → Int) : ∀ k : Nat, 0 ≤ bkP w n g k
  | 0 => by unfold bkP; decide
  | k + 1 => by
    unfold bkP
    exact Int.mul_nonneg (opR_rng w n g _ _).1 (bkP_0 w n g k)
theorem fwP_0 (w n : Int) (g : Int → Int) : ∀ k : Nat, 0 ≤ fwP w n g k
  | 0 => by unfold fwP; decide
  | k + 1 => by
    unfold fwP
    exact Int.mul_nonneg (fwP_0 w n g k) (opR_rng w n g _ _).1
theorem fw_bk (w n : Int) (g : Int → Int) {M : Nat} (hM : (M : Int) = g 1) : ∀ k : Nat, k ≤ M → fwP w n g (M - k) * bkP w n g k = fwP w n g M
  | 0, _ => by
    rw [Nat.sub_zero]
    exact Int.mul_one _
  | k + 1, h => by
    have ih := fw_bk w n g hM k (by omega)
    obtain ⟨K, hK⟩ : ∃ K : Nat, M - (k + 1) = K := ⟨_, rfl⟩
    rw [show M - k = K + 1 by omega] at ih
    have e1 : fwP w n g (K + 1) = fwP w n g K * opR w n g (K : Int) n.toNat := rfl
    have e2 : bkP w n g (k + 1) = opR w n g (g 1 - ((k + 1 : Nat) : Int)) n.toNat * bkP w n g k := rfl
    rw [e1] at ih
    rw [hK, e2, show g 1 - ((k + 1 : Nat) : Int) = (K : Int) by omega, ← Int.mul_assoc]
    exact ih
theorem fw_bk_M (w n : Int) (g : Int → Int) {M : Nat} (hM : (M : Int) = g 1) : bkP w n g M = fwP w n g M := by
  have h := fw_bk w n g hM M (Nat.le_refl _)
  rw [Nat.sub_self] at h
  have e : fwP w n g 0 = 1 := rfl
  rw [e, Int.one_mul] at h
  exact h
theorem mnR_none {ct : Int → Int} : ∀ j : Nat, (∀ e : Int, 0 ≤ e → e < j → ct e = -1) → mnR ct j = -1
  | 0, _ => rfl
  | j + 1, h => by
    unfold mnR
    rw [if_pos (h j (by omega) (by omega))]
    exact mnR_none j (fun e a b => h e a (by omega))
theorem stR_none {t v : Int → Int} : ∀ j : Nat, (∀ e : Int, 0 ≤ e → e < j → t e = -1) → stR t v j = 0
  | 0, _ => rfl
  | j + 1, h => by
    unfold stR
    rw [if_pos (h j (by omega) (by omega))]
    exact stR_none j (fun e a b => h e a (by omega))
theorem ways_k {w n : Int} {g : Int → Int} (hg : GOk w n g) (hy : yOk w n g) : ∀ k : Nat, (k : Int) ≤ g 1 → ∀ f, 0 ≤ f → f < n → ¬ wyD w n g (g 5) f = -1 → (yR w n g k f = -1 ↔ bkP w n g k = 0) ∧ yW w n g k f = saT (bkP w n g k) := by
  intro k
  have stc := hg.stc
  induction k with
  | zero =>
    intro hk f f0 f1 hf
    have e : bkP w n g 0 = 1 := rfl
    have e2 : yW w n g 0 f = 1 := rfl
    have e3 : saT 1 = 1 := by decide
    rw [yR_0, e, e2, e3]
    exact ⟨⟨fun q => absurd q (by decide), fun q => absurd q (by decide)⟩, rfl⟩
  | succ k ih =>
    intro hk f f0 f1 hf
    have ih := ih (by omega)
    obtain ⟨l, hl⟩ : ∃ l, g 1 - ((k + 1 : Nat) : Int) = l := ⟨_, rfl⟩
    have eb : bkP w n g (k + 1) = opR w n g l n.toNat * bkP w n g k := by
      rw [← hl]
      rfl
    have eR : yR w n g (k + 1) f = mnR (yT w n g k f) n.toNat := rfl
    have eW : yW w n g (k + 1) f = stR (yT w n g k f) (yW w n g k) n.toNat := rfl
    have yt : ∀ c, 0 ≤ c → c < n → (yT w n g k f c = -1 ↔ (wyD w n g (g 5) c = -1 ∨ alB w n g l c = 0 ∨ yR w n g k c = -1)) := fun c c0 c1 => by
      have z := (yT_no hg hy (k := k) (by omega) f0 f1 c0 c1).1
      have y := wy_same hy stc.1 stc.2 f0 f1 c0 c1 hf
      rw [hl] at z
      rw [z, y]
    rw [eR, eW, eb]
    by_cases q : bkP w n g k = 0
    · have an : ∀ c : Int, 0 ≤ c → c < n.toNat → yT w n g k f c = -1 := fun c c0 c1 => by
        refine (yt c c0 (by omega)).mpr ?_
        by_cases z : wyD w n g (g 5) c = -1
        · exact Or.inl z
        · exact Or.inr (Or.inr ((ih c c0 (by omega) z).1.mpr q))
      rw [mnR_none _ an, stR_none _ an, q, Int.mul_zero]
      exact ⟨⟨fun _ => rfl, fun _ => rfl⟩, by decide⟩
    · have b0 := bkP_0 w n g k
      generalize bkP w n g k = P at *
      have key : ∀ j : Nat, (j : Int) ≤ n → (mnR (yT w n g k f) j = -1 ↔ opR w n g l j = 0) ∧ stR (yT w n g k f) (yW w n g k) j = saT (opR w n g l j * P) := by
        intro j
        induction j with
        | zero =>
          intro _
          have e1 : mnR (yT w n g k f) 0 = -1 := rfl
          have e2 : stR (yT w n g k f) (yW w n g k) 0 = 0 := rfl
          have e3 : opR w n g l 0 = 0 := rfl
          rw [e1, e2, e3, Int.zero_mul]
          exact ⟨⟨fun _ => rfl, fun _ => rfl⟩, by decide⟩
        | succ j ihj =>
          intro hj
          have ihj := ihj (by omega)
          have yj := yt (j : Int) (by omega) (by omega)
          have oj := opR_rng w n g l j
          have e3 : opR w n g l (j + 1) = if alB w n g l (j : Int) = 0 ∨ wyD w n g (g 5) (j : Int) = -1 then opR w n g l j else opR w n g l j + 1 := rfl
          have e1 : mnR (yT w n g k f) (j + 1) = if yT w n g k f (j : Int) = -1 then mnR (yT w n g k f) j else if mnR (yT w n g k f) j = -1 ∨ yT w n g k f (j : Int) < mnR (yT w n g k f) j then yT w n g k f (j : Int) else mnR (yT w n g k f) j := rfl
          have e2 : stR (yT w n g k f) (yW w n g k) (j + 1) = if yT w n g k f (j : Int) = -1 then stR (yT w n g k f) (yW w n g k) j else saT (stR (yT w n g k f) (yW w n g k) j + yW w n g k (j : Int)) := rfl
          rw [e1, e2, e3]
          by_cases z : alB w n g l (j : Int) = 0 ∨ wyD w n g (g 5) (j : Int) = -1
          · have y : yT w n g k f (j : Int) = -1 := yj.mpr (z.elim (fun a => Or.inr (Or.inl a)) Or.inl)
            rw [if_pos z, if_pos y, if_pos y]
            exact ihj
          · have zr : ¬ wyD w n g (g 5) (j : Int) = -1 := fun a => z (Or.inr a)
            have ij := ih (j : Int) (by omega) (by omega) zr
            have y : ¬ yT w n g k f (j : Int) = -1 := fun a => by
              rcases yj.mp a with b | b | b
              · exact zr b
              · exact z (Or.inl b)
              · exact q (ij.1.mp b)
            rw [if_neg z, if_neg y, if_neg y, ihj.2, ij.2]
            refine ⟨⟨fun a => ?_, fun a => by omega⟩, ?_⟩
            · split at a
              · exact absurd a y
              · next b => exact absurd (Or.inl a) b
            · rw [Int.add_mul, Int.one_mul]
              exact saT_add (Int.mul_nonneg oj.1 b0) b0
      have z := key n.toNat (by have := hg.nn; omega)
      refine ⟨z.1.trans ⟨fun a => by rw [a, Int.zero_mul], fun a => ?_⟩, z.2⟩
      have oj := opR_rng w n g l n.toNat
      by_cases y : opR w n g l n.toNat = 0
      · exact y
      · have := Int.mul_pos (show 0 < opR w n g l n.toNat by omega) (show 0 < P by omega)
        omega
noncomputable def vWays (w n : Int) (g : Int → Int) : Int := if g 1 < 1 then 0 else saT (fwP w n g (g 1).toNat)
/-- what the model tells is that -/
theorem ways_M {w n : Int} {g : Int → Int} (hg : GOk w n g) (hy : yOk w n g) (h1 : ¬ g 1 < 1) : (yR w n g (g 1).toNat (g 5) = -1 → vWays w n g = 0) ∧ (¬ yR w n g (g 1).toNat (g 5) = -1 → yW w n g (g 1).toNat (g 5) = vWays w n g) := by
  have stc := hg.stc
  have nn := hg.nn
  have lyb := hg.lyb
  unfold vWays
  rw [if_neg h1]
  obtain ⟨M, hM⟩ : ∃ M : Nat, (g 1).toNat = M + 1 := ⟨(g 1).toNat - 1, by omega⟩
  rw [hM]
  by_cases q : wyD w n g (g 5) (g 5) = -1
  · have all : ∀ c, 0 ≤ c → c < n → wyD w n g (g 5) c = -1 := fun c c0 c1 => wy_none hy stc.1 stc.2 c0 c1 q
    have o0 : ∀ (l : Int) (j : Nat), (j : Int) ≤ n → opR w n g l j = 0 := by
      intro l j
      induction j with
      | zero => intro _; rfl
      | succ j ih =>
        intro hj
        unfold opR
        rw [if_pos (Or.inr (all j (by omega) (by omega)))]
        exact ih (by omega)
    have e : fwP w n g (M + 1) = 0 := by
      unfold fwP
      rw [o0 _ _ (by omega), Int.mul_zero]
    have r : yR w n g (M + 1) (g 5) = -1 := mnR_none _ (fun c c0 c1 => ((yT_no hg hy (k := M) (by omega) stc.1 stc.2 c0 (by omega)).1).mpr (Or.inl (all c c0 (by omega))))
    rw [e]
    exact ⟨fun _ => by decide, fun z => absurd r z⟩
  · have z := ways_k hg hy (M + 1) (by omega) (g 5) stc.1 stc.2 q
    have e := fw_bk_M w n g (M := M + 1) (by omega)
    rw [← e]
    refine ⟨fun a => ?_, fun _ => z.2⟩
    rw [z.1.mp a]
    decide

theorem U_107 {X : Int × (Int → Int)} {d : Nat} {Q : Int → XH → Prop} (hd : 0 ≤ d) (a b : Int) (H : XH) (h : ((b < a) → Q b H) ∧ (¬ (b < a) → Q a H)) : xc X (d + 1) 107 [(1, a), (1, b)] H Q := by
  refine ⟨rfl, ?_⟩
  show xq X d 107 Q 100000 [(0, (1, a)), (2, (1, b))] [] H
  refine xq_run [] 300 ?_
  show ((0 < xcmp a b) → xfR 1 b ∧ xKZ = xKZ ∧ Q b H) ∧ (¬ (0 < xcmp a b) → xfR 1 a ∧ xKZ = xKZ ∧ Q a H)
  refine ⟨fun k_ => ?_, fun k_ => ?_⟩
  · replace h := h.1 (xcmp_gt.mp k_)
    exact ⟨trivial, rfl, h⟩
  · replace h := h.2 (fun q => k_ (xcmp_gt.mpr q))
    exact ⟨trivial, rfl, h⟩

theorem s_107 {X : Int × (Int → Int)} {d : Nat} {Q : Int → XH → Prop} (hd : 1 ≤ d) (a b : Int) (H : XH) (hQ : Q (if a ≤ b then a else b) H) : xc X d 107 [(1, a), (1, b)] H Q := by
  cases d with
  | zero => omega
  | succ d =>
  refine U_107 (by omega) a b H ?_
  refine ⟨fun c1 => ?_, fun c1 => ?_⟩
  · skip
    first | (rw [if_pos (by omega)] at hQ; exact hQ) | (rw [if_neg (by omega)] at hQ; exact hQ)
  · skip
    first | (rw [if_pos (by omega)] at hQ; exact hQ) | (rw [if_neg (by omega)] at hQ; exact hQ)

theorem U_108 {X : Int × (Int → Int)} {d : Nat} {Q : Int → XH → Prop} (hd : 4 ≤ d) (w n : Int) (g : Int → Int) (H : XH) (h : (InvS H) ∧ (0 ≤ H 9 5 ∧ H 9 5 < H 67 1) ∧ (∀ (h419 : XH), ((∀ o, ¬ o = 47 → ¬ o = 48 → h419 o = H o) ∧ (∀ k, ¬ ((H 9 5) * 64 ≤ k ∧ k < (H 9 5) * 64 + 64) → h419 47 k = H 47 k) ∧ DS (H 67 0) (H 67 1) (fun e => H 68 (20 + e)) (H 9 5) (fun c => h419 47 ((H 9 5) * 64 + c))) → ((1 ≤ h419 7 1) → xq X d 108 Q 38 [(0, (2, 46)), (1, (2, 1)), (2, (2, 39)), (3, (0, H 9 5)), (4, (1, 1)), (6, (0, 0))] [] h419) ∧ (¬ (1 ≤ h419 7 1) → xq X d 108 Q 38 [(0, (2, 46)), (1, (2, 1)), (2, (2, 39)), (3, (0, H 9 5)), (4, (1, 0)), (6, (0, 0))] [] h419))) : xc X (d + 1) 108 [(2, 46), (2, 1), (2, 39)] H Q := by
  refine ⟨rfl, ?_⟩
  show xq X d 108 Q 100000 [(0, (2, 46)), (1, (2, 1)), (2, (2, 39))] [] H
  refine xq_run [17, 38, 56, 76, 86, 111] 300 ?_
  show xWM (xE X) xMC d 90 [(2, 46), (2, 2), (0, H 9 5)] xKZ H _
  refine xc_in (s_90 (by omega) (H 9 5) H (h.1) (h.2.1) ?_)
  intro h419 q_0
  replace h := h.2.2 h419 q_0
  show xq X d 108 Q 17 [(3, (0, H 9 5)), (0, (2, 46)), (1, (2, 1)), (2, (2, 39))] [] h419
  refine xq_run [17, 38, 56, 76, 86, 111] 300 ?_
  show ((1 ≤ h419 7 1) → xq X d 108 Q 38 [(0, (2, 46)), (1, (2, 1)), (2, (2, 39)), (3, (0, H 9 5)), (4, (1, 1)), (6, (0, 0))] [] h419) ∧ (¬ (1 ≤ h419 7 1) → xq X d 108 Q 38 [(0, (2, 46)), (1, (2, 1)), (2, (2, 39)), (3, (0, H 9 5)), (4, (1, 0)), (6, (0, 0))] [] h419)
  refine ⟨fun k_ => ?_, fun k_ => ?_⟩
  · replace h := h.1 k_
    exact h
  · replace h := h.2 k_
    exact h
theorem U_108_38 {X : Int × (Int → Int)} {d : Nat} {Q : Int → XH → Prop} (hd : 0 ≤ d) (v3 v4 v6 : Int) (w n : Int) (g : Int → Int) (H : XH) (h : ((H 7 1 ≤ v6) → Q (xl2i v4) H) ∧ (¬ (H 7 1 ≤ v6) → xq X d 108 Q 56 [(0, (2, 46)), (1, (2, 1)), (2, (2, 39)), (3, (0, v3)), (4, (1, v4)), (6, (0, v6)), (7, (0, 0)), (8, (0, 0))] [] H)) : xq X d 108 Q 38 [(0, (2, 46)), (1, (2, 1)), (2, (2, 39)), (3, (0, v3)), (4, (1, v4)), (6, (0, v6))] [] H := by
  show xq X d 108 Q 38 [(0, (2, 46)), (1, (2, 1)), (2, (2, 39)), (3, (0, v3)), (4, (1, v4)), (6, (0, v6))] [] H
  refine xq_run [17, 38, 56, 76, 86, 111] 300 ?_
  show ((H 7 1 ≤ v6) → xfR 0 (xl2i v4) ∧ xKZ = xKZ ∧ Q (xl2i v4) H) ∧ (¬ (H 7 1 ≤ v6) → xq X d 108 Q 56 [(0, (2, 46)), (1, (2, 1)), (2, (2, 39)), (3, (0, v3)), (4, (1, v4)), (6, (0, v6)), (7, (0, 0)), (8, (0, 0))] [] H)
  refine ⟨fun k_ => ?_, fun k_ => ?_⟩
  · replace h := h.1 k_
    exact ⟨trivial, rfl, h⟩
  · replace h := h.2 k_
    exact h
theorem U_108_56 {X : Int × (Int → Int)} {d : Nat} {Q : Int → XH → Prop} (hd : 3 ≤ d) (v3 v4 v6 v7 v8 : Int) (w n : Int) (g : Int → Int) (H : XH) (h : ((H 2 2 ≤ v8) → (xJ (v4 * v7)) ∧ ((xI (v6 + 1)) ∧ xq X d 108 Q 38 [(0, (2, 46)), (1, (2, 1)), (2, (2, 39)), (3, (0, v3)), (4, (1, (if 1000000 ≤ v4 * v7 then 1000000 else v4 * v7))), (6, (0, v6 + 1))] [] H)) ∧ (¬ (H 2 2 ≤ v8) → (lkA w n g H) ∧ (0 ≤ v6 ∧ v6 < g 1) ∧ (0 ≤ v8 ∧ v8 < n) ∧ (((alB w n g v6 v8 = 0) → (xI (v8 + 1)) ∧ xq X d 108 Q 56 [(0, (2, 46)), (1, (2, 1)), (2, (2, 39)), (3, (0, v3)), (4, (1, v4)), (6, (0, v6)), (7, (0, v7)), (8, (0, v8 + 1))] [] H) ∧ (¬ (alB w n g v6 v8 = 0) → (((btH H v3 v8 = (-1)) → (xI (v8 + 1)) ∧ xq X d 108 Q 56 [(0, (2, 46)), (1, (2, 1)), (2, (2, 39)), (3, (0, v3)), (4, (1, v4)), (6, (0, v6)), (7, (0, v7)), (8, (0, v8 + 1))] [] H) ∧ (¬ (btH H v3 v8 = (-1)) → (xI (v7 + 1)) ∧ (xI (v8 + 1)) ∧ xq X d 108 Q 56 [(0, (2, 46)), (1, (2, 1)), (2, (2, 39)), (3, (0, v3)), (4, (1, v4)), (6, (0, v6)), (7, (0, v7 + 1)), (8, (0, v8 + 1))] [] H)))))) : xq X d 108 Q 56 [(0, (2, 46)), (1, (2, 1)), (2, (2, 39)), (3, (0, v3)), (4, (1, v4)), (6, (0, v6)), (7, (0, v7)), (8, (0, v8))] [] H := by
  show xq X d 108 Q 56 [(0, (2, 46)), (1, (2, 1)), (2, (2, 39)), (3, (0, v3)), (4, (1, v4)), (6, (0, v6)), (7, (0, v7)), (8, (0, v8))] [] H
  refine xq_run [17, 38, 56, 76, 86, 111] 300 ?_
  show ((H 2 2 ≤ v8) → (xJ (v4 * v7)) ∧ xWM (xE X) xMC d 107 [(1, 1000000), (1, v4 * v7)] xKZ H _) ∧ (¬ (H 2 2 ≤ v8) → xWM (xE X) xMC d 68 [(2, 39), (0, v6), (0, v8)] xKZ H _)
  refine ⟨fun k_ => ?_, fun k_ => ?_⟩
  · replace h := h.1 k_
    refine ⟨h.1, ?_⟩
    replace h := h.2
    refine xc_in (s_107 (by omega) 1000000 (v4 * v7) H  ?_)
    replace h := h
    show xq X d 108 Q 111 [(0, (2, 46)), (1, (2, 1)), (2, (2, 39)), (3, (0, v3)), (4, (1, v4)), (6, (0, v6)), (7, (0, v7)), (8, (0, v8))] [(1, (if 1000000 ≤ v4 * v7 then 1000000 else v4 * v7))] H
    refine xq_run [17, 38, 56, 76, 86, 111] 300 ?_
    show (xI (v6 + 1)) ∧ xq X d 108 Q 38 [(0, (2, 46)), (1, (2, 1)), (2, (2, 39)), (3, (0, v3)), (4, (1, (if 1000000 ≤ v4 * v7 then 1000000 else v4 * v7))), (6, (0, v6 + 1))] [] H
    refine ⟨h.1, ?_⟩
    replace h := h.2
    exact h
  · replace h := h.2 k_
    refine xc_in (s_68 (by omega) w n g v6 v8 H (h.1) (h.2.1) (h.2.2.1) ?_)
    replace h := h.2.2.2
    show xq X d 108 Q 76 [(0, (2, 46)), (1, (2, 1)), (2, (2, 39)), (3, (0, v3)), (4, (1, v4)), (6, (0, v6)), (7, (0, v7)), (8, (0, v8))] [(0, alB w n g v6 v8)] H
    refine xq_run [17, 38, 56, 76, 86, 111] 300 ?_
    show ((alB w n g v6 v8 = 0) → (xI (v8 + 1)) ∧ xq X d 108 Q 56 [(0, (2, 46)), (1, (2, 1)), (2, (2, 39)), (3, (0, v3)), (4, (1, v4)), (6, (0, v6)), (7, (0, v7)), (8, (0, v8 + 1))] [] H) ∧ (¬ (alB w n g v6 v8 = 0) → xWM (xE X) xMC d 91 [(2, 46), (0, v3), (0, v8)] xKZ H _)
    refine ⟨fun k_ => ?_, fun k_ => ?_⟩
    · replace h := h.1 k_
      refine ⟨h.1, ?_⟩
      replace h := h.2
      exact h
    · replace h := h.2 k_
      refine xc_in (s_91b (by omega) v3 v8 H  ?_)
      replace h := h
      show xq X d 108 Q 86 [(0, (2, 46)), (1, (2, 1)), (2, (2, 39)), (3, (0, v3)), (4, (1, v4)), (6, (0, v6)), (7, (0, v7)), (8, (0, v8))] [(0, btH H v3 v8)] H
      refine xq_run [17, 38, 56, 76, 86, 111] 300 ?_
      show ((btH H v3 v8 = (-1)) → (xI (v8 + 1)) ∧ xq X d 108 Q 56 [(0, (2, 46)), (1, (2, 1)), (2, (2, 39)), (3, (0, v3)), (4, (1, v4)), (6, (0, v6)), (7, (0, v7)), (8, (0, v8 + 1))] [] H) ∧ (¬ (btH H v3 v8 = (-1)) → (xI (v7 + 1)) ∧ (xI (v8 + 1)) ∧ xq X d 108 Q 56 [(0, (2, 46)), (1, (2, 1)), (2, (2, 39)), (3, (0, v3)), (4, (1, v4)), (6, (0, v6)), (7, (0, v7 + 1)), (8, (0, v8 + 1))] [] H)
      refine ⟨fun k_ => ?_, fun k_ => ?_⟩
      · replace h := h.1 k_
        refine ⟨h.1, ?_⟩
        replace h := h.2
        exact h
      · replace h := h.2 k_
        refine ⟨h.1, ?_⟩
        replace h := h.2
        refine ⟨h.1, ?_⟩
        replace h := h.2
        exact h

theorem s_108 {X : Int × (Int → Int)} {d : Nat} {Q : Int → XH → Prop} (hd : 9 ≤ d) (H : XH) (hi : InvS H) (hk : lkA (H 67 0) (H 67 1) (H 68) H) (hQ : ∀ h1 : XH, frC H h1 → Q (vWays (H 67 0) (H 67 1) (H 68)) h1) : xc X d 108 [(2, 46), (2, 1), (2, 39)] H Q := by
  cases d with
  | zero => omega
  | succ d =>
  have hg := hi.1
  have hs := hi.2
  have nn := hg.nn
  have ww := hg.ww
  have l2 := hs.l2
  have hc := hs.c
  have lyb := hg.lyb
  have bnd := hg.bnd
  have stc := hg.stc
  have r5 := hs.r5
  unfold vWays at hQ
  have keyL : ∀ h, roI H h → (∀ c, 0 ≤ c → c < H 67 1 → h 47 (H 68 5 * 64 + c) = wyD (H 67 0) (H 67 1) (H 68) (H 68 5) c) → ¬ H 68 1 < 1 → ∀ (k l : Nat), (l : Int) + k = H 68 1 → xq X d 108 Q 38 [(0, (2, 46)), (1, (2, 1)), (2, (2, 39)), (3, (0, H 68 5)), (4, (1, saT (fwP (H 67 0) (H 67 1) (H 68) l))), (6, (0, (l : Int)))] [] h := by
    intro h f hD m0 k
    have f2 := f 2 (by decide)
    have f7 := f 7 (by decide)
    induction k with
    | zero =>
      intro l hl
      have p0 := fwP_0 (H 67 0) (H 67 1) (H 68) l
      have k := hQ h (fun o a b => f o (by omega))
      rw [if_neg m0, show (H 68 1).toNat = l by omega] at k
      have e : xl2i (saT (fwP (H 67 0) (H 67 1) (H 68) l)) = saT (fwP (H 67 0) (H 67 1) (H 68) l) := xl2i_id (by unfold xI saT; split <;> omega)
      rw [← e] at k
      refine U_108_38 (by omega) (H 68 5) _ (l : Int) (H 67 0) (H 67 1) (H 68) h ?_
      rw [f7]
      refine ⟨fun c1 => ?_, fun c1 => ?_⟩
      · skip
        exact k
      · skip
        exfalso
        omega
    | succ k ih =>
      intro l hl
      have p0 := fwP_0 (H 67 0) (H 67 1) (H 68) l
      have sr : 0 ≤ saT (fwP (H 67 0) (H 67 1) (H 68) l) ∧ saT (fwP (H 67 0) (H 67 1) (H 68) l) ≤ 1000000 := by
        unfold saT
        split <;> omega
      have lk' := roI_lk f hk
      have keyC : ∀ (m c : Nat), (c : Int) + m = H 67 1 → xq X d 108 Q 56 [(0, (2, 46)), (1, (2, 1)), (2, (2, 39)), (3, (0, H 68 5)), (4, (1, saT (fwP (H 67 0) (H 67 1) (H 68) l))), (6, (0, (l : Int))), (7, (0, opR (H 67 0) (H 67 1) (H 68) (l : Int) c)), (8, (0, (c : Int)))] [] h := by
        intro m
        induction m with
        | zero =>
          intro c hc
          have or := opR_rng (H 67 0) (H 67 1) (H 68) (l : Int) c
          have mb := mulB (x := saT (fwP (H 67 0) (H 67 1) (H 68) l)) (y := opR (H 67 0) (H 67 1) (H 68) (l : Int) c) (A := 1000000) (B := 64) sr (by omega)
          have nx := ih (l + 1) (by omega)
          have e : fwP (H 67 0) (H 67 1) (H 68) (l + 1) = fwP (H 67 0) (H 67 1) (H 68) l * opR (H 67 0) (H 67 1) (H 68) (l : Int) (H 67 1).toNat := rfl
          rw [e, show (H 67 1).toNat = c by omega, ← saT_mul p0 or.1] at nx
          have e2 : (if 1000000 ≤ saT (fwP (H 67 0) (H 67 1) (H 68) l) * opR (H 67 0) (H 67 1) (H 68) (l : Int) c then (1000000 : Int) else saT (fwP (H 67 0) (H 67 1) (H 68) l) * opR (H 67 0) (H 67 1) (H 68) (l : Int) c) = saT (saT (fwP (H 67 0) (H 67 1) (H 68) l) * opR (H 67 0) (H 67 1) (H 68) (l : Int) c) := by
            generalize saT (fwP (H 67 0) (H 67 1) (H 68) l) * opR (H 67 0) (H 67 1) (H 68) (l : Int) c = T
            unfold saT
            split <;> split <;> omega
          refine U_108_56 (by omega) (H 68 5) _ (l : Int) _ (c : Int) (H 67 0) (H 67 1) (H 68) h ?_
          rw [f2, e2]
          refine ⟨fun c1 => ?_, fun c1 => ?_⟩
          · skip
            refine ⟨?_, ?_⟩
            · first | omega | (unfold xJ; omega) | (unfold xI; omega) | (exfalso; omega)
            refine ⟨?_, ?_⟩
            · first | omega | (unfold xJ; omega) | (unfold xI; omega) | (exfalso; omega)
            exact nx
          · skip
            refine ⟨?_, ?_⟩
            · first | omega | (unfold xJ; omega) | (unfold xI; omega) | (exfalso; omega)
            refine ⟨?_, ?_⟩
            · first | omega | (unfold xJ; omega) | (unfold xI; omega) | (exfalso; omega)
            refine ⟨?_, ?_⟩
            · first | omega | (unfold xJ; omega) | (unfold xI; omega) | (exfalso; omega)
            refine ⟨fun c2 => ?_, fun c2 => ?_⟩
            · skip
              refine ⟨?_, ?_⟩
              · first | omega | (unfold xJ; omega) | (unfold xI; omega) | (exfalso; omega)
              exfalso
              omega
            · skip
              refine ⟨fun c3 => ?_, fun c3 => ?_⟩
              · skip
                refine ⟨?_, ?_⟩
                · first | omega | (unfold xJ; omega) | (unfold xI; omega) | (exfalso; omega)
                exfalso
                omega
              · skip
                refine ⟨?_, ?_⟩
                · first | omega | (unfold xJ; omega) | (unfold xI; omega) | (exfalso; omega)
                refine ⟨?_, ?_⟩
                · first | omega | (unfold xJ; omega) | (unfold xI; omega) | (exfalso; omega)
                exfalso
                omega
        | succ m ihc =>
          intro c hc
          have or := opR_rng (H 67 0) (H 67 1) (H 68) (l : Int) c
          have nx := ihc (c + 1) (by omega)
          have e : opR (H 67 0) (H 67 1) (H 68) (l : Int) (c + 1) = if alB (H 67 0) (H 67 1) (H 68) (l : Int) (c : Int) = 0 ∨ wyD (H 67 0) (H 67 1) (H 68) (H 68 5) (c : Int) = -1 then opR (H 67 0) (H 67 1) (H 68) (l : Int) c else opR (H 67 0) (H 67 1) (H 68) (l : Int) c + 1 := rfl
          rw [e] at nx
          have eb : btH h (H 68 5) (c : Int) = wyD (H 67 0) (H 67 1) (H 68) (H 68 5) (c : Int) := by
            unfold btH
            rw [if_pos (by omega)]
            exact hD (c : Int) (by omega) (by omega)
          refine U_108_56 (by omega) (H 68 5) _ (l : Int) _ (c : Int) (H 67 0) (H 67 1) (H 68) h ?_
          rw [f2, eb]
          refine ⟨fun c1 => ?_, fun c1 => ?_⟩
          · skip
            refine ⟨?_, ?_⟩
            · first | omega | exact lk' | (unfold xI; omega) | (exfalso; omega)
            refine ⟨?_, ?_⟩
            · first | omega | exact lk' | (unfold xI; omega) | (exfalso; omega)
            exfalso
            omega
          · skip
            refine ⟨?_, ?_⟩
            · first | omega | exact lk' | (unfold xI; omega) | (exfalso; omega)
            refine ⟨?_, ?_⟩
            · first | omega | exact lk' | (unfold xI; omega) | (exfalso; omega)
            refine ⟨?_, ?_⟩
            · first | omega | exact lk' | (unfold xI; omega) | (exfalso; omega)
            refine ⟨fun c2 => ?_, fun c2 => ?_⟩
            · skip
              refine ⟨?_, ?_⟩
              · first | omega | exact lk' | (unfold xI; omega) | (exfalso; omega)
              rw [if_pos (Or.inl (by assumption))] at nx
              exact nx
            · skip
              refine ⟨fun c3 => ?_, fun c3 => ?_⟩
              · skip
                refine ⟨?_, ?_⟩
                · first | omega | exact lk' | (unfold xI; omega) | (exfalso; omega)
                rw [if_pos (Or.inr (by assumption))] at nx
                exact nx
              · skip
                refine ⟨?_, ?_⟩
                · first | omega | exact lk' | (unfold xI; omega) | (exfalso; omega)
                refine ⟨?_, ?_⟩
                · first | omega | exact lk' | (unfold xI; omega) | (exfalso; omega)
                rw [if_neg (by omega)] at nx
                exact nx
      have z := keyC (H 67 1).toNat 0 (by omega)
      have e0 : opR (H 67 0) (H 67 1) (H 68) (l : Int) 0 = 0 := rfl
      rw [e0] at z
      refine U_108_38 (by omega) (H 68 5) _ (l : Int) (H 67 0) (H 67 1) (H 68) h ?_
      rw [f7]
      refine ⟨fun c1 => ?_, fun c1 => ?_⟩
      · skip
        exfalso
        omega
      · skip
        exact z
  have e1 : saT (fwP (H 67 0) (H 67 1) (H 68) 0) = 1 := by
    show saT 1 = 1
    decide
  refine U_108 (by omega) (H 67 0) (H 67 1) (H 68) H ?_
  rw [r5]
  refine ⟨?_, ?_⟩
  · first | omega | exact hi | (unfold xI; omega)
  refine ⟨?_, ?_⟩
  · first | omega | exact hi | (unfold xI; omega)
  intro h425 c1
  have uu := c1
  refine ⟨fun c2 => ?_, fun c2 => ?_⟩
  · skip
    have f : roI H _ := fun o q => uu.1 o (by omega) (by omega)
    have z := keyL _ f (fun c c0 c1 => DS_v uu.2.2 c0 c1) (by have := f 7 (by decide); have := congrFun this 1; omega) (H 68 1).toNat 0 (by omega)
    rw [e1] at z
    exact z
  · skip
    have f : roI H _ := fun o q => uu.1 o (by omega) (by omega)
    have f71 := congrFun (f 7 (by decide)) 1
    have k := hQ _ (fun o a b => f o (by omega))
    rw [if_pos (by omega)] at k
    refine U_108_38 (by omega) (H 68 5) _ 0 (H 67 0) (H 67 1) (H 68) _ ?_
    refine ⟨fun c1 => ?_, fun c1 => ?_⟩
    · skip
      have e : xl2i 0 = 0 := by decide
      rw [e]
      exact k
    · skip
      exfalso
      omega

theorem U_109 {X : Int × (Int → Int)} {d : Nat} {Q : Int → XH → Prop} (hd : 9 ≤ d) (H : XH) (h : (InvS H) ∧ (∀ (h426 : XH), (frC H h426 ∧ lkOk (H 67 0) (H 67 1) (H 68) (h426 40) (h426 41) (h426 42) (h426 39)) → (InvS h426) ∧ (lkA (h426 67 0) (h426 67 1) (h426 68) h426) ∧ (∀ (h427 : XH), (frC h426 h427) → Q (vWays (h426 67 0) (h426 67 1) (h426 68)) h427))) : xc X (d + 1) 109 [(2, 0)] H Q := by
  refine ⟨rfl, ?_⟩
  show xq X d 109 Q 100000 [(0, (2, 0))] [] H
  refine xq_run [11, 26] 300 ?_
  show xWM (xE X) xMC d 60 [(2, 39), (2, 1)] xKZ H _
  refine xc_in (s_60 (by omega) H (h.1) ?_)
  intro h426 q_0
  replace h := h.2 h426 q_0
  show xq X d 109 Q 11 [(0, (2, 0))] [] h426
  refine xq_run [11, 26] 300 ?_
  show xWM (xE X) xMC d 108 [(2, 46), (2, 1), (2, 39)] xKZ h426 _
  refine xc_in (s_108 (by omega) h426 (h.1) (h.2.1) ?_)
  intro h427 q_0
  replace h := h.2.2 h427 q_0
  show xq X d 109 Q 26 [(0, (2, 0))] [(0, vWays (h426 67 0) (h426 67 1) (h426 68))] h427
  refine xq_run [11, 26] 300 ?_
  show xfR 0 (vWays (h426 67 0) (h426 67 1) (h426 68)) ∧ xKZ = xKZ ∧ Q (vWays (h426 67 0) (h426 67 1) (h426 68)) h427
  exact ⟨trivial, rfl, h⟩

theorem s_109 {X : Int × (Int → Int)} {d : Nat} {Q : Int → XH → Prop} (hd : 12 ≤ d) (H : XH) (hi : InvS H) (hQ : ∀ h1 : XH, frC H h1 → Q (vWays (H 67 0) (H 67 1) (H 68)) h1) : xc X d 109 [(2, 0)] H Q := by
  cases d with
  | zero => omega
  | succ d =>
  have hg := hi.1
  have hs := hi.2
  have nn := hg.nn
  have ww := hg.ww
  have l2 := hs.l2
  have hc := hs.c
  have lyb := hg.lyb
  have bnd := hg.bnd
  refine U_109 (by omega) H ?_
  refine ⟨?_, ?_⟩
  · first | omega | exact hi | exact frC_S fr hi | (rw [f67, f68]; exact lk)
  intro h428 c1
  have lk : lkA (H 67 0) (H 67 1) (H 68) h428 := And.intro hg c1.2
  have fr := c1.1
  have f67 := fr 67 (by decide) (by decide)
  have f68 := fr 68 (by decide) (by decide)
  refine ⟨?_, ?_⟩
  · first | omega | exact hi | exact frC_S fr hi | (rw [f67, f68]; exact lk)
  refine ⟨?_, ?_⟩
  · first | omega | exact hi | exact frC_S fr hi | (rw [f67, f68]; exact lk)
  intro h429 c2
  have uu := c2
  rw [f67, f68]
  exact hQ _ (frC_trans fr uu)

theorem U_110 {X : Int × (Int → Int)} {d : Nat} {Q : Int → XH → Prop} (hd : 8 ≤ d) (H : XH) (h : (GOk (H 67 0) (H 67 1) (H 68)) ∧ (∀ (J431 : Int) (h430 : XH), ((frM H h430 ∧ ((H 68 1 = 0 ∧ J431 = 0) ∨ (¬ H 68 1 = 0 ∧ yOk (H 67 0) (H 67 1) (H 68) ∧ mpK (H 67 0) (H 67 1) (H 68) (H 68 1).toNat h430 ∧ J431 = (if yR (H 67 0) (H 67 1) (H 68) (H 68 1).toNat (H 68 5) = -1 then 0 else 1)))) ∧ (J431 = 0 ∨ J431 = 1)) → ((J431 = 0) → Q 0 h430) ∧ (¬ (J431 = 0) → ((0 : Int) ≤ h430 68 5 ∧ (h430 68 5 : Int) < 576) ∧ Q (h430 82 (h430 68 5)) h430))) : xc X (d + 1) 110 [(2, 67)] H Q := by
  refine ⟨rfl, ?_⟩
  show xq X d 110 Q 100000 [(0, (2, 67))] [] H
  refine xq_run [4] 300 ?_
  show xWM (xE X) xMC d 105 [(2, 67)] xKZ H _
  refine xc_in (s_105 (by omega) H (h.1) ?_)
  intro J431 h430 q_0
  replace h := h.2 J431 h430 q_0
  show xq X d 110 Q 4 [(0, (2, 67))] [(0, J431)] h430
  refine xq_run [4] 300 ?_
  show ((J431 = 0) → xfR 0 0 ∧ xKZ = xKZ ∧ Q 0 h430) ∧ (¬ (J431 = 0) → ((0 : Int) ≤ 5 ∧ (5 : Int) < 1180) ∧ ((0 : Int) ≤ h430 68 5 ∧ (h430 68 5 : Int) < 576) ∧ xfR 0 (h430 82 (h430 68 5)) ∧ xKZ = xKZ ∧ Q (h430 82 (h430 68 5)) h430)
  refine ⟨fun k_ => ?_, fun k_ => ?_⟩
  · replace h := h.1 k_
    exact ⟨trivial, rfl, h⟩
  · replace h := h.2 k_
    refine ⟨⟨by decide, by decide⟩, ?_⟩
    refine ⟨h.1, ?_⟩
    replace h := h.2
    exact ⟨trivial, rfl, h⟩

theorem s_110 {X : Int × (Int → Int)} {d : Nat} {Q : Int → XH → Prop} (hd : 12 ≤ d) (H : XH) (hg : GOk (H 67 0) (H 67 1) (H 68)) (hQ : ∀ h1 : XH, frM H h1 → Q (vWays (H 67 0) (H 67 1) (H 68)) h1) : xc X d 110 [(2, 67)] H Q := by
  cases d with
  | zero => omega
  | succ d =>
  have nn := hg.nn
  have ww := hg.ww
  have lyb := hg.lyb
  have bnd := hg.bnd
  have stc := hg.stc
  refine U_110 (by omega) H ?_
  refine ⟨?_, ?_⟩
  · first | omega | exact hg | (have a85 := congrFun (frM_o uu.1.1 68 (by decide) (by decide)) 5; rw [a85]; omega) | (unfold xI; omega)
  intro J433 h432 c1
  have uu := c1
  refine ⟨fun c2 => ?_, fun c2 => ?_⟩
  · skip
    obtain ⟨⟨f, u⟩, -⟩ := uu
    have a85 := congrFun (frM_o f 68 (by decide) (by decide)) 5
    have k := hQ _ f
    rcases u with ⟨u1, u2⟩ | ⟨u1, u2, u3, u4⟩
    · unfold vWays at k
      rw [if_pos (by omega)] at k
      first | exact k | (exfalso; omega)
    · have wm := ways_M hg u2 (by omega)
      by_cases q : yR (H 67 0) (H 67 1) (H 68) (H 68 1).toNat (H 68 5) = -1
      · rw [if_pos q] at u4
        rw [wm.1 q] at k
        first | exact k | (exfalso; omega)
      · rw [if_neg q] at u4
        rw [← wm.2 q] at k
        have e := (u3.2.2 (H 68 1).toNat (Nat.le_refl _) (H 68 5) stc.1 stc.2).2
        rw [show 64 * (H 68 1 - ((H 68 1).toNat : Int)) + H 68 5 = H 68 5 by omega] at e
        rw [← e] at k
        first | (rw [a85]; exact k) | (exfalso; omega)
  · skip
    refine ⟨?_, ?_⟩
    · first | omega | exact hg | (have a85 := congrFun (frM_o uu.1.1 68 (by decide) (by decide)) 5; rw [a85]; omega) | (unfold xI; omega)
    obtain ⟨⟨f, u⟩, -⟩ := uu
    have a85 := congrFun (frM_o f 68 (by decide) (by decide)) 5
    have k := hQ _ f
    rcases u with ⟨u1, u2⟩ | ⟨u1, u2, u3, u4⟩
    · unfold vWays at k
      rw [if_pos (by omega)] at k
      first | exact k | (exfalso; omega)
    · have wm := ways_M hg u2 (by omega)
      by_cases q : yR (H 67 0) (H 67 1) (H 68) (H 68 1).toNat (H 68 5) = -1
      · rw [if_pos q] at u4
        rw [wm.1 q] at k
        first | exact k | (exfalso; omega)
      · rw [if_neg q] at u4
        rw [← wm.2 q] at k
        have e := (u3.2.2 (H 68 1).toNat (Nat.le_refl _) (H 68 5) stc.1 stc.2).2
        rw [show 64 * (H 68 1 - ((H 68 1).toNat : Int)) + H 68 5 = H 68 5 by omega] at e
        rw [← e] at k
        first | (rw [a85]; exact k) | (exfalso; omega)

theorem p_ways {X : Int × (Int → Int)} {d : Nat} (hd : 12 ≤ d) (H : XH) (hi : InvS H) : xc X d 109 [(2, 0)] H (fun r H1 => xc X d 110 [(2, 67)] H1 (qOk H r)) :=
  s_109 (by omega)  H hi (fun h1 f => s_110 (by omega)  h1 (frC_S f hi).1 (fun h2 f' => ⟨by rw [f 67 (by decide) (by decide), f 68 (by decide) (by decide)], frQ_CM f f'⟩))
