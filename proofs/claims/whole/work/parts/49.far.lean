/-! THE PURE LAYER 19: frames of queries, loops by relations, how far mud is from mud -/
/-- a loop: what is so at each head -/
theorem xlR {σ : Type} (b : Int) (I Φ : Int → σ → Prop) (he : ∀ i s, b ≤ i → I i s → Φ i s) (hs : ∀ i s, i < b → I i s → (∀ s', I (i + 1) s' → Φ (i + 1) s') → Φ i s) (i : Int) (s : σ) (h0 : I i s) : Φ i s := by
  generalize hk : (b - i).toNat = k
  induction k generalizing i s with
  | zero => exact he i s (by omega) h0
  | succ k ih => exact hs i s (by omega) h0 (fun s' h' => ih (i + 1) s' h' (by omega))
/-- only the class's working objects may be others -/
def frC (H H' : XH) : Prop := ∀ o, ¬ (39 ≤ o ∧ o ≤ 50) → ¬ (58 ≤ o ∧ o ≤ 66) → H' o = H o
theorem frC_refl (H : XH) : frC H H := fun _ _ _ => rfl
theorem frC_trans {H H' H'' : XH} (h : frC H H') (h' : frC H' H'') : frC H H'' := fun o a b => (h' o a b).trans (h o a b)
theorem frC_up {H H' : XH} {a i x : Int} (h : frC H H') (ha : (39 ≤ a ∧ a ≤ 50) ∨ (58 ≤ a ∧ a ≤ 66)) : frC H (xup H' a i x) := fun o p q => by
  rw [xup_ne (by omega)]
  exact h o p q
theorem frC_set {H H' : XH} {a : Int} {g : Int → Int} (h : frC H H') (ha : (39 ≤ a ∧ a ≤ 50) ∨ (58 ≤ a ∧ a ≤ 66)) : frC H (xset H' a g) := fun o p q => by
  rw [xset_o (by omega)]
  exact h o p q
/-- only the model's working objects may be others -/
def frM (H H' : XH) : Prop := (∀ o, ¬ o = 67 → ¬ (76 ≤ o ∧ o ≤ 98) → H' o = H o) ∧ ∀ k, k < 14 → H' 67 k = H 67 k
theorem frM_refl (H : XH) : frM H H := ⟨fun _ _ _ => rfl, fun _ _ => rfl⟩
theorem frM_trans {H H' H'' : XH} (h : frM H H') (h' : frM H' H'') : frM H H'' := ⟨fun o a b => (h'.1 o a b).trans (h.1 o a b), fun k a => (h'.2 k a).trans (h.2 k a)⟩
theorem frM_up {H H' : XH} {a i x : Int} (h : frM H H') (ha : 76 ≤ a ∧ a ≤ 98) : frM H (xup H' a i x) :=
  ⟨fun o p q => by rw [xup_ne (by omega)]; exact h.1 o p q, fun k q => by rw [xup_ne (by omega)]; exact h.2 k q⟩
theorem frM_set {H H' : XH} {a : Int} {g : Int → Int} (h : frM H H') (ha : 76 ≤ a ∧ a ≤ 98) : frM H (xset H' a g) :=
  ⟨fun o p q => by rw [xset_o (by omega)]; exact h.1 o p q, fun k q => by rw [xset_o (by omega)]; exact h.2 k q⟩
theorem frM_67 {H H' : XH} {i x : Int} (h : frM H H') (hi : 14 ≤ i) : frM H (xup H' 67 i x) :=
  ⟨fun o p q => by rw [xup_ne p]; exact h.1 o p q, fun k q => by rw [xup_k (by omega)]; exact h.2 k q⟩
/-- both -/
def frQ (H H' : XH) : Prop := (∀ o, ¬ (39 ≤ o ∧ o ≤ 50) → ¬ (58 ≤ o ∧ o ≤ 66) → ¬ o = 67 → ¬ (76 ≤ o ∧ o ≤ 98) → H' o = H o) ∧ ∀ k, k < 14 → H' 67 k = H 67 k
theorem frQ_CM {H H' H'' : XH} (h : frC H H') (h' : frM H' H'') : frQ H H'' :=
  ⟨fun o a b c e => (h'.1 o c e).trans (h o a b), fun k a => (h'.2 k a).trans (by rw [h 67 (by decide) (by decide)])⟩
theorem frQ_refl (H : XH) : frQ H H := ⟨fun _ _ _ _ _ => rfl, fun _ _ => rfl⟩
theorem frQ_C {H H' : XH} (h : frC H H') : frQ H H' := frQ_CM h (frM_refl _)
theorem frQ_M {H H' : XH} (h : frM H H') : frQ H H' := frQ_CM (frC_refl _) h
theorem frQ_S {H H' : XH} (h : frQ H H') : frS H H' :=
  ⟨fun o a b => h.1 o (by omega) (by omega) (by omega) (by omega), h.1 68 (by decide) (by decide) (by decide) (by decide), h.1 69 (by decide) (by decide) (by decide) (by decide), h.2 0 (by decide), h.2 1 (by decide)⟩
/-- what a pair of calls that only look owes -/
def qOk (H : XH) (r r' : Int) (H' : XH) : Prop := r' = r ∧ frQ H H'
theorem frC_S {H H' : XH} (h : frC H H') (hi : InvS H) : InvS H' := frS_S (frQ_S (frQ_C h)) hi
theorem frM_S {H H' : XH} (h : frM H H') (hi : InvS H) : InvS H' := frS_S (frQ_S (frQ_M h)) hi
theorem frM_o {H H' : XH} (h : frM H H') (o : Int) (a : ¬ o = 67) (b : ¬ (76 ≤ o ∧ o ≤ 98)) : H' o = H o := h.1 o a b
-- numbers
theorem mulB {x y A B : Int} (hx : 0 ≤ x ∧ x ≤ A) (hy : 0 ≤ y ∧ y ≤ B) : 0 ≤ x * y ∧ x * y ≤ A * B :=
  ⟨Int.mul_nonneg hx.1 hy.1, Int.mul_le_mul hx.2 hy.2 hy.1 (by omega)⟩
theorem tdivB {x y A : Int} (hx : 0 ≤ x) (hy : 1 ≤ y) (h : x ≤ A * y) : 0 ≤ x.tdiv y ∧ x.tdiv y ≤ A := by
  rw [Int.tdiv_eq_ediv_of_nonneg hx]
  exact ⟨Int.ediv_nonneg hx (by omega), Int.ediv_le_of_le_mul (by omega) h⟩
theorem iabs_le {x y : Int} (hx : 0 ≤ x) (hy : 0 ≤ y) : 0 ≤ iabs (x - y) ∧ iabs (x - y) ≤ x + y := by
  unfold iabs
  split <;> omega
theorem xl2i_id {x : Int} (h : xI x) : xl2i x = x := by
  unfold xI at h
  unfold xl2i
  have h1 : (Int64.ofInt x).toInt32 = Int32.ofInt x := by
    rw [Int64.toInt32_ofInt]
  rw [h1, Int32.toInt_ofInt, show Int32.size = 4294967296 from rfl, Int.bmod_eq_of_le (by omega) (by omega)]
theorem sum5_0 (f : Int → Int) : sum5 f 0 = f 0 + f 1 + f 2 + f 3 + f 4 := rfl
theorem sum5_at (f : Int → Int) (i : Int) : sum5 (fun s => f (i + s)) 0 = sum5 f i := by
  rw [sum5_0]
  unfold sum5
  rw [Int.add_zero]
theorem sum5_rng {f : Int → Int} {i M : Int} (h : ∀ s, 0 ≤ s → s < 5 → 0 ≤ f (i + s) ∧ f (i + s) ≤ M) : 0 ≤ sum5 f i ∧ sum5 f i ≤ 5 * M := by
  have h0 := h 0 (by decide) (by decide)
  have h1 := h 1 (by decide) (by decide)
  have h2 := h 2 (by decide) (by decide)
  have h3 := h 3 (by decide) (by decide)
  have h4 := h 4 (by decide) (by decide)
  rw [Int.add_zero] at h0
  unfold sum5
  omega
theorem sum5_ge {f : Int → Int} {i s : Int} (h : ∀ s, 0 ≤ s → s < 5 → 0 ≤ f (i + s)) (hs : 0 ≤ s ∧ s < 5) : f (i + s) ≤ sum5 f i := by
  have h0 := h 0 (by decide) (by decide)
  have h1 := h 1 (by decide) (by decide)
  have h2 := h 2 (by decide) (by decide)
  have h3 := h 3 (by decide) (by decide)
  have h4 := h 4 (by decide) (by decide)
  rw [Int.add_zero] at h0
  unfold sum5
  rcases (show s = 0 ∨ s = 1 ∨ s = 2 ∨ s = 3 ∨ s = 4 by omega) with e | e | e | e | e <;> subst e
  · rw [Int.add_zero]
    omega
  all_goals omega
/-- how far amounts a are from amounts b, times their masses t and u -/
def farO (a b : Int → Int) (t u : Int) : Int := iabs (a 0 * u - b 0 * t) + iabs (a 1 * u - b 1 * t) + iabs (a 2 * u - b 2 * t) + iabs (a 3 * u - b 3 * t) + iabs (a 4 * u - b 4 * t)
def farV (a b : Int → Int) : Int := if sum5 a 0 < 1 ∨ sum5 b 0 < 1 then 1000 else (1000 * farO a b (sum5 a 0) (sum5 b 0)).tdiv (2 * sum5 a 0 * sum5 b 0)
theorem farV_congr {a b a' b' : Int → Int} (ha : ∀ s, 0 ≤ s → s < 5 → a s = a' s) (hb : ∀ s, 0 ≤ s → s < 5 → b s = b' s) : farV a b = farV a' b' := by
  unfold farV farO
  rw [sum5_0, sum5_0, sum5_0, sum5_0, ha 0 (by decide) (by decide), ha 1 (by decide) (by decide), ha 2 (by decide) (by decide), ha 3 (by decide) (by decide), ha 4 (by decide) (by decide), hb 0 (by decide) (by decide), hb 1 (by decide) (by decide), hb 2 (by decide) (by decide), hb 3 (by decide) (by decide), hb 4 (by decide) (by decide)]
theorem farO_rng {a b : Int → Int} (ha : ∀ s, 0 ≤ s → s < 5 → 0 ≤ a s) (hb : ∀ s, 0 ≤ s → s < 5 → 0 ≤ b s) : 0 ≤ farO a b (sum5 a 0) (sum5 b 0) ∧ farO a b (sum5 a 0) (sum5 b 0) ≤ 2 * (sum5 a 0 * sum5 b 0) := by
  have a0 := ha 0 (by decide) (by decide)
  have a1 := ha 1 (by decide) (by decide)
  have a2 := ha 2 (by decide) (by decide)
  have a3 := ha 3 (by decide) (by decide)
  have a4 := ha 4 (by decide) (by decide)
  have b0 := hb 0 (by decide) (by decide)
  have b1 := hb 1 (by decide) (by decide)
  have b2 := hb 2 (by decide) (by decide)
  have b3 := hb 3 (by decide) (by decide)
  have b4 := hb 4 (by decide) (by decide)
  have ht : 0 ≤ sum5 a 0 := by rw [sum5_0]; omega
  have hu : 0 ≤ sum5 b 0 := by rw [sum5_0]; omega
  have e1 : sum5 a 0 * sum5 b 0 = a 0 * sum5 b 0 + a 1 * sum5 b 0 + a 2 * sum5 b 0 + a 3 * sum5 b 0 + a 4 * sum5 b 0 := by
    rw [sum5_0 a]
    simp only [Int.add_mul]
  have e2 : sum5 a 0 * sum5 b 0 = b 0 * sum5 a 0 + b 1 * sum5 a 0 + b 2 * sum5 a 0 + b 3 * sum5 a 0 + b 4 * sum5 a 0 := by
    rw [Int.mul_comm (sum5 a 0), sum5_0 b]
    simp only [Int.add_mul]
  unfold farO
  generalize sum5 a 0 = t at *
  generalize sum5 b 0 = u at *
  have k0 := iabs_le (Int.mul_nonneg a0 hu) (Int.mul_nonneg b0 ht)
  have k1 := iabs_le (Int.mul_nonneg a1 hu) (Int.mul_nonneg b1 ht)
  have k2 := iabs_le (Int.mul_nonneg a2 hu) (Int.mul_nonneg b2 ht)
  have k3 := iabs_le (Int.mul_nonneg a3 hu) (Int.mul_nonneg b3 ht)
  have k4 := iabs_le (Int.mul_nonneg a4 hu) (Int.mul_nonneg b4 ht)
  omega
theorem farV_rng {a b : Int → Int} (ha : ∀ s, 0 ≤ s → s < 5 → 0 ≤ a s) (hb : ∀ s, 0 ≤ s → s < 5 → 0 ≤ b s) : 0 ≤ farV a b ∧ farV a b ≤ 1000 := by
  have k := farO_rng ha hb
  unfold farV
  split
  · omega
  · next h =>
    have h1 : 1 ≤ sum5 a 0 * sum5 b 0 := by
      have := Int.mul_le_mul (a := 1) (b := 1) (c := sum5 a 0) (d := sum5 b 0) (by omega) (by omega) (by omega) (by omega)
      omega
    rw [Int.mul_assoc]
    refine tdivB (by omega) (by omega) ?_
    omega

theorem U_65 {X : Int × (Int → Int)} {d : Nat} {Q : Int → XH → Prop} (hd : 0 ≤ d) (H : XH) (h : xq X d 65 Q 7 [(0, (2, 67)), (1, (1, 0)), (3, (1, 0)), (5, (0, 0))] [] H) : xc X (d + 1) 65 [(2, 67)] H Q := by
  refine ⟨rfl, ?_⟩
  show xq X d 65 Q 100000 [(0, (2, 67))] [] H
  refine xq_run [7, 45] 300 ?_
  show xq X d 65 Q 7 [(0, (2, 67)), (1, (1, 0)), (3, (1, 0)), (5, (0, 0))] [] H
  exact h
theorem U_65_7 {X : Int × (Int → Int)} {d : Nat} {Q : Int → XH → Prop} (hd : 0 ≤ d) (v1 v3 v5 : Int) (H : XH) (h : ((5 ≤ v5) → xq X d 65 Q 45 [(0, (2, 67)), (1, (1, v1)), (3, (1, v3)), (5, (1, 0)), (7, (0, 0))] [] H) ∧ (¬ (5 ≤ v5) → ((0 : Int) ≤ v5 ∧ (v5 : Int) < 5) ∧ (xJ (v1 + (H 77 v5))) ∧ ((0 : Int) ≤ v5 ∧ (v5 : Int) < 5) ∧ (xJ (v3 + (H 78 v5))) ∧ (xI (v5 + 1)) ∧ xq X d 65 Q 7 [(0, (2, 67)), (1, (1, v1 + (H 77 v5))), (3, (1, v3 + (H 78 v5))), (5, (0, v5 + 1))] [] H)) : xq X d 65 Q 7 [(0, (2, 67)), (1, (1, v1)), (3, (1, v3)), (5, (0, v5))] [] H := by
  show xq X d 65 Q 7 [(0, (2, 67)), (1, (1, v1)), (3, (1, v3)), (5, (0, v5))] [] H
  refine xq_run [7, 45] 300 ?_
  show ((5 ≤ v5) → xq X d 65 Q 45 [(0, (2, 67)), (1, (1, v1)), (3, (1, v3)), (5, (1, 0)), (7, (0, 0))] [] H) ∧ (¬ (5 ≤ v5) → ((0 : Int) ≤ v5 ∧ (v5 : Int) < 5) ∧ (xJ (v1 + (H 77 v5))) ∧ ((0 : Int) ≤ v5 ∧ (v5 : Int) < 5) ∧ (xJ (v3 + (H 78 v5))) ∧ (xI (v5 + 1)) ∧ xq X d 65 Q 7 [(0, (2, 67)), (1, (1, v1 + (H 77 v5))), (3, (1, v3 + (H 78 v5))), (5, (0, v5 + 1))] [] H)
  refine ⟨fun k_ => ?_, fun k_ => ?_⟩
  · replace h := h.1 k_
    exact h
  · replace h := h.2 k_
    refine ⟨h.1, ?_⟩
    replace h := h.2
    refine ⟨h.1, ?_⟩
    replace h := h.2
    refine ⟨h.1, ?_⟩
    replace h := h.2
    refine ⟨h.1, ?_⟩
    replace h := h.2
    refine ⟨h.1, ?_⟩
    replace h := h.2
    exact h
theorem U_65_45 {X : Int × (Int → Int)} {d : Nat} {Q : Int → XH → Prop} (hd : 0 ≤ d) (v1 v3 v5 v7 : Int) (H : XH) (h : ((5 ≤ v7) → (xJ (1000 * v5)) ∧ (xJ (2 * v1)) ∧ (xJ ((2 * v1) * v3)) ∧ (¬ (2 * v1) * v3 = 0 ∧ xJ (Int.tdiv (1000 * v5) ((2 * v1) * v3))) ∧ Q (xl2i (Int.tdiv (1000 * v5) ((2 * v1) * v3))) H) ∧ (¬ (5 ≤ v7) → ((0 : Int) ≤ v7 ∧ (v7 : Int) < 5) ∧ (xJ ((H 77 v7) * v3)) ∧ ((0 : Int) ≤ v7 ∧ (v7 : Int) < 5) ∧ (xJ ((H 78 v7) * v1)) ∧ (xJ (((H 77 v7) * v3) - ((H 78 v7) * v1))) ∧ ((0 ≤ ((H 77 v7) * v3) - ((H 78 v7) * v1)) → (xJ (v5 + (((H 77 v7) * v3) - ((H 78 v7) * v1)))) ∧ (xI (v7 + 1)) ∧ xq X d 65 Q 45 [(0, (2, 67)), (1, (1, v1)), (3, (1, v3)), (5, (1, v5 + (((H 77 v7) * v3) - ((H 78 v7) * v1)))), (7, (0, v7 + 1))] [] H) ∧ (¬ (0 ≤ ((H 77 v7) * v3) - ((H 78 v7) * v1)) → (xJ (-(((H 77 v7) * v3) - ((H 78 v7) * v1)))) ∧ (xJ (v5 + (-(((H 77 v7) * v3) - ((H 78 v7) * v1))))) ∧ (xI (v7 + 1)) ∧ xq X d 65 Q 45 [(0, (2, 67)), (1, (1, v1)), (3, (1, v3)), (5, (1, v5 + (-(((H 77 v7) * v3) - ((H 78 v7) * v1))))), (7, (0, v7 + 1))] [] H))) : xq X d 65 Q 45 [(0, (2, 67)), (1, (1, v1)), (3, (1, v3)), (5, (1, v5)), (7, (0, v7))] [] H := by
  show xq X d 65 Q 45 [(0, (2, 67)), (1, (1, v1)), (3, (1, v3)), (5, (1, v5)), (7, (0, v7))] [] H
  refine xq_run [7, 45] 300 ?_
  show ((5 ≤ v7) → (xJ (1000 * v5)) ∧ (xJ (2 * v1)) ∧ (xJ ((2 * v1) * v3)) ∧ (¬ (2 * v1) * v3 = 0 ∧ xJ (Int.tdiv (1000 * v5) ((2 * v1) * v3))) ∧ xfR 0 (xl2i (Int.tdiv (1000 * v5) ((2 * v1) * v3))) ∧ xKZ = xKZ ∧ Q (xl2i (Int.tdiv (1000 * v5) ((2 * v1) * v3))) H) ∧ (¬ (5 ≤ v7) → ((0 : Int) ≤ v7 ∧ (v7 : Int) < 5) ∧ (xJ ((H 77 v7) * v3)) ∧ ((0 : Int) ≤ v7 ∧ (v7 : Int) < 5) ∧ (xJ ((H 78 v7) * v1)) ∧ (xJ (((H 77 v7) * v3) - ((H 78 v7) * v1))) ∧ ((0 ≤ xcmp (((H 77 v7) * v3) - ((H 78 v7) * v1)) 0) → (xJ (v5 + (((H 77 v7) * v3) - ((H 78 v7) * v1)))) ∧ (xI (v7 + 1)) ∧ xq X d 65 Q 45 [(0, (2, 67)), (1, (1, v1)), (3, (1, v3)), (5, (1, v5 + (((H 77 v7) * v3) - ((H 78 v7) * v1)))), (7, (0, v7 + 1))] [] H) ∧ (¬ (0 ≤ xcmp (((H 77 v7) * v3) - ((H 78 v7) * v1)) 0) → (xJ (-(((H 77 v7) * v3) - ((H 78 v7) * v1)))) ∧ (xJ (v5 + (-(((H 77 v7) * v3) - ((H 78 v7) * v1))))) ∧ (xI (v7 + 1)) ∧ xq X d 65 Q 45 [(0, (2, 67)), (1, (1, v1)), (3, (1, v3)), (5, (1, v5 + (-(((H 77 v7) * v3) - ((H 78 v7) * v1))))), (7, (0, v7 + 1))] [] H))
  refine ⟨fun k_ => ?_, fun k_ => ?_⟩
  · replace h := h.1 k_
    refine ⟨h.1, ?_⟩
    replace h := h.2
    refine ⟨h.1, ?_⟩
    replace h := h.2
    refine ⟨h.1, ?_⟩
    replace h := h.2
    refine ⟨h.1, ?_⟩
    replace h := h.2
    exact ⟨trivial, rfl, h⟩
  · replace h := h.2 k_
    refine ⟨h.1, ?_⟩
    replace h := h.2
    refine ⟨h.1, ?_⟩
    replace h := h.2
    refine ⟨h.1, ?_⟩
    replace h := h.2
    refine ⟨h.1, ?_⟩
    replace h := h.2
    refine ⟨h.1, ?_⟩
    replace h := h.2
    refine ⟨fun k_ => ?_, fun k_ => ?_⟩
    · replace h := h.1 (xcmp_ge.mp k_)
      refine ⟨h.1, ?_⟩
      replace h := h.2
      refine ⟨h.1, ?_⟩
      replace h := h.2
      exact h
    · replace h := h.2 (fun q => k_ (xcmp_ge.mpr q))
      refine ⟨h.1, ?_⟩
      replace h := h.2
      refine ⟨h.1, ?_⟩
      replace h := h.2
      refine ⟨h.1, ?_⟩
      replace h := h.2
      exact h

theorem U_64 {X : Int × (Int → Int)} {d : Nat} {Q : Int → XH → Prop} (hd : 0 ≤ d) (l : Int) (H : XH) (h : xq X d 64 Q 2 [(0, (2, 67)), (1, (0, l)), (2, (0, 0))] [] H) : xc X (d + 1) 64 [(2, 67), (0, l)] H Q := by
  refine ⟨rfl, ?_⟩
  show xq X d 64 Q 100000 [(0, (2, 67)), (1, (0, l))] [] H
  refine xq_run [2] 300 ?_
  show xq X d 64 Q 2 [(0, (2, 67)), (1, (0, l)), (2, (0, 0))] [] H
  exact h
theorem U_64_2 {X : Int × (Int → Int)} {d : Nat} {Q : Int → XH → Prop} (hd : 0 ≤ d) (v1 v2 : Int) (H : XH) (h : ((5 ≤ v2) → Q 0 H) ∧ (¬ (5 ≤ v2) → (xI (5 * v1)) ∧ (xI (560 + (5 * v1))) ∧ (xI ((560 + (5 * v1)) + v2)) ∧ ((0 : Int) ≤ (560 + (5 * v1)) + v2 ∧ ((560 + (5 * v1)) + v2 : Int) < 1180) ∧ ((0 : Int) ≤ v2 ∧ (v2 : Int) < 5) ∧ (xI (v2 + 1)) ∧ xq X d 64 Q 2 [(0, (2, 67)), (1, (0, v1)), (2, (0, v2 + 1))] [] (xup H 77 v2 (H 68 ((560 + (5 * v1)) + v2))))) : xq X d 64 Q 2 [(0, (2, 67)), (1, (0, v1)), (2, (0, v2))] [] H := by
  show xq X d 64 Q 2 [(0, (2, 67)), (1, (0, v1)), (2, (0, v2))] [] H
  refine xq_run [2] 300 ?_
  show ((5 ≤ v2) → xfR 2 0 ∧ xKZ = xKZ ∧ Q 0 H) ∧ (¬ (5 ≤ v2) → (xI (5 * v1)) ∧ (xI (560 + (5 * v1))) ∧ (xI ((560 + (5 * v1)) + v2)) ∧ ((0 : Int) ≤ (560 + (5 * v1)) + v2 ∧ ((560 + (5 * v1)) + v2 : Int) < 1180) ∧ ((0 : Int) ≤ v2 ∧ (v2 : Int) < 5) ∧ (xI (v2 + 1)) ∧ xq X d 64 Q 2 [(0, (2, 67)), (1, (0, v1)), (2, (0, v2 + 1))] [] (xup H 77 v2 (H 68 ((560 + (5 * v1)) + v2))))
  refine ⟨fun k_ => ?_, fun k_ => ?_⟩
  · replace h := h.1 k_
    exact ⟨trivial, rfl, h⟩
  · replace h := h.2 k_
    refine ⟨h.1, ?_⟩
    replace h := h.2
    refine ⟨h.1, ?_⟩
    replace h := h.2
    refine ⟨h.1, ?_⟩
    replace h := h.2
    refine ⟨h.1, ?_⟩
    replace h := h.2
    refine ⟨h.1, ?_⟩
    replace h := h.2
    refine ⟨h.1, ?_⟩
    replace h := h.2
    exact h

theorem s_65 {X : Int × (Int → Int)} {d : Nat} {Q : Int → XH → Prop} (hd : 1 ≤ d) (H : XH) (pa : ∀ s, 0 ≤ s → s < 5 → 0 ≤ H 77 s ∧ H 77 s ≤ 1000) (pb : ∀ s, 0 ≤ s → s < 5 → 0 ≤ H 78 s ∧ H 78 s ≤ 20000000) (pt : 1 ≤ sum5 (H 77) 0) (pu : 1 ≤ sum5 (H 78) 0) (hQ : Q (farV (H 77) (H 78)) H) : xc X d 65 [(2, 67)] H Q := by
  cases d with
  | zero => omega
  | succ d =>
  have ra := sum5_rng (f := H 77) (i := 0) (M := 1000) (fun s a b => by rw [Int.zero_add]; exact pa s a b)
  have rb := sum5_rng (f := H 78) (i := 0) (M := 20000000) (fun s a b => by rw [Int.zero_add]; exact pb s a b)
  have rO := farO_rng (fun s a b => (pa s a b).1) (fun s a b => (pb s a b).1)
  have rV := farV_rng (fun s a b => (pa s a b).1) (fun s a b => (pb s a b).1)
  have eV : farV (H 77) (H 78) = (1000 * farO (H 77) (H 78) (sum5 (H 77) 0) (sum5 (H 78) 0)).tdiv (2 * sum5 (H 77) 0 * sum5 (H 78) 0) := if_neg (by omega)
  rw [eV] at hQ rV
  have sa := sum5_0 (H 77)
  have sb := sum5_0 (H 78)
  refine U_65 (by omega) H ?_
  have s1 : ∀ t u s, 0 ≤ s → s < 5 → (0 ≤ t ∧ t ≤ 5000) → (0 ≤ u ∧ u ≤ 100000000) → xq X d 65 Q 7 [(0, (2, 67)), (1, (1, t + H 77 s)), (3, (1, u + H 78 s)), (5, (0, s + 1))] [] H → xq X d 65 Q 7 [(0, (2, 67)), (1, (1, t)), (3, (1, u)), (5, (0, s))] [] H := by
    intro t u s h0 h5 ht hu hk
    have ha := pa s h0 h5
    have hb := pb s h0 h5
    refine U_65_7 (by omega) t u s H ?_
    refine ⟨fun c1 => ?_, fun c1 => ?_⟩
    · skip
      first | exact hk | (exfalso; omega)
    · skip
      refine ⟨?_, ?_⟩
      · first | omega | (unfold xI; omega) | (unfold xJ; omega) | assumption | (exfalso; omega)
      refine ⟨?_, ?_⟩
      · first | omega | (unfold xI; omega) | (unfold xJ; omega) | assumption | (exfalso; omega)
      refine ⟨?_, ?_⟩
      · first | omega | (unfold xI; omega) | (unfold xJ; omega) | assumption | (exfalso; omega)
      refine ⟨?_, ?_⟩
      · first | omega | (unfold xI; omega) | (unfold xJ; omega) | assumption | (exfalso; omega)
      refine ⟨?_, ?_⟩
      · first | omega | (unfold xI; omega) | (unfold xJ; omega) | assumption | (exfalso; omega)
      first | exact hk | (exfalso; omega)
  generalize hT : sum5 (H 77) 0 = T at *
  generalize hU : sum5 (H 78) 0 = U at *
  have hTU := mulB (x := T) (y := U) (A := 5000) (B := 100000000) (by omega) (by omega)
  have s2 : ∀ o s, 0 ≤ s → s < 5 → (0 ≤ o ∧ o ≤ 5000000000000) → xq X d 65 Q 45 [(0, (2, 67)), (1, (1, T)), (3, (1, U)), (5, (1, o + iabs (H 77 s * U - H 78 s * T))), (7, (0, s + 1))] [] H → xq X d 65 Q 45 [(0, (2, 67)), (1, (1, T)), (3, (1, U)), (5, (1, o)), (7, (0, s))] [] H := by
    intro o s h0 h5 ho hk
    have ha := pa s h0 h5
    have hb := pb s h0 h5
    have h1 := mulB (x := H 77 s) (y := U) (A := 1000) (B := 100000000) ha (by omega)
    have h2 := mulB (x := H 78 s) (y := T) (A := 20000000) (B := 5000) hb (by omega)
    refine U_65_45 (by omega) T U o s H ?_
    refine ⟨fun c1 => ?_, fun c1 => ?_⟩
    · skip
      refine ⟨?_, ?_⟩
      · first | omega | (unfold xI; omega) | (unfold xJ; omega) | assumption | (exfalso; omega)
      refine ⟨?_, ?_⟩
      · first | omega | (unfold xI; omega) | (unfold xJ; omega) | assumption | (exfalso; omega)
      refine ⟨?_, ?_⟩
      · first | omega | (unfold xI; omega) | (unfold xJ; omega) | assumption | (exfalso; omega)
      refine ⟨?_, ?_⟩
      · first | omega | (unfold xI; omega) | (unfold xJ; omega) | assumption | (exfalso; omega)
      first | (rw [show iabs (H 77 s * U - H 78 s * T) = H 77 s * U - H 78 s * T by unfold iabs; exact if_neg (by omega)] at hk; exact hk) | (rw [show iabs (H 77 s * U - H 78 s * T) = -(H 77 s * U - H 78 s * T) by unfold iabs; exact if_pos (by omega)] at hk; exact hk) | (exfalso; omega)
    · skip
      refine ⟨?_, ?_⟩
      · first | omega | (unfold xI; omega) | (unfold xJ; omega) | assumption | (exfalso; omega)
      refine ⟨?_, ?_⟩
      · first | omega | (unfold xI; omega) | (unfold xJ; omega) | assumption | (exfalso; omega)
      refine ⟨?_, ?_⟩
      · first | omega | (unfold xI; omega) | (unfold xJ; omega) | assumption | (exfalso; omega)
      refine ⟨?_, ?_⟩
      · first | omega | (unfold xI; omega) | (unfold xJ; omega) | assumption | (exfalso; omega)
      refine ⟨?_, ?_⟩
      · first | omega | (unfold xI; omega) | (unfold xJ; omega) | assumption | (exfalso; omega)
      refine ⟨fun c2 => ?_, fun c2 => ?_⟩
      · skip
        refine ⟨?_, ?_⟩
        · first | omega | (unfold xI; omega) | (unfold xJ; omega) | assumption | (exfalso; omega)
        refine ⟨?_, ?_⟩
        · first | omega | (unfold xI; omega) | (unfold xJ; omega) | assumption | (exfalso; omega)
        first | (rw [show iabs (H 77 s * U - H 78 s * T) = H 77 s * U - H 78 s * T by unfold iabs; exact if_neg (by omega)] at hk; exact hk) | (rw [show iabs (H 77 s * U - H 78 s * T) = -(H 77 s * U - H 78 s * T) by unfold iabs; exact if_pos (by omega)] at hk; exact hk) | (exfalso; omega)
      · skip
        refine ⟨?_, ?_⟩
        · first | omega | (unfold xI; omega) | (unfold xJ; omega) | assumption | (exfalso; omega)
        refine ⟨?_, ?_⟩
        · first | omega | (unfold xI; omega) | (unfold xJ; omega) | assumption | (exfalso; omega)
        refine ⟨?_, ?_⟩
        · first | omega | (unfold xI; omega) | (unfold xJ; omega) | assumption | (exfalso; omega)
        first | (rw [show iabs (H 77 s * U - H 78 s * T) = H 77 s * U - H 78 s * T by unfold iabs; exact if_neg (by omega)] at hk; exact hk) | (rw [show iabs (H 77 s * U - H 78 s * T) = -(H 77 s * U - H 78 s * T) by unfold iabs; exact if_pos (by omega)] at hk; exact hk) | (exfalso; omega)
  have p0 := pa 0 (by decide) (by decide)
  have p1 := pa 1 (by decide) (by decide)
  have p2 := pa 2 (by decide) (by decide)
  have p3 := pa 3 (by decide) (by decide)
  have p4 := pa 4 (by decide) (by decide)
  have q0 := pb 0 (by decide) (by decide)
  have q1 := pb 1 (by decide) (by decide)
  have q2 := pb 2 (by decide) (by decide)
  have q3 := pb 3 (by decide) (by decide)
  have q4 := pb 4 (by decide) (by decide)
  have x0 := mulB (A := 1000) (B := 100000000) p0 (show 0 ≤ U ∧ U ≤ 100000000 by omega)
  have y0 := mulB (A := 20000000) (B := 5000) q0 (show 0 ≤ T ∧ T ≤ 5000 by omega)
  have m0 := iabs_le x0.1 y0.1
  have x1 := mulB (A := 1000) (B := 100000000) p1 (show 0 ≤ U ∧ U ≤ 100000000 by omega)
  have y1 := mulB (A := 20000000) (B := 5000) q1 (show 0 ≤ T ∧ T ≤ 5000 by omega)
  have m1 := iabs_le x1.1 y1.1
  have x2 := mulB (A := 1000) (B := 100000000) p2 (show 0 ≤ U ∧ U ≤ 100000000 by omega)
  have y2 := mulB (A := 20000000) (B := 5000) q2 (show 0 ≤ T ∧ T ≤ 5000 by omega)
  have m2 := iabs_le x2.1 y2.1
  have x3 := mulB (A := 1000) (B := 100000000) p3 (show 0 ≤ U ∧ U ≤ 100000000 by omega)
  have y3 := mulB (A := 20000000) (B := 5000) q3 (show 0 ≤ T ∧ T ≤ 5000 by omega)
  have m3 := iabs_le x3.1 y3.1
  have x4 := mulB (A := 1000) (B := 100000000) p4 (show 0 ≤ U ∧ U ≤ 100000000 by omega)
  have y4 := mulB (A := 20000000) (B := 5000) q4 (show 0 ≤ T ∧ T ≤ 5000 by omega)
  have m4 := iabs_le x4.1 y4.1
  refine s1 0 0 0 (by decide) (by decide) (by omega) (by omega) ?_
  refine s1 (0 + H 77 0) (0 + H 78 0) 1 (by decide) (by decide) (by omega) (by omega) ?_
  refine s1 (0 + H 77 0 + H 77 1) (0 + H 78 0 + H 78 1) 2 (by decide) (by decide) (by omega) (by omega) ?_
  refine s1 (0 + H 77 0 + H 77 1 + H 77 2) (0 + H 78 0 + H 78 1 + H 78 2) 3 (by decide) (by decide) (by omega) (by omega) ?_
  refine s1 (0 + H 77 0 + H 77 1 + H 77 2 + H 77 3) (0 + H 78 0 + H 78 1 + H 78 2 + H 78 3) 4 (by decide) (by decide) (by omega) (by omega) ?_
  have eT : 0 + H 77 0 + H 77 1 + H 77 2 + H 77 3 + H 77 4 = T := by
    rw [sa, Int.zero_add]
  have eU : 0 + H 78 0 + H 78 1 + H 78 2 + H 78 3 + H 78 4 = U := by
    rw [sb, Int.zero_add]
  rw [eT, eU]
  refine U_65_7 (by omega) T U (4 + 1) H ⟨fun _ => ?_, fun q => absurd (by decide) q⟩
  refine s2 0 0 (by decide) (by decide) (by omega) ?_
  refine s2 (0 + iabs (H 77 0 * U - H 78 0 * T)) 1 (by decide) (by decide) (by omega) ?_
  refine s2 (0 + iabs (H 77 0 * U - H 78 0 * T) + iabs (H 77 1 * U - H 78 1 * T)) 2 (by decide) (by decide) (by omega) ?_
  refine s2 (0 + iabs (H 77 0 * U - H 78 0 * T) + iabs (H 77 1 * U - H 78 1 * T) + iabs (H 77 2 * U - H 78 2 * T)) 3 (by decide) (by decide) (by omega) ?_
  refine s2 (0 + iabs (H 77 0 * U - H 78 0 * T) + iabs (H 77 1 * U - H 78 1 * T) + iabs (H 77 2 * U - H 78 2 * T) + iabs (H 77 3 * U - H 78 3 * T)) 4 (by decide) (by decide) (by omega) ?_
  have eO : 0 + iabs (H 77 0 * U - H 78 0 * T) + iabs (H 77 1 * U - H 78 1 * T) + iabs (H 77 2 * U - H 78 2 * T) + iabs (H 77 3 * U - H 78 3 * T) + iabs (H 77 4 * U - H 78 4 * T) = farO (H 77) (H 78) T U := by
    rw [Int.zero_add]
    rfl
  rw [eO]
  have nz : ¬ 2 * T * U = 0 := by
    rw [Int.mul_assoc]
    have := Int.mul_le_mul (a := 1) (b := 1) (c := T) (d := U) (by omega) (by omega) (by omega) (by omega)
    omega
  have e2 : 2 * T * U = 2 * (T * U) := Int.mul_assoc _ _ _
  refine U_65_45 (by omega) T U (farO (H 77) (H 78) T U) (4 + 1) H ⟨fun _ => ⟨by unfold xJ; omega, by unfold xJ; omega, by unfold xJ; omega, ⟨nz, by unfold xJ; omega⟩, xQr hQ (xl2i_id (by unfold xI; omega))⟩, fun q => absurd (by decide) q⟩
theorem s_64 {X : Int × (Int → Int)} {d : Nat} {Q : Int → XH → Prop} (hd : 1 ≤ d) (l : Int) (H : XH) (pl : 0 ≤ l ∧ l < 8) (hQ : ∀ H', frM H H' → (∀ s, 0 ≤ s → s < 5 → H' 77 s = H 68 (560 + 5 * l + s)) → (∀ o, ¬ o = 77 → H' o = H o) → Q 0 H') : xc X d 64 [(2, 67), (0, l)] H Q := by
  cases d with
  | zero => omega
  | succ d =>
  refine U_64 (by omega) l H ?_
  refine xlR 5 (fun i (H' : XH) => 0 ≤ i ∧ frM H H' ∧ (∀ o, ¬ o = 77 → H' o = H o) ∧ ∀ s, 0 ≤ s → s < i → s < 5 → H' 77 s = H 68 (560 + 5 * l + s)) (fun i H' => xq X d 64 Q 2 [(0, (2, 67)), (1, (0, l)), (2, (0, i))] [] H') (fun i H' hb hi => ?_) (fun i H' hb hi hk => ?_) 0 H ⟨Int.le_refl _, frM_refl _, fun _ _ => rfl, fun s a b => by omega⟩
  · exact U_64_2 (by omega) l i H' ⟨fun _ => hQ H' hi.2.1 (fun s a b => hi.2.2.2 s a (by omega) b) hi.2.2.1, fun q => absurd hb q⟩
  · obtain ⟨h0, h1, h2, h3⟩ := hi
    have hk' := hk (xup H' 77 i (H' 68 (560 + 5 * l + i))) ⟨by omega, frM_up h1 (by decide), fun o p => by rw [xup_ne p]; exact h2 o p, fun s a b c => by
      rw [xup_eq]
      split
      · next e => rw [h2 68 (by decide), e]
      · exact h3 s a (by omega) c⟩
    refine U_64_2 (by omega) l i H' ?_
    refine ⟨fun c1 => ?_, fun c1 => ?_⟩
    · skip
      first | exact hk' | (exfalso; omega)
    · skip
      refine ⟨?_, ?_⟩
      · first | omega | (unfold xI; omega) | (unfold xJ; omega) | assumption | (exfalso; omega)
      refine ⟨?_, ?_⟩
      · first | omega | (unfold xI; omega) | (unfold xJ; omega) | assumption | (exfalso; omega)
      refine ⟨?_, ?_⟩
      · first | omega | (unfold xI; omega) | (unfold xJ; omega) | assumption | (exfalso; omega)
      refine ⟨?_, ?_⟩
      · first | omega | (unfold xI; omega) | (unfold xJ; omega) | assumption | (exfalso; omega)
      refine ⟨?_, ?_⟩
      · first | omega | (unfold xI; omega) | (unfold xJ; omega) | assumption | (exfalso; omega)
      refine ⟨?_, ?_⟩
      · first | omega | (unfold xI; omega) | (unfold xJ; omega) | assumption | (exfalso; omega)
      first | exact hk' | (exfalso; omega)
