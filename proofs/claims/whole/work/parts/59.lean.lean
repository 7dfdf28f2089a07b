/-! THE PURE LAYER 29: lean, agree -/
/-- the sum of the first k places -/
def cS (f : Nat → Int) : Nat → Int
  | 0 => 0
  | k + 1 => cS f k + f k
theorem cS_rng {f : Nat → Int} {M : Int} : ∀ (k : Nat), (∀ i, i < k → 0 ≤ f i ∧ f i ≤ M) → 0 ≤ cS f k ∧ cS f k ≤ M * k
  | 0, _ => by
    unfold cS
    exact ⟨Int.le_refl _, by rw [Int.natCast_zero, Int.mul_zero]; exact Int.le_refl _⟩
  | k + 1, h => by
    have ih := cS_rng k (fun i q => h i (by omega))
    have h1 := h k (by omega)
    have e : M * ((k + 1 : Nat) : Int) = M * k + M := by rw [Int.natCast_add, Int.mul_add, Int.natCast_one, Int.mul_one]
    unfold cS
    omega
theorem cS_le {f f' : Nat → Int} : ∀ (k : Nat), (∀ i, i < k → f i ≤ f' i) → cS f k ≤ cS f' k
  | 0, _ => Int.le_refl _
  | k + 1, h => by
    have ih := cS_le k (fun i q => h i (by omega))
    have h1 := h k (by omega)
    unfold cS
    omega
theorem cS_0 {f : Nat → Int} : ∀ (k : Nat), (∀ i, i < k → f i = 0) → cS f k = 0
  | 0, _ => rfl
  | k + 1, h => by
    have ih := cS_0 k (fun i q => h i (by omega))
    have h1 := h k (by omega)
    unfold cS
    omega
theorem cS_congr {f f' : Nat → Int} : ∀ (k : Nat), (∀ i, i < k → f i = f' i) → cS f k = cS f' k
  | 0, _ => rfl
  | k + 1, h => by
    unfold cS
    rw [cS_congr k (fun i q => h i (by omega)), h k (by omega)]
def vdP (g : Int → Int) (l k : Int) (i : Nat) : Int := if g (870 + 5 * (i : Int)) = l ∧ g (874 + 5 * (i : Int)) = k then 1 else 0
def vdY (g : Int → Int) (l k : Int) (i : Nat) : Int := if (g (870 + 5 * (i : Int)) = l ∧ g (874 + 5 * (i : Int)) = k) ∧ ¬ g (873 + 5 * (i : Int)) = 0 then 1 else 0
theorem vdP_c (g : Int → Int) (l k : Int) (i : Nat) : ((g (870 + 5 * (i : Int)) = l ∧ g (874 + 5 * (i : Int)) = k) ∧ vdP g l k i = 1) ∨ (¬ (g (870 + 5 * (i : Int)) = l ∧ g (874 + 5 * (i : Int)) = k) ∧ vdP g l k i = 0) := by
  unfold vdP
  split
  · next h => exact Or.inl ⟨h, rfl⟩
  · next h => exact Or.inr ⟨h, rfl⟩
theorem vdY_c (g : Int → Int) (l k : Int) (i : Nat) : ((g (870 + 5 * (i : Int)) = l ∧ g (874 + 5 * (i : Int)) = k ∧ ¬ g (873 + 5 * (i : Int)) = 0) ∧ vdY g l k i = 1) ∨ (¬ (g (870 + 5 * (i : Int)) = l ∧ g (874 + 5 * (i : Int)) = k ∧ ¬ g (873 + 5 * (i : Int)) = 0) ∧ vdY g l k i = 0) := by
  unfold vdY
  split
  · next h => exact Or.inl ⟨⟨h.1.1, h.1.2, h.2⟩, rfl⟩
  · next h => exact Or.inr ⟨fun q => h ⟨⟨q.1, q.2.1⟩, q.2.2⟩, rfl⟩
def vYes (g : Int → Int) (l k : Int) : Int := if cS (vdP g l k) (g 4).toNat = 0 then -1 else (1000 * cS (vdY g l k) (g 4).toNat).tdiv (cS (vdP g l k) (g 4).toNat)
theorem vY_rng (g : Int → Int) (l k : Int) (n : Nat) : (0 ≤ cS (vdY g l k) n ∧ cS (vdY g l k) n ≤ cS (vdP g l k) n) ∧ cS (vdP g l k) n ≤ n := by
  have h1 := cS_rng (f := vdY g l k) (M := 1) n (fun i _ => by have := vdY_c g l k i; omega)
  have h2 := cS_rng (f := vdP g l k) (M := 1) n (fun i _ => by have := vdP_c g l k i; omega)
  have h3 := cS_le (f := vdY g l k) (f' := vdP g l k) n (fun i _ => by have := vdY_c g l k i; have := vdP_c g l k i; omega)
  omega
theorem vYes_rng (g : Int → Int) (l k : Int) : -1 ≤ vYes g l k ∧ vYes g l k ≤ 1000 := by
  have h := vY_rng g l k (g 4).toNat
  unfold vYes
  split
  · omega
  · have := tdivB (x := 1000 * cS (vdY g l k) (g 4).toNat) (y := cS (vdP g l k) (g 4).toNat) (A := 1000) (by omega) (by omega) (by omega)
    omega

theorem U_245 {X : Int × (Int → Int)} {d : Nat} {Q : Int → XH → Prop} (hd : 0 ≤ d) (l k : Int) (H : XH) (h : xq X d 245 Q 8 [(0, (2, 15)), (1, (0, l)), (2, (0, k)), (3, (0, 0)), (4, (0, 0)), (5, (0, 0))] [] H) : xc X (d + 1) 245 [(2, 15), (0, l), (0, k)] H Q := by
  refine ⟨rfl, ?_⟩
  show xq X d 245 Q 100000 [(0, (2, 15)), (1, (0, l)), (2, (0, k))] [] H
  refine xq_run [8] 300 ?_
  show xq X d 245 Q 8 [(0, (2, 15)), (1, (0, l)), (2, (0, k)), (3, (0, 0)), (4, (0, 0)), (5, (0, 0))] [] H
  exact h
theorem U_245_8 {X : Int × (Int → Int)} {d : Nat} {Q : Int → XH → Prop} (hd : 0 ≤ d) (v1 v2 v3 v4 v5 : Int) (H : XH) (h : ((H 15 4 ≤ v5) → ((1 ≤ v3) → (xI (1000 * v4)) ∧ (¬ v3 = 0 ∧ xI (Int.tdiv (1000 * v4) v3)) ∧ Q (Int.tdiv (1000 * v4) v3) H) ∧ (¬ (1 ≤ v3) → Q (-1) H)) ∧ (¬ (H 15 4 ≤ v5) → ((0 : Int) ≤ v5 ∧ (v5 : Int) < 60) ∧ ((¬ H 16 v5 = v1) → (xI (v5 + 1)) ∧ xq X d 245 Q 8 [(0, (2, 15)), (1, (0, v1)), (2, (0, v2)), (3, (0, v3)), (4, (0, v4)), (5, (0, v5 + 1))] [] H) ∧ (¬ (¬ H 16 v5 = v1) → ((0 : Int) ≤ v5 ∧ (v5 : Int) < 60) ∧ ((H 19 v5 = v2) → (xI (v3 + 1)) ∧ ((0 : Int) ≤ v5 ∧ (v5 : Int) < 60) ∧ ((H 18 v5 = 0) → (xI (v5 + 1)) ∧ xq X d 245 Q 8 [(0, (2, 15)), (1, (0, v1)), (2, (0, v2)), (3, (0, v3 + 1)), (4, (0, v4)), (5, (0, v5 + 1))] [] H) ∧ (¬ (H 18 v5 = 0) → (xI (v4 + 1)) ∧ (xI (v5 + 1)) ∧ xq X d 245 Q 8 [(0, (2, 15)), (1, (0, v1)), (2, (0, v2)), (3, (0, v3 + 1)), (4, (0, v4 + 1)), (5, (0, v5 + 1))] [] H)) ∧ (¬ (H 19 v5 = v2) → (xI (v5 + 1)) ∧ xq X d 245 Q 8 [(0, (2, 15)), (1, (0, v1)), (2, (0, v2)), (3, (0, v3)), (4, (0, v4)), (5, (0, v5 + 1))] [] H)))) : xq X d 245 Q 8 [(0, (2, 15)), (1, (0, v1)), (2, (0, v2)), (3, (0, v3)), (4, (0, v4)), (5, (0, v5))] [] H := by
  show xq X d 245 Q 8 [(0, (2, 15)), (1, (0, v1)), (2, (0, v2)), (3, (0, v3)), (4, (0, v4)), (5, (0, v5))] [] H
  refine xq_run [8] 300 ?_
  show ((H 15 4 ≤ v5) → ((1 ≤ v3) → (xI (1000 * v4)) ∧ (¬ v3 = 0 ∧ xI (Int.tdiv (1000 * v4) v3)) ∧ xfR 0 (Int.tdiv (1000 * v4) v3) ∧ xKZ = xKZ ∧ Q (Int.tdiv (1000 * v4) v3) H) ∧ (¬ (1 ≤ v3) → xfR 0 (-1) ∧ xKZ = xKZ ∧ Q (-1) H)) ∧ (¬ (H 15 4 ≤ v5) → ((0 : Int) ≤ v5 ∧ (v5 : Int) < 60) ∧ ((¬ H 16 v5 = v1) → (xI (v5 + 1)) ∧ xq X d 245 Q 8 [(0, (2, 15)), (1, (0, v1)), (2, (0, v2)), (3, (0, v3)), (4, (0, v4)), (5, (0, v5 + 1))] [] H) ∧ (¬ (¬ H 16 v5 = v1) → ((0 : Int) ≤ v5 ∧ (v5 : Int) < 60) ∧ ((H 19 v5 = v2) → (xI (v3 + 1)) ∧ ((0 : Int) ≤ v5 ∧ (v5 : Int) < 60) ∧ ((H 18 v5 = 0) → (xI (v5 + 1)) ∧ xq X d 245 Q 8 [(0, (2, 15)), (1, (0, v1)), (2, (0, v2)), (3, (0, v3 + 1)), (4, (0, v4)), (5, (0, v5 + 1))] [] H) ∧ (¬ (H 18 v5 = 0) → (xI (v4 + 1)) ∧ (xI (v5 + 1)) ∧ xq X d 245 Q 8 [(0, (2, 15)), (1, (0, v1)), (2, (0, v2)), (3, (0, v3 + 1)), (4, (0, v4 + 1)), (5, (0, v5 + 1))] [] H)) ∧ (¬ (H 19 v5 = v2) → (xI (v5 + 1)) ∧ xq X d 245 Q 8 [(0, (2, 15)), (1, (0, v1)), (2, (0, v2)), (3, (0, v3)), (4, (0, v4)), (5, (0, v5 + 1))] [] H)))
  refine ⟨fun k_ => ?_, fun k_ => ?_⟩
  · replace h := h.1 k_
    refine ⟨fun k_ => ?_, fun k_ => ?_⟩
    · replace h := h.1 k_
      refine ⟨h.1, ?_⟩
      replace h := h.2
      refine ⟨h.1, ?_⟩
      replace h := h.2
      exact ⟨trivial, rfl, h⟩
    · replace h := h.2 k_
      exact ⟨trivial, rfl, h⟩
  · replace h := h.2 k_
    refine ⟨h.1, ?_⟩
    replace h := h.2
    refine ⟨fun k_ => ?_, fun k_ => ?_⟩
    · replace h := h.1 k_
      refine ⟨h.1, ?_⟩
      replace h := h.2
      exact h
    · replace h := h.2 k_
      refine ⟨h.1, ?_⟩
      replace h := h.2
      refine ⟨fun k_ => ?_, fun k_ => ?_⟩
      · replace h := h.1 k_
        refine ⟨h.1, ?_⟩
        replace h := h.2
        refine ⟨h.1, ?_⟩
        replace h := h.2
        refine ⟨fun k_ => ?_, fun k_ => ?_⟩
        · replace h := h.1 k_
          refine ⟨h.1, ?_⟩
          replace h := h.2
          exact h
        · replace h := h.2 k_
          refine ⟨h.1, ?_⟩
          replace h := h.2
          refine ⟨h.1, ?_⟩
          replace h := h.2
          exact h
      · replace h := h.2 k_
        refine ⟨h.1, ?_⟩
        replace h := h.2
        exact h

theorem U_248 {X : Int × (Int → Int)} {d : Nat} {Q : Int → XH → Prop} (hd : 0 ≤ d) (l k : Int) (H : XH) (h : xq X d 248 Q 8 [(0, (2, 67)), (1, (0, l)), (2, (0, k)), (3, (0, 0)), (4, (0, 0)), (5, (0, 0))] [] H) : xc X (d + 1) 248 [(2, 67), (0, l), (0, k)] H Q := by
  refine ⟨rfl, ?_⟩
  show xq X d 248 Q 100000 [(0, (2, 67)), (1, (0, l)), (2, (0, k))] [] H
  refine xq_run [8] 300 ?_
  show xq X d 248 Q 8 [(0, (2, 67)), (1, (0, l)), (2, (0, k)), (3, (0, 0)), (4, (0, 0)), (5, (0, 0))] [] H
  exact h
theorem U_248_8 {X : Int × (Int → Int)} {d : Nat} {Q : Int → XH → Prop} (hd : 0 ≤ d) (v1 v2 v3 v4 v5 : Int) (H : XH) (h : ((H 68 4 ≤ v5) → ((¬ v3 = 0) → (xI (1000 * v4)) ∧ (¬ v3 = 0 ∧ xI (Int.tdiv (1000 * v4) v3)) ∧ Q (Int.tdiv (1000 * v4) v3) H) ∧ (¬ (¬ v3 = 0) → Q (-1) H)) ∧ (¬ (H 68 4 ≤ v5) → (xI (5 * v5)) ∧ (xI (870 + (5 * v5))) ∧ ((0 : Int) ≤ 870 + (5 * v5) ∧ (870 + (5 * v5) : Int) < 1180) ∧ ((¬ H 68 (870 + (5 * v5)) = v1) → (xI (v3 + 0)) ∧ (xI (v4 + 0)) ∧ (xI (v5 + 1)) ∧ xq X d 248 Q 8 [(0, (2, 67)), (1, (0, v1)), (2, (0, v2)), (3, (0, v3 + 0)), (4, (0, v4 + 0)), (5, (0, v5 + 1))] [] H) ∧ (¬ (¬ H 68 (870 + (5 * v5)) = v1) → (xI ((870 + (5 * v5)) + 4)) ∧ ((0 : Int) ≤ (870 + (5 * v5)) + 4 ∧ ((870 + (5 * v5)) + 4 : Int) < 1180) ∧ ((¬ H 68 ((870 + (5 * v5)) + 4) = v2) → (xI (v3 + 0)) ∧ (xI (v4 + 0)) ∧ (xI (v5 + 1)) ∧ xq X d 248 Q 8 [(0, (2, 67)), (1, (0, v1)), (2, (0, v2)), (3, (0, v3 + 0)), (4, (0, v4 + 0)), (5, (0, v5 + 1))] [] H) ∧ (¬ (¬ H 68 ((870 + (5 * v5)) + 4) = v2) → (xI (v3 + 1)) ∧ (xI ((870 + (5 * v5)) + 3)) ∧ ((0 : Int) ≤ (870 + (5 * v5)) + 3 ∧ ((870 + (5 * v5)) + 3 : Int) < 1180) ∧ (xI (v4 + (H 68 ((870 + (5 * v5)) + 3)))) ∧ (xI (v5 + 1)) ∧ xq X d 248 Q 8 [(0, (2, 67)), (1, (0, v1)), (2, (0, v2)), (3, (0, v3 + 1)), (4, (0, v4 + (H 68 ((870 + (5 * v5)) + 3)))), (5, (0, v5 + 1))] [] H)))) : xq X d 248 Q 8 [(0, (2, 67)), (1, (0, v1)), (2, (0, v2)), (3, (0, v3)), (4, (0, v4)), (5, (0, v5))] [] H := by
  show xq X d 248 Q 8 [(0, (2, 67)), (1, (0, v1)), (2, (0, v2)), (3, (0, v3)), (4, (0, v4)), (5, (0, v5))] [] H
  refine xq_run [8] 300 ?_
  show ((0 : Int) ≤ 4 ∧ (4 : Int) < 1180) ∧ ((H 68 4 ≤ v5) → ((¬ v3 = 0) → (xI (1000 * v4)) ∧ (¬ v3 = 0 ∧ xI (Int.tdiv (1000 * v4) v3)) ∧ xfR 0 (Int.tdiv (1000 * v4) v3) ∧ xKZ = xKZ ∧ Q (Int.tdiv (1000 * v4) v3) H) ∧ (¬ (¬ v3 = 0) → xfR 0 (-1) ∧ xKZ = xKZ ∧ Q (-1) H)) ∧ (¬ (H 68 4 ≤ v5) → (xI (5 * v5)) ∧ (xI (870 + (5 * v5))) ∧ ((0 : Int) ≤ 870 + (5 * v5) ∧ (870 + (5 * v5) : Int) < 1180) ∧ ((¬ H 68 (870 + (5 * v5)) = v1) → ((0 = 0) → (xI (v3 + 0)) ∧ ((0 = 0) → (xI (v4 + 0)) ∧ (xI (v5 + 1)) ∧ xq X d 248 Q 8 [(0, (2, 67)), (1, (0, v1)), (2, (0, v2)), (3, (0, v3 + 0)), (4, (0, v4 + 0)), (5, (0, v5 + 1))] [] H) ∧ (¬ (0 = 0) → _)) ∧ (¬ (0 = 0) → _)) ∧ (¬ (¬ H 68 (870 + (5 * v5)) = v1) → (xI ((870 + (5 * v5)) + 4)) ∧ ((0 : Int) ≤ (870 + (5 * v5)) + 4 ∧ ((870 + (5 * v5)) + 4 : Int) < 1180) ∧ ((¬ H 68 ((870 + (5 * v5)) + 4) = v2) → ((0 = 0) → (xI (v3 + 0)) ∧ ((0 = 0) → (xI (v4 + 0)) ∧ (xI (v5 + 1)) ∧ xq X d 248 Q 8 [(0, (2, 67)), (1, (0, v1)), (2, (0, v2)), (3, (0, v3 + 0)), (4, (0, v4 + 0)), (5, (0, v5 + 1))] [] H) ∧ (¬ (0 = 0) → _)) ∧ (¬ (0 = 0) → _)) ∧ (¬ (¬ H 68 ((870 + (5 * v5)) + 4) = v2) → ((1 = 0) → _) ∧ (¬ (1 = 0) → (xI (v3 + 1)) ∧ ((1 = 0) → _) ∧ (¬ (1 = 0) → (xI ((870 + (5 * v5)) + 3)) ∧ ((0 : Int) ≤ (870 + (5 * v5)) + 3 ∧ ((870 + (5 * v5)) + 3 : Int) < 1180) ∧ (xI (v4 + (H 68 ((870 + (5 * v5)) + 3)))) ∧ (xI (v5 + 1)) ∧ xq X d 248 Q 8 [(0, (2, 67)), (1, (0, v1)), (2, (0, v2)), (3, (0, v3 + 1)), (4, (0, v4 + (H 68 ((870 + (5 * v5)) + 3)))), (5, (0, v5 + 1))] [] H)))))
  refine ⟨⟨by decide, by decide⟩, ?_⟩
  refine ⟨fun k_ => ?_, fun k_ => ?_⟩
  · replace h := h.1 k_
    refine ⟨fun k_ => ?_, fun k_ => ?_⟩
    · replace h := h.1 k_
      refine ⟨h.1, ?_⟩
      replace h := h.2
      refine ⟨h.1, ?_⟩
      replace h := h.2
      exact ⟨trivial, rfl, h⟩
    · replace h := h.2 k_
      exact ⟨trivial, rfl, h⟩
  · replace h := h.2 k_
    refine ⟨h.1, ?_⟩
    replace h := h.2
    refine ⟨h.1, ?_⟩
    replace h := h.2
    refine ⟨h.1, ?_⟩
    replace h := h.2
    refine ⟨fun k_ => ?_, fun k_ => ?_⟩
    · replace h := h.1 k_
      refine ⟨fun k_ => ?_, fun k_ => absurd (by decide) k_⟩
      refine ⟨h.1, ?_⟩
      replace h := h.2
      refine ⟨fun k_ => ?_, fun k_ => absurd (by decide) k_⟩
      refine ⟨h.1, ?_⟩
      replace h := h.2
      refine ⟨h.1, ?_⟩
      replace h := h.2
      exact h
    · replace h := h.2 k_
      refine ⟨h.1, ?_⟩
      replace h := h.2
      refine ⟨h.1, ?_⟩
      replace h := h.2
      refine ⟨fun k_ => ?_, fun k_ => ?_⟩
      · replace h := h.1 k_
        refine ⟨fun k_ => ?_, fun k_ => absurd (by decide) k_⟩
        refine ⟨h.1, ?_⟩
        replace h := h.2
        refine ⟨fun k_ => ?_, fun k_ => absurd (by decide) k_⟩
        refine ⟨h.1, ?_⟩
        replace h := h.2
        refine ⟨h.1, ?_⟩
        replace h := h.2
        exact h
      · replace h := h.2 k_
        refine ⟨fun k_ => absurd k_ (by decide), fun k_ => ?_⟩
        refine ⟨h.1, ?_⟩
        replace h := h.2
        refine ⟨fun k_ => absurd k_ (by decide), fun k_ => ?_⟩
        refine ⟨h.1, ?_⟩
        replace h := h.2
        refine ⟨h.1, ?_⟩
        replace h := h.2
        refine ⟨h.1, ?_⟩
        replace h := h.2
        refine ⟨h.1, ?_⟩
        replace h := h.2
        exact h

theorem s_245 {X : Int × (Int → Int)} {d : Nat} {Q : Int → XH → Prop} (hd : 2 ≤ d) (l k : Int) (H : XH) (hi : InvS H) (hk : k = 0 ∨ k = 1) (hQ : Q (vYes (H 68) l k) H) : xc X d 245 [(2, 15), (0, l), (0, k)] H Q := by
  cases d with
  | zero => omega
  | succ d =>
  have hg := hi.1
  have hs := hi.2
  have v4 := hs.v4
  have vdb := hg.vdb
  have key : ∀ (m j : Nat), j + m = (H 68 4).toNat → xq X d 245 Q 8 [(0, (2, 15)), (1, (0, l)), (2, (0, k)), (3, (0, cS (vdP (H 68) l k) j)), (4, (0, cS (vdY (H 68) l k) j)), (5, (0, (j : Int)))] [] H := by
    intro m
    induction m with
    | zero =>
      intro j hj
      have r := vY_rng (H 68) l k j
      have hj' : j = (H 68 4).toNat := by omega
      unfold vYes at hQ
      rw [← hj'] at hQ
      have hdv : ¬ cS (vdP (H 68) l k) j = 0 → xI (Int.tdiv (1000 * cS (vdY (H 68) l k) j) (cS (vdP (H 68) l k) j)) := fun q => by
        have := tdivB (x := 1000 * cS (vdY (H 68) l k) j) (y := cS (vdP (H 68) l k) j) (A := 1000) (by omega) (by omega) (by omega)
        unfold xI
        omega
      refine U_245_8 (by omega) l k _ _ (j : Int) H ?_
      refine ⟨fun c1 => ?_, fun c1 => ?_⟩
      · skip
        refine ⟨fun c2 => ?_, fun c2 => ?_⟩
        · skip
          refine ⟨?_, ?_⟩
          · first | omega | exact ⟨by omega, hdv (by omega)⟩ | (unfold xI; omega) | (exfalso; omega)
          refine ⟨?_, ?_⟩
          · first | omega | exact ⟨by omega, hdv (by omega)⟩ | (unfold xI; omega) | (exfalso; omega)
          first | (rw [if_neg (by omega)] at hQ; exact hQ) | (rw [if_pos (by omega)] at hQ; exact hQ) | (exfalso; omega)
        · skip
          first | (rw [if_neg (by omega)] at hQ; exact hQ) | (rw [if_pos (by omega)] at hQ; exact hQ) | (exfalso; omega)
      · skip
        refine ⟨?_, ?_⟩
        · first | omega | exact ⟨by omega, hdv (by omega)⟩ | (unfold xI; omega) | (exfalso; omega)
        refine ⟨fun c3 => ?_, fun c3 => ?_⟩
        · skip
          refine ⟨?_, ?_⟩
          · first | omega | exact ⟨by omega, hdv (by omega)⟩ | (unfold xI; omega) | (exfalso; omega)
          first | (rw [if_neg (by omega)] at hQ; exact hQ) | (rw [if_pos (by omega)] at hQ; exact hQ) | (exfalso; omega)
        · skip
          refine ⟨?_, ?_⟩
          · first | omega | exact ⟨by omega, hdv (by omega)⟩ | (unfold xI; omega) | (exfalso; omega)
          refine ⟨fun c4 => ?_, fun c4 => ?_⟩
          · skip
            refine ⟨?_, ?_⟩
            · first | omega | exact ⟨by omega, hdv (by omega)⟩ | (unfold xI; omega) | (exfalso; omega)
            refine ⟨?_, ?_⟩
            · first | omega | exact ⟨by omega, hdv (by omega)⟩ | (unfold xI; omega) | (exfalso; omega)
            refine ⟨fun c5 => ?_, fun c5 => ?_⟩
            · skip
              refine ⟨?_, ?_⟩
              · first | omega | exact ⟨by omega, hdv (by omega)⟩ | (unfold xI; omega) | (exfalso; omega)
              first | (rw [if_neg (by omega)] at hQ; exact hQ) | (rw [if_pos (by omega)] at hQ; exact hQ) | (exfalso; omega)
            · skip
              refine ⟨?_, ?_⟩
              · first | omega | exact ⟨by omega, hdv (by omega)⟩ | (unfold xI; omega) | (exfalso; omega)
              refine ⟨?_, ?_⟩
              · first | omega | exact ⟨by omega, hdv (by omega)⟩ | (unfold xI; omega) | (exfalso; omega)
              first | (rw [if_neg (by omega)] at hQ; exact hQ) | (rw [if_pos (by omega)] at hQ; exact hQ) | (exfalso; omega)
          · skip
            refine ⟨?_, ?_⟩
            · first | omega | exact ⟨by omega, hdv (by omega)⟩ | (unfold xI; omega) | (exfalso; omega)
            first | (rw [if_neg (by omega)] at hQ; exact hQ) | (rw [if_pos (by omega)] at hQ; exact hQ) | (exfalso; omega)
    | succ m ih =>
      intro j hj
      have r := vY_rng (H 68) l k j
      have cP := vdP_c (H 68) l k j
      have cY := vdY_c (H 68) l k j
      have vdi := hg.vdi (j : Int) (by omega) (by omega)
      have nx : ∀ p q, p = cS (vdP (H 68) l k) j + vdP (H 68) l k j → q = cS (vdY (H 68) l k) j + vdY (H 68) l k j → xq X d 245 Q 8 [(0, (2, 15)), (1, (0, l)), (2, (0, k)), (3, (0, p)), (4, (0, q)), (5, (0, (j : Int) + 1))] [] H := fun p q hp hq => by
        rw [hp, hq]
        exact ih (j + 1) (by omega)
      have lk := hs.lk (j : Int) (by omega) (by omega)
      have kn := hs.kn (j : Int) (by omega) (by omega)
      have sa := hs.sa (j : Int) (by omega) (by omega)
      refine U_245_8 (by omega) l k _ _ (j : Int) H ?_
      refine ⟨fun c1 => ?_, fun c1 => ?_⟩
      · skip
        refine ⟨fun c2 => ?_, fun c2 => ?_⟩
        · skip
          refine ⟨?_, ?_⟩
          · first | omega | (unfold xI; omega) | (exfalso; omega)
          refine ⟨?_, ?_⟩
          · first | omega | (unfold xI; omega) | (exfalso; omega)
          first | (exfalso; omega) | exact nx _ _ (by omega) (by omega)
        · skip
          first | (exfalso; omega) | exact nx _ _ (by omega) (by omega)
      · skip
        refine ⟨?_, ?_⟩
        · first | omega | (unfold xI; omega) | (exfalso; omega)
        refine ⟨fun c3 => ?_, fun c3 => ?_⟩
        · skip
          refine ⟨?_, ?_⟩
          · first | omega | (unfold xI; omega) | (exfalso; omega)
          first | (exfalso; omega) | exact nx _ _ (by omega) (by omega)
        · skip
          refine ⟨?_, ?_⟩
          · first | omega | (unfold xI; omega) | (exfalso; omega)
          refine ⟨fun c4 => ?_, fun c4 => ?_⟩
          · skip
            refine ⟨?_, ?_⟩
            · first | omega | (unfold xI; omega) | (exfalso; omega)
            refine ⟨?_, ?_⟩
            · first | omega | (unfold xI; omega) | (exfalso; omega)
            refine ⟨fun c5 => ?_, fun c5 => ?_⟩
            · skip
              refine ⟨?_, ?_⟩
              · first | omega | (unfold xI; omega) | (exfalso; omega)
              first | (exfalso; omega) | exact nx _ _ (by omega) (by omega)
            · skip
              refine ⟨?_, ?_⟩
              · first | omega | (unfold xI; omega) | (exfalso; omega)
              refine ⟨?_, ?_⟩
              · first | omega | (unfold xI; omega) | (exfalso; omega)
              first | (exfalso; omega) | exact nx _ _ (by omega) (by omega)
          · skip
            refine ⟨?_, ?_⟩
            · first | omega | (unfold xI; omega) | (exfalso; omega)
            first | (exfalso; omega) | exact nx _ _ (by omega) (by omega)
  refine U_245 (by omega) l k H ?_
  exact key (H 68 4).toNat 0 (by omega)

theorem s_248 {X : Int × (Int → Int)} {d : Nat} {Q : Int → XH → Prop} (hd : 2 ≤ d) (l k : Int) (H : XH) (hg : GOk (H 67 0) (H 67 1) (H 68)) (hQ : Q (vYes (H 68) l k) H) : xc X d 248 [(2, 67), (0, l), (0, k)] H Q := by
  cases d with
  | zero => omega
  | succ d =>
  have vdb := hg.vdb
  have key : ∀ (m j : Nat), j + m = (H 68 4).toNat → xq X d 248 Q 8 [(0, (2, 67)), (1, (0, l)), (2, (0, k)), (3, (0, cS (vdP (H 68) l k) j)), (4, (0, cS (vdY (H 68) l k) j)), (5, (0, (j : Int)))] [] H := by
    intro m
    induction m with
    | zero =>
      intro j hj
      have r := vY_rng (H 68) l k j
      have hj' : j = (H 68 4).toNat := by omega
      unfold vYes at hQ
      rw [← hj'] at hQ
      have hdv : ¬ cS (vdP (H 68) l k) j = 0 → xI (Int.tdiv (1000 * cS (vdY (H 68) l k) j) (cS (vdP (H 68) l k) j)) := fun q => by
        have := tdivB (x := 1000 * cS (vdY (H 68) l k) j) (y := cS (vdP (H 68) l k) j) (A := 1000) (by omega) (by omega) (by omega)
        unfold xI
        omega
      refine U_248_8 (by omega) l k _ _ (j : Int) H ?_
      refine ⟨fun c1 => ?_, fun c1 => ?_⟩
      · skip
        refine ⟨fun c2 => ?_, fun c2 => ?_⟩
        · skip
          refine ⟨?_, ?_⟩
          · first | omega | exact ⟨by omega, hdv (by omega)⟩ | (unfold xI; omega) | (exfalso; omega)
          refine ⟨?_, ?_⟩
          · first | omega | exact ⟨by omega, hdv (by omega)⟩ | (unfold xI; omega) | (exfalso; omega)
          first | (rw [if_neg (by omega)] at hQ; exact hQ) | (rw [if_pos (by omega)] at hQ; exact hQ) | (exfalso; omega)
        · skip
          first | (rw [if_neg (by omega)] at hQ; exact hQ) | (rw [if_pos (by omega)] at hQ; exact hQ) | (exfalso; omega)
      · skip
        refine ⟨?_, ?_⟩
        · first | omega | exact ⟨by omega, hdv (by omega)⟩ | (unfold xI; omega) | (exfalso; omega)
        refine ⟨?_, ?_⟩
        · first | omega | exact ⟨by omega, hdv (by omega)⟩ | (unfold xI; omega) | (exfalso; omega)
        refine ⟨?_, ?_⟩
        · first | omega | exact ⟨by omega, hdv (by omega)⟩ | (unfold xI; omega) | (exfalso; omega)
        refine ⟨fun c3 => ?_, fun c3 => ?_⟩
        · skip
          refine ⟨?_, ?_⟩
          · first | omega | exact ⟨by omega, hdv (by omega)⟩ | (unfold xI; omega) | (exfalso; omega)
          refine ⟨?_, ?_⟩
          · first | omega | exact ⟨by omega, hdv (by omega)⟩ | (unfold xI; omega) | (exfalso; omega)
          refine ⟨?_, ?_⟩
          · first | omega | exact ⟨by omega, hdv (by omega)⟩ | (unfold xI; omega) | (exfalso; omega)
          first | (rw [if_neg (by omega)] at hQ; exact hQ) | (rw [if_pos (by omega)] at hQ; exact hQ) | (exfalso; omega)
        · skip
          refine ⟨?_, ?_⟩
          · first | omega | exact ⟨by omega, hdv (by omega)⟩ | (unfold xI; omega) | (exfalso; omega)
          refine ⟨?_, ?_⟩
          · first | omega | exact ⟨by omega, hdv (by omega)⟩ | (unfold xI; omega) | (exfalso; omega)
          refine ⟨fun c4 => ?_, fun c4 => ?_⟩
          · skip
            refine ⟨?_, ?_⟩
            · first | omega | exact ⟨by omega, hdv (by omega)⟩ | (unfold xI; omega) | (exfalso; omega)
            refine ⟨?_, ?_⟩
            · first | omega | exact ⟨by omega, hdv (by omega)⟩ | (unfold xI; omega) | (exfalso; omega)
            refine ⟨?_, ?_⟩
            · first | omega | exact ⟨by omega, hdv (by omega)⟩ | (unfold xI; omega) | (exfalso; omega)
            first | (rw [if_neg (by omega)] at hQ; exact hQ) | (rw [if_pos (by omega)] at hQ; exact hQ) | (exfalso; omega)
          · skip
            refine ⟨?_, ?_⟩
            · first | omega | exact ⟨by omega, hdv (by omega)⟩ | (unfold xI; omega) | (exfalso; omega)
            refine ⟨?_, ?_⟩
            · first | omega | exact ⟨by omega, hdv (by omega)⟩ | (unfold xI; omega) | (exfalso; omega)
            refine ⟨?_, ?_⟩
            · first | omega | exact ⟨by omega, hdv (by omega)⟩ | (unfold xI; omega) | (exfalso; omega)
            refine ⟨?_, ?_⟩
            · first | omega | exact ⟨by omega, hdv (by omega)⟩ | (unfold xI; omega) | (exfalso; omega)
            refine ⟨?_, ?_⟩
            · first | omega | exact ⟨by omega, hdv (by omega)⟩ | (unfold xI; omega) | (exfalso; omega)
            first | (rw [if_neg (by omega)] at hQ; exact hQ) | (rw [if_pos (by omega)] at hQ; exact hQ) | (exfalso; omega)
    | succ m ih =>
      intro j hj
      have r := vY_rng (H 68) l k j
      have cP := vdP_c (H 68) l k j
      have cY := vdY_c (H 68) l k j
      have vdi := hg.vdi (j : Int) (by omega) (by omega)
      have nx : ∀ p q, p = cS (vdP (H 68) l k) j + vdP (H 68) l k j → q = cS (vdY (H 68) l k) j + vdY (H 68) l k j → xq X d 248 Q 8 [(0, (2, 67)), (1, (0, l)), (2, (0, k)), (3, (0, p)), (4, (0, q)), (5, (0, (j : Int) + 1))] [] H := fun p q hp hq => by
        rw [hp, hq]
        exact ih (j + 1) (by omega)
      rw [show (874 : Int) + 5 * (j : Int) = 870 + 5 * (j : Int) + 4 by omega] at cP cY
      rw [show (873 : Int) + 5 * (j : Int) = 870 + 5 * (j : Int) + 3 by omega] at cY vdi
      refine U_248_8 (by omega) l k _ _ (j : Int) H ?_
      refine ⟨fun c1 => ?_, fun c1 => ?_⟩
      · skip
        refine ⟨fun c2 => ?_, fun c2 => ?_⟩
        · skip
          refine ⟨?_, ?_⟩
          · first | omega | (unfold xI; omega) | (exfalso; omega)
          refine ⟨?_, ?_⟩
          · first | omega | (unfold xI; omega) | (exfalso; omega)
          first | (exfalso; omega) | exact nx _ _ (by omega) (by omega)
        · skip
          first | (exfalso; omega) | exact nx _ _ (by omega) (by omega)
      · skip
        refine ⟨?_, ?_⟩
        · first | omega | (unfold xI; omega) | (exfalso; omega)
        refine ⟨?_, ?_⟩
        · first | omega | (unfold xI; omega) | (exfalso; omega)
        refine ⟨?_, ?_⟩
        · first | omega | (unfold xI; omega) | (exfalso; omega)
        refine ⟨fun c3 => ?_, fun c3 => ?_⟩
        · skip
          refine ⟨?_, ?_⟩
          · first | omega | (unfold xI; omega) | (exfalso; omega)
          refine ⟨?_, ?_⟩
          · first | omega | (unfold xI; omega) | (exfalso; omega)
          refine ⟨?_, ?_⟩
          · first | omega | (unfold xI; omega) | (exfalso; omega)
          first | (exfalso; omega) | exact nx _ _ (by omega) (by omega)
        · skip
          refine ⟨?_, ?_⟩
          · first | omega | (unfold xI; omega) | (exfalso; omega)
          refine ⟨?_, ?_⟩
          · first | omega | (unfold xI; omega) | (exfalso; omega)
          refine ⟨fun c4 => ?_, fun c4 => ?_⟩
          · skip
            refine ⟨?_, ?_⟩
            · first | omega | (unfold xI; omega) | (exfalso; omega)
            refine ⟨?_, ?_⟩
            · first | omega | (unfold xI; omega) | (exfalso; omega)
            refine ⟨?_, ?_⟩
            · first | omega | (unfold xI; omega) | (exfalso; omega)
            first | (exfalso; omega) | exact nx _ _ (by omega) (by omega)
          · skip
            refine ⟨?_, ?_⟩
            · first | omega | (unfold xI; omega) | (exfalso; omega)
            refine ⟨?_, ?_⟩
            · first | omega | (unfold xI; omega) | (exfalso; omega)
            refine ⟨?_, ?_⟩
            · first | omega | (unfold xI; omega) | (exfalso; omega)
            refine ⟨?_, ?_⟩
            · first | omega | (unfold xI; omega) | (exfalso; omega)
            refine ⟨?_, ?_⟩
            · first | omega | (unfold xI; omega) | (exfalso; omega)
            first | (exfalso; omega) | exact nx _ _ (by omega) (by omega)
  refine U_248 (by omega) l k H ?_
  exact key (H 68 4).toNat 0 (by omega)

def vLean (w n : Int) (g : Int → Int) (l : Int) : Int := if vYes g l 1 = -1 ∨ vYes g l 0 = -1 then -2000 else vYes g l 1 - vYes g l 0
theorem vYes_no {w n : Int} {g : Int → Int} (hg : GOk w n g) {l k : Int} (h : ¬ (0 ≤ l ∧ l ≤ 3)) : vYes g l k = -1 := by
  have vdb := hg.vdb
  unfold vYes
  rw [cS_0 (f := vdP g l k) _ (fun i q => by
    have a := hg.vdi (i : Int) (by omega) (by omega)
    have b := vdP_c g l k i
    omega), if_pos rfl]

theorem U_246 {X : Int × (Int → Int)} {d : Nat} {Q : Int → XH → Prop} (hd : 2 ≤ d) (l : Int) (H : XH) (h : (InvS H) ∧ ((1 : Int) = 0 ∨ (1 : Int) = 1) ∧ ((InvS H) ∧ ((0 : Int) = 0 ∨ (0 : Int) = 1) ∧ (((vYes (H 68) l 1 = (-1)) → Q (-2000) H) ∧ (¬ (vYes (H 68) l 1 = (-1)) → ((¬ vYes (H 68) l 0 = (-1)) → (xI ((vYes (H 68) l 1) - (vYes (H 68) l 0))) ∧ Q ((vYes (H 68) l 1) - (vYes (H 68) l 0)) H) ∧ (¬ (¬ vYes (H 68) l 0 = (-1)) → Q (-2000) H))))) : xc X (d + 1) 246 [(2, 15), (0, l)] H Q := by
  refine ⟨rfl, ?_⟩
  show xq X d 246 Q 100000 [(0, (2, 15)), (1, (0, l))] [] H
  refine xq_run [6, 13] 300 ?_
  show xWM (xE X) xMC d 245 [(2, 15), (0, l), (0, 1)] xKZ H _
  refine xc_in (s_245 (by omega) l 1 H (h.1) (h.2.1) ?_)
  replace h := h.2.2
  show xq X d 246 Q 6 [(0, (2, 15)), (1, (0, l))] [(0, vYes (H 68) l 1)] H
  refine xq_run [6, 13] 300 ?_
  show xWM (xE X) xMC d 245 [(2, 15), (0, l), (0, 0)] xKZ H _
  refine xc_in (s_245 (by omega) l 0 H (h.1) (h.2.1) ?_)
  replace h := h.2.2
  show xq X d 246 Q 13 [(2, (0, vYes (H 68) l 1)), (0, (2, 15)), (1, (0, l))] [(0, vYes (H 68) l 0)] H
  refine xq_run [6, 13] 300 ?_
  show ((vYes (H 68) l 1 = (-1)) → xfR 0 (-2000) ∧ xKZ = xKZ ∧ Q (-2000) H) ∧ (¬ (vYes (H 68) l 1 = (-1)) → ((¬ vYes (H 68) l 0 = (-1)) → (xI ((vYes (H 68) l 1) - (vYes (H 68) l 0))) ∧ xfR 0 ((vYes (H 68) l 1) - (vYes (H 68) l 0)) ∧ xKZ = xKZ ∧ Q ((vYes (H 68) l 1) - (vYes (H 68) l 0)) H) ∧ (¬ (¬ vYes (H 68) l 0 = (-1)) → xfR 0 (-2000) ∧ xKZ = xKZ ∧ Q (-2000) H))
  refine ⟨fun k_ => ?_, fun k_ => ?_⟩
  · replace h := h.1 k_
    exact ⟨trivial, rfl, h⟩
  · replace h := h.2 k_
    refine ⟨fun k_ => ?_, fun k_ => ?_⟩
    · replace h := h.1 k_
      refine ⟨h.1, ?_⟩
      replace h := h.2
      exact ⟨trivial, rfl, h⟩
    · replace h := h.2 k_
      exact ⟨trivial, rfl, h⟩

theorem s_246 {X : Int × (Int → Int)} {d : Nat} {Q : Int → XH → Prop} (hd : 3 ≤ d) (l : Int) (H : XH) (hi : InvS H) (hQ : Q (vLean (H 67 0) (H 67 1) (H 68) l) H) : xc X d 246 [(2, 15), (0, l)] H Q := by
  cases d with
  | zero => omega
  | succ d =>
  have r0 := vYes_rng (H 68) l 0
  have r1 := vYes_rng (H 68) l 1
  unfold vLean at hQ
  refine U_246 (by omega) l H ?_
  refine ⟨?_, ?_⟩
  · first | omega | exact hi | (unfold xI; omega)
  refine ⟨?_, ?_⟩
  · first | omega | exact hi | (unfold xI; omega)
  refine ⟨?_, ?_⟩
  · first | omega | exact hi | (unfold xI; omega)
  refine ⟨?_, ?_⟩
  · first | omega | exact hi | (unfold xI; omega)
  refine ⟨fun c1 => ?_, fun c1 => ?_⟩
  · skip
    first | (rw [if_neg (by omega)] at hQ; exact hQ) | (rw [if_pos (by omega)] at hQ; exact hQ)
  · skip
    refine ⟨fun c2 => ?_, fun c2 => ?_⟩
    · skip
      refine ⟨?_, ?_⟩
      · first | omega | exact hi | (unfold xI; omega)
      first | (rw [if_neg (by omega)] at hQ; exact hQ) | (rw [if_pos (by omega)] at hQ; exact hQ)
    · skip
      first | (rw [if_neg (by omega)] at hQ; exact hQ) | (rw [if_pos (by omega)] at hQ; exact hQ)

theorem U_247 {X : Int × (Int → Int)} {d : Nat} {Q : Int → XH → Prop} (hd : 3 ≤ d) (l : Int) (H : XH) (h : (InvS H) ∧ (Q (vLean (H 67 0) (H 67 1) (H 68) l) H)) : xc X (d + 1) 247 [(2, 0), (0, l)] H Q := by
  refine ⟨rfl, ?_⟩
  show xq X d 247 Q 100000 [(0, (2, 0)), (1, (0, l))] [] H
  refine xq_run [11] 300 ?_
  show xWM (xE X) xMC d 246 [(2, 15), (0, l)] xKZ H _
  refine xc_in (s_246 (by omega) l H (h.1) ?_)
  replace h := h.2
  show xq X d 247 Q 11 [(0, (2, 0)), (1, (0, l))] [(0, vLean (H 67 0) (H 67 1) (H 68) l)] H
  refine xq_run [11] 300 ?_
  show xfR 0 (vLean (H 67 0) (H 67 1) (H 68) l) ∧ xKZ = xKZ ∧ Q (vLean (H 67 0) (H 67 1) (H 68) l) H
  exact ⟨trivial, rfl, h⟩

theorem U_249 {X : Int × (Int → Int)} {d : Nat} {Q : Int → XH → Prop} (hd : 2 ≤ d) (l : Int) (H : XH) (h : ((((0 ≤ l ∧ l ≤ 3)) → (GOk (H 67 0) (H 67 1) (H 68)) ∧ ((GOk (H 67 0) (H 67 1) (H 68)) ∧ (((vYes (H 68) l 1 = (-1)) → Q (-2000) H) ∧ (¬ (vYes (H 68) l 1 = (-1)) → ((¬ vYes (H 68) l 0 = (-1)) → (xI ((vYes (H 68) l 1) - (vYes (H 68) l 0))) ∧ Q ((vYes (H 68) l 1) - (vYes (H 68) l 0)) H) ∧ (¬ (¬ vYes (H 68) l 0 = (-1)) → Q (-2000) H))))) ∧ (¬ ((0 ≤ l ∧ l ≤ 3)) → Q (-2000) H))) : xc X (d + 1) 249 [(2, 67), (0, l)] H Q := by
  refine ⟨rfl, ?_⟩
  show xq X d 249 Q 100000 [(0, (2, 67)), (1, (0, l))] [] H
  refine xq_run [6, 19, 26] 300 ?_
  show xWM (xE X) xMC d 23 [(0, l), (0, 0), (0, 3)] xKZ H _
  refine xc_in (s_23 (by omega) l 0 3 H  ?_)
  replace h := h
  show xq X d 249 Q 6 [(0, (2, 67)), (1, (0, l))] [(0, xb (0 ≤ l ∧ l ≤ 3))] H
  refine xq_run [6, 19, 26] 300 ?_
  show ((¬ xb (0 ≤ l ∧ l ≤ 3) = 0) → xWM (xE X) xMC d 248 [(2, 67), (0, l), (0, 1)] xKZ H _) ∧ (¬ (¬ xb (0 ≤ l ∧ l ≤ 3) = 0) → xfR 0 (-2000) ∧ xKZ = xKZ ∧ Q (-2000) H)
  refine ⟨fun k_ => ?_, fun k_ => ?_⟩
  · replace h := h.1 (xbe_1.mp k_)
    refine xc_in (s_248 (by omega) l 1 H (h.1) ?_)
    replace h := h.2
    show xq X d 249 Q 19 [(0, (2, 67)), (1, (0, l))] [(0, vYes (H 68) l 1)] H
    refine xq_run [6, 19, 26] 300 ?_
    show xWM (xE X) xMC d 248 [(2, 67), (0, l), (0, 0)] xKZ H _
    refine xc_in (s_248 (by omega) l 0 H (h.1) ?_)
    replace h := h.2
    show xq X d 249 Q 26 [(2, (0, vYes (H 68) l 1)), (0, (2, 67)), (1, (0, l))] [(0, vYes (H 68) l 0)] H
    refine xq_run [6, 19, 26] 300 ?_
    show ((vYes (H 68) l 1 = (-1)) → xfR 0 (-2000) ∧ xKZ = xKZ ∧ Q (-2000) H) ∧ (¬ (vYes (H 68) l 1 = (-1)) → ((¬ vYes (H 68) l 0 = (-1)) → (xI ((vYes (H 68) l 1) - (vYes (H 68) l 0))) ∧ xfR 0 ((vYes (H 68) l 1) - (vYes (H 68) l 0)) ∧ xKZ = xKZ ∧ Q ((vYes (H 68) l 1) - (vYes (H 68) l 0)) H) ∧ (¬ (¬ vYes (H 68) l 0 = (-1)) → xfR 0 (-2000) ∧ xKZ = xKZ ∧ Q (-2000) H))
    refine ⟨fun k_ => ?_, fun k_ => ?_⟩
    · replace h := h.1 k_
      exact ⟨trivial, rfl, h⟩
    · replace h := h.2 k_
      refine ⟨fun k_ => ?_, fun k_ => ?_⟩
      · replace h := h.1 k_
        refine ⟨h.1, ?_⟩
        replace h := h.2
        exact ⟨trivial, rfl, h⟩
      · replace h := h.2 k_
        exact ⟨trivial, rfl, h⟩
  · replace h := h.2 (xbe_n.mp k_)
    exact ⟨trivial, rfl, h⟩

theorem s_247 {X : Int × (Int → Int)} {d : Nat} {Q : Int → XH → Prop} (hd : 8 ≤ d) (l : Int) (H : XH) (hi : InvS H) (hQ : ∀ h1 : XH, frC H h1 → Q (vLean (H 67 0) (H 67 1) (H 68) l) h1) : xc X d 247 [(2, 0), (0, l)] H Q := by
  cases d with
  | zero => omega
  | succ d =>
  have k := hQ _ (frC_refl H)
  refine U_247 (by omega) l H ?_
  refine ⟨?_, ?_⟩
  · first | omega | exact hi
  exact k

theorem s_249 {X : Int × (Int → Int)} {d : Nat} {Q : Int → XH → Prop} (hd : 8 ≤ d) (l : Int) (H : XH) (hg : GOk (H 67 0) (H 67 1) (H 68)) (hQ : ∀ h1 : XH, frM H h1 → Q (vLean (H 67 0) (H 67 1) (H 68) l) h1) : xc X d 249 [(2, 67), (0, l)] H Q := by
  cases d with
  | zero => omega
  | succ d =>
  have r0 := vYes_rng (H 68) l 0
  have r1 := vYes_rng (H 68) l 1
  have no : ¬ (0 ≤ l ∧ l ≤ 3) → vYes (H 68) l 1 = -1 := fun q => vYes_no hg q
  have k := hQ _ (frM_refl H)
  unfold vLean at k
  refine U_249 (by omega) l H ?_
  refine ⟨fun c1 => ?_, fun c1 => ?_⟩
  · skip
    refine ⟨?_, ?_⟩
    · first | omega | exact hg | (unfold xI; omega)
    refine ⟨?_, ?_⟩
    · first | omega | exact hg | (unfold xI; omega)
    refine ⟨fun c2 => ?_, fun c2 => ?_⟩
    · skip
      first | (rw [if_neg (by omega)] at k; exact k) | (rw [if_pos (by omega)] at k; exact k)
    · skip
      refine ⟨fun c3 => ?_, fun c3 => ?_⟩
      · skip
        refine ⟨?_, ?_⟩
        · first | omega | exact hg | (unfold xI; omega)
        first | (rw [if_neg (by omega)] at k; exact k) | (rw [if_pos (by omega)] at k; exact k)
      · skip
        first | (rw [if_neg (by omega)] at k; exact k) | (rw [if_pos (by omega)] at k; exact k)
  · skip
    first | (rw [if_neg (by omega)] at k; exact k) | (rw [if_pos (by omega)] at k; exact k)

theorem p_lean {X : Int × (Int → Int)} {d : Nat} (hd : 8 ≤ d) (l : Int) (H : XH) (hi : InvS H) : xc X d 247 [(2, 0), (0, l)] H (fun r H1 => xc X d 249 [(2, 67), (0, l)] H1 (qOk H r)) :=
  s_247 (by omega) l H hi (fun h1 f => s_249 (by omega) l h1 (frC_S f hi).1 (fun h2 f' => ⟨by rw [f 67 (by decide) (by decide), f 68 (by decide) (by decide)], frQ_CM f f'⟩))

def agP (g : Int → Int) (a b : Int) (i j : Nat) : Int := if g (870 + 5 * (i : Int)) = a ∧ g (870 + 5 * (j : Int)) = b ∧ g (871 + 5 * (i : Int)) = g (871 + 5 * (j : Int)) ∧ g (872 + 5 * (i : Int)) = g (872 + 5 * (j : Int)) then 1 else 0
def agY (g : Int → Int) (a b : Int) (i j : Nat) : Int := if g (870 + 5 * (i : Int)) = a ∧ g (870 + 5 * (j : Int)) = b ∧ g (871 + 5 * (i : Int)) = g (871 + 5 * (j : Int)) ∧ g (872 + 5 * (i : Int)) = g (872 + 5 * (j : Int)) ∧ g (873 + 5 * (i : Int)) = g (873 + 5 * (j : Int)) then 1 else 0
theorem agP_c (g : Int → Int) (a b : Int) (i j : Nat) : ((g (870 + 5 * (i : Int)) = a ∧ g (870 + 5 * (j : Int)) = b ∧ g (871 + 5 * (i : Int)) = g (871 + 5 * (j : Int)) ∧ g (872 + 5 * (i : Int)) = g (872 + 5 * (j : Int))) ∧ agP g a b i j = 1) ∨ (¬ (g (870 + 5 * (i : Int)) = a ∧ g (870 + 5 * (j : Int)) = b ∧ g (871 + 5 * (i : Int)) = g (871 + 5 * (j : Int)) ∧ g (872 + 5 * (i : Int)) = g (872 + 5 * (j : Int))) ∧ agP g a b i j = 0) := by
  unfold agP
  split
  · next h => exact Or.inl ⟨h, rfl⟩
  · next h => exact Or.inr ⟨h, rfl⟩
theorem agY_c (g : Int → Int) (a b : Int) (i j : Nat) : ((g (870 + 5 * (i : Int)) = a ∧ g (870 + 5 * (j : Int)) = b ∧ g (871 + 5 * (i : Int)) = g (871 + 5 * (j : Int)) ∧ g (872 + 5 * (i : Int)) = g (872 + 5 * (j : Int)) ∧ g (873 + 5 * (i : Int)) = g (873 + 5 * (j : Int))) ∧ agY g a b i j = 1) ∨ (¬ (g (870 + 5 * (i : Int)) = a ∧ g (870 + 5 * (j : Int)) = b ∧ g (871 + 5 * (i : Int)) = g (871 + 5 * (j : Int)) ∧ g (872 + 5 * (i : Int)) = g (872 + 5 * (j : Int)) ∧ g (873 + 5 * (i : Int)) = g (873 + 5 * (j : Int))) ∧ agY g a b i j = 0) := by
  unfold agY
  split
  · next h => exact Or.inl ⟨h, rfl⟩
  · next h => exact Or.inr ⟨h, rfl⟩
def agN (g : Int → Int) (a b : Int) (i : Nat) : Int := cS (agP g a b i) (g 4).toNat
def agS (g : Int → Int) (a b : Int) (i : Nat) : Int := cS (agY g a b i) (g 4).toNat
theorem ag_in (g : Int → Int) (a b : Int) (i j : Nat) : (0 ≤ cS (agY g a b i) j ∧ cS (agY g a b i) j ≤ cS (agP g a b i) j) ∧ cS (agP g a b i) j ≤ j := by
  have h1 := cS_rng (f := agY g a b i) (M := 1) j (fun e _ => by have := agY_c g a b i e; omega)
  have h2 := cS_rng (f := agP g a b i) (M := 1) j (fun e _ => by have := agP_c g a b i e; omega)
  have h3 := cS_le (f := agY g a b i) (f' := agP g a b i) j (fun e _ => by have := agY_c g a b i e; have := agP_c g a b i e; omega)
  omega
theorem ag_out {g : Int → Int} (h : 0 ≤ g 4 ∧ g 4 ≤ 60) (a b : Int) (i : Nat) : (0 ≤ cS (agS g a b) i ∧ cS (agS g a b) i ≤ cS (agN g a b) i) ∧ cS (agN g a b) i ≤ 60 * i := by
  have k : ∀ e, (0 ≤ agS g a b e ∧ agS g a b e ≤ agN g a b e) ∧ agN g a b e ≤ 60 := fun e => by
    have := ag_in g a b e (g 4).toNat
    unfold agS agN
    omega
  have h1 := cS_rng (f := agS g a b) (M := 60) i (fun e _ => by have := k e; omega)
  have h2 := cS_rng (f := agN g a b) (M := 60) i (fun e _ => by have := k e; omega)
  have h3 := cS_le (f := agS g a b) (f' := agN g a b) i (fun e _ => by have := k e; omega)
  omega
theorem ag_no {g : Int → Int} {a b : Int} {i : Nat} (h : ¬ g (870 + 5 * (i : Int)) = a) : agN g a b i = 0 ∧ agS g a b i = 0 := by
  unfold agN agS
  exact ⟨cS_0 _ (fun j _ => by have := agP_c g a b i j; omega), cS_0 _ (fun j _ => by have := agY_c g a b i j; omega)⟩
def vAgr (w n : Int) (g : Int → Int) (a b : Int) : Int := if a = b ∨ cS (agN g a b) (g 4).toNat = 0 then -1 else (1000 * cS (agS g a b) (g 4).toNat).tdiv (cS (agN g a b) (g 4).toNat)
theorem ag_01 {w n : Int} {g : Int → Int} (hg : GOk w n g) {a b : Int} (h : ¬ ((0 ≤ a ∧ a ≤ 3) ∧ (0 ≤ b ∧ b ≤ 3))) : cS (agN g a b) (g 4).toNat = 0 := by
  have vdb := hg.vdb
  refine cS_0 _ (fun i q => ?_)
  have x := hg.vdi (i : Int) (by omega) (by omega)
  unfold agN
  refine cS_0 _ (fun j q' => ?_)
  have y := hg.vdi (j : Int) (by omega) (by omega)
  have := agP_c g a b i j
  omega

theorem U_250 {X : Int × (Int → Int)} {d : Nat} {Q : Int → XH → Prop} (hd : 0 ≤ d) (a b : Int) (H : XH) (h : xq X d 250 Q 8 [(0, (2, 15)), (1, (0, a)), (2, (0, b)), (3, (0, 0)), (4, (0, 0)), (5, (0, 0))] [] H) : xc X (d + 1) 250 [(2, 15), (0, a), (0, b)] H Q := by
  refine ⟨rfl, ?_⟩
  show xq X d 250 Q 100000 [(0, (2, 15)), (1, (0, a)), (2, (0, b))] [] H
  refine xq_run [8, 34] 300 ?_
  show xq X d 250 Q 8 [(0, (2, 15)), (1, (0, a)), (2, (0, b)), (3, (0, 0)), (4, (0, 0)), (5, (0, 0))] [] H
  exact h
theorem U_250_8 {X : Int × (Int → Int)} {d : Nat} {Q : Int → XH → Prop} (hd : 0 ≤ d) (v1 v2 v3 v4 v5 : Int) (H : XH) (h : ((H 15 4 ≤ v5) → ((1 ≤ v3) → (xI (1000 * v4)) ∧ (¬ v3 = 0 ∧ xI (Int.tdiv (1000 * v4) v3)) ∧ Q (Int.tdiv (1000 * v4) v3) H) ∧ (¬ (1 ≤ v3) → Q (-1) H)) ∧ (¬ (H 15 4 ≤ v5) → ((0 : Int) ≤ v5 ∧ (v5 : Int) < 60) ∧ ((H 16 v5 = v1) → xq X d 250 Q 34 [(0, (2, 15)), (1, (0, v1)), (2, (0, v2)), (3, (0, v3)), (4, (0, v4)), (5, (0, v5)), (6, (0, 0))] [] H) ∧ (¬ (H 16 v5 = v1) → (xI (v5 + 1)) ∧ xq X d 250 Q 8 [(0, (2, 15)), (1, (0, v1)), (2, (0, v2)), (3, (0, v3)), (4, (0, v4)), (5, (0, v5 + 1))] [] H))) : xq X d 250 Q 8 [(0, (2, 15)), (1, (0, v1)), (2, (0, v2)), (3, (0, v3)), (4, (0, v4)), (5, (0, v5))] [] H := by
  show xq X d 250 Q 8 [(0, (2, 15)), (1, (0, v1)), (2, (0, v2)), (3, (0, v3)), (4, (0, v4)), (5, (0, v5))] [] H
  refine xq_run [8, 34] 300 ?_
  show ((H 15 4 ≤ v5) → ((1 ≤ v3) → (xI (1000 * v4)) ∧ (¬ v3 = 0 ∧ xI (Int.tdiv (1000 * v4) v3)) ∧ xfR 0 (Int.tdiv (1000 * v4) v3) ∧ xKZ = xKZ ∧ Q (Int.tdiv (1000 * v4) v3) H) ∧ (¬ (1 ≤ v3) → xfR 0 (-1) ∧ xKZ = xKZ ∧ Q (-1) H)) ∧ (¬ (H 15 4 ≤ v5) → ((0 : Int) ≤ v5 ∧ (v5 : Int) < 60) ∧ ((H 16 v5 = v1) → xq X d 250 Q 34 [(0, (2, 15)), (1, (0, v1)), (2, (0, v2)), (3, (0, v3)), (4, (0, v4)), (5, (0, v5)), (6, (0, 0))] [] H) ∧ (¬ (H 16 v5 = v1) → (xI (v5 + 1)) ∧ xq X d 250 Q 8 [(0, (2, 15)), (1, (0, v1)), (2, (0, v2)), (3, (0, v3)), (4, (0, v4)), (5, (0, v5 + 1))] [] H))
  refine ⟨fun k_ => ?_, fun k_ => ?_⟩
  · replace h := h.1 k_
    refine ⟨fun k_ => ?_, fun k_ => ?_⟩
    · replace h := h.1 k_
      refine ⟨h.1, ?_⟩
      replace h := h.2
      refine ⟨h.1, ?_⟩
      replace h := h.2
      exact ⟨trivial, rfl, h⟩
    · replace h := h.2 k_
      exact ⟨trivial, rfl, h⟩
  · replace h := h.2 k_
    refine ⟨h.1, ?_⟩
    replace h := h.2
    refine ⟨fun k_ => ?_, fun k_ => ?_⟩
    · replace h := h.1 k_
      exact h
    · replace h := h.2 k_
      refine ⟨h.1, ?_⟩
      replace h := h.2
      exact h
theorem U_250_34 {X : Int × (Int → Int)} {d : Nat} {Q : Int → XH → Prop} (hd : 0 ≤ d) (v1 v2 v3 v4 v5 v6 : Int) (H : XH) (h : ((H 15 4 ≤ v6) → (xI (v5 + 1)) ∧ xq X d 250 Q 8 [(0, (2, 15)), (1, (0, v1)), (2, (0, v2)), (3, (0, v3)), (4, (0, v4)), (5, (0, v5 + 1))] [] H) ∧ (¬ (H 15 4 ≤ v6) → ((0 : Int) ≤ v6 ∧ (v6 : Int) < 60) ∧ ((¬ H 16 v6 = v2) → (xI (v6 + 1)) ∧ xq X d 250 Q 34 [(0, (2, 15)), (1, (0, v1)), (2, (0, v2)), (3, (0, v3)), (4, (0, v4)), (5, (0, v5)), (6, (0, v6 + 1))] [] H) ∧ (¬ (¬ H 16 v6 = v2) → ((0 : Int) ≤ v5 ∧ (v5 : Int) < 60) ∧ ((0 : Int) ≤ v6 ∧ (v6 : Int) < 60) ∧ ((H 17 v5 = H 17 v6) → (xI (v3 + 1)) ∧ ((0 : Int) ≤ v5 ∧ (v5 : Int) < 60) ∧ ((0 : Int) ≤ v6 ∧ (v6 : Int) < 60) ∧ ((¬ H 18 v5 = H 18 v6) → (xI (v6 + 1)) ∧ xq X d 250 Q 34 [(0, (2, 15)), (1, (0, v1)), (2, (0, v2)), (3, (0, v3 + 1)), (4, (0, v4)), (5, (0, v5)), (6, (0, v6 + 1))] [] H) ∧ (¬ (¬ H 18 v5 = H 18 v6) → (xI (v4 + 1)) ∧ (xI (v6 + 1)) ∧ xq X d 250 Q 34 [(0, (2, 15)), (1, (0, v1)), (2, (0, v2)), (3, (0, v3 + 1)), (4, (0, v4 + 1)), (5, (0, v5)), (6, (0, v6 + 1))] [] H)) ∧ (¬ (H 17 v5 = H 17 v6) → (xI (v6 + 1)) ∧ xq X d 250 Q 34 [(0, (2, 15)), (1, (0, v1)), (2, (0, v2)), (3, (0, v3)), (4, (0, v4)), (5, (0, v5)), (6, (0, v6 + 1))] [] H)))) : xq X d 250 Q 34 [(0, (2, 15)), (1, (0, v1)), (2, (0, v2)), (3, (0, v3)), (4, (0, v4)), (5, (0, v5)), (6, (0, v6))] [] H := by
  show xq X d 250 Q 34 [(0, (2, 15)), (1, (0, v1)), (2, (0, v2)), (3, (0, v3)), (4, (0, v4)), (5, (0, v5)), (6, (0, v6))] [] H
  refine xq_run [8, 34] 300 ?_
  show ((H 15 4 ≤ v6) → (xI (v5 + 1)) ∧ xq X d 250 Q 8 [(0, (2, 15)), (1, (0, v1)), (2, (0, v2)), (3, (0, v3)), (4, (0, v4)), (5, (0, v5 + 1))] [] H) ∧ (¬ (H 15 4 ≤ v6) → ((0 : Int) ≤ v6 ∧ (v6 : Int) < 60) ∧ ((¬ H 16 v6 = v2) → (xI (v6 + 1)) ∧ xq X d 250 Q 34 [(0, (2, 15)), (1, (0, v1)), (2, (0, v2)), (3, (0, v3)), (4, (0, v4)), (5, (0, v5)), (6, (0, v6 + 1))] [] H) ∧ (¬ (¬ H 16 v6 = v2) → ((0 : Int) ≤ v5 ∧ (v5 : Int) < 60) ∧ ((0 : Int) ≤ v6 ∧ (v6 : Int) < 60) ∧ ((H 17 v5 = H 17 v6) → (xI (v3 + 1)) ∧ ((0 : Int) ≤ v5 ∧ (v5 : Int) < 60) ∧ ((0 : Int) ≤ v6 ∧ (v6 : Int) < 60) ∧ ((¬ H 18 v5 = H 18 v6) → (xI (v6 + 1)) ∧ xq X d 250 Q 34 [(0, (2, 15)), (1, (0, v1)), (2, (0, v2)), (3, (0, v3 + 1)), (4, (0, v4)), (5, (0, v5)), (6, (0, v6 + 1))] [] H) ∧ (¬ (¬ H 18 v5 = H 18 v6) → (xI (v4 + 1)) ∧ (xI (v6 + 1)) ∧ xq X d 250 Q 34 [(0, (2, 15)), (1, (0, v1)), (2, (0, v2)), (3, (0, v3 + 1)), (4, (0, v4 + 1)), (5, (0, v5)), (6, (0, v6 + 1))] [] H)) ∧ (¬ (H 17 v5 = H 17 v6) → (xI (v6 + 1)) ∧ xq X d 250 Q 34 [(0, (2, 15)), (1, (0, v1)), (2, (0, v2)), (3, (0, v3)), (4, (0, v4)), (5, (0, v5)), (6, (0, v6 + 1))] [] H)))
  refine ⟨fun k_ => ?_, fun k_ => ?_⟩
  · replace h := h.1 k_
    refine ⟨h.1, ?_⟩
    replace h := h.2
    exact h
  · replace h := h.2 k_
    refine ⟨h.1, ?_⟩
    replace h := h.2
    refine ⟨fun k_ => ?_, fun k_ => ?_⟩
    · replace h := h.1 k_
      refine ⟨h.1, ?_⟩
      replace h := h.2
      exact h
    · replace h := h.2 k_
      refine ⟨h.1, ?_⟩
      replace h := h.2
      refine ⟨h.1, ?_⟩
      replace h := h.2
      refine ⟨fun k_ => ?_, fun k_ => ?_⟩
      · replace h := h.1 k_
        refine ⟨h.1, ?_⟩
        replace h := h.2
        refine ⟨h.1, ?_⟩
        replace h := h.2
        refine ⟨h.1, ?_⟩
        replace h := h.2
        refine ⟨fun k_ => ?_, fun k_ => ?_⟩
        · replace h := h.1 k_
          refine ⟨h.1, ?_⟩
          replace h := h.2
          exact h
        · replace h := h.2 k_
          refine ⟨h.1, ?_⟩
          replace h := h.2
          refine ⟨h.1, ?_⟩
          replace h := h.2
          exact h
      · replace h := h.2 k_
        refine ⟨h.1, ?_⟩
        replace h := h.2
        exact h

set_option maxRecDepth 4000 in
theorem U_252 {X : Int × (Int → Int)} {d : Nat} {Q : Int → XH → Prop} (hd : 1 ≤ d) (a b : Int) (H : XH) (h : ((((0 ≤ a ∧ a ≤ 3)) → ((((0 ≤ b ∧ b ≤ 3)) → ((¬ a = b) → xq X d 252 Q 33 [(0, (2, 67)), (1, (0, a)), (2, (0, b)), (3, (0, 0)), (4, (0, 0)), (5, (0, 0))] [] H) ∧ (¬ (¬ a = b) → Q (-1) H)) ∧ (¬ ((0 ≤ b ∧ b ≤ 3)) → Q (-1) H))) ∧ (¬ ((0 ≤ a ∧ a ≤ 3)) → Q (-1) H))) : xc X (d + 1) 252 [(2, 67), (0, a), (0, b)] H Q := by
  refine ⟨rfl, ?_⟩
  show xq X d 252 Q 100000 [(0, (2, 67)), (1, (0, a)), (2, (0, b))] [] H
  refine xq_run [6, 15, 33, 47] 300 ?_
  show xWM (xE X) xMC d 23 [(0, a), (0, 0), (0, 3)] xKZ H _
  refine xc_in (s_23 (by omega) a 0 3 H  ?_)
  replace h := h
  show xq X d 252 Q 6 [(0, (2, 67)), (1, (0, a)), (2, (0, b))] [(0, xb (0 ≤ a ∧ a ≤ 3))] H
  refine xq_run [6, 15, 33, 47] 300 ?_
  show ((xb (0 ≤ a ∧ a ≤ 3) = 0) → xfR 0 (-1) ∧ xKZ = xKZ ∧ Q (-1) H) ∧ (¬ (xb (0 ≤ a ∧ a ≤ 3) = 0) → xWM (xE X) xMC d 23 [(0, b), (0, 0), (0, 3)] xKZ H _)
  refine ⟨fun k_ => ?_, fun k_ => ?_⟩
  · replace h := h.2 (xbe_0.mp k_)
    exact ⟨trivial, rfl, h⟩
  · replace h := h.1 (xbe_1.mp k_)
    refine xc_in (s_23 (by omega) b 0 3 H  ?_)
    replace h := h
    show xq X d 252 Q 15 [(0, (2, 67)), (1, (0, a)), (2, (0, b))] [(0, xb (0 ≤ b ∧ b ≤ 3))] H
    refine xq_run [6, 15, 33, 47] 300 ?_
    show ((xb (0 ≤ b ∧ b ≤ 3) = 0) → xfR 0 (-1) ∧ xKZ = xKZ ∧ Q (-1) H) ∧ (¬ (xb (0 ≤ b ∧ b ≤ 3) = 0) → ((¬ a = b) → xq X d 252 Q 33 [(0, (2, 67)), (1, (0, a)), (2, (0, b)), (3, (0, 0)), (4, (0, 0)), (5, (0, 0))] [] H) ∧ (¬ (¬ a = b) → xfR 0 (-1) ∧ xKZ = xKZ ∧ Q (-1) H))
    refine ⟨fun k_ => ?_, fun k_ => ?_⟩
    · replace h := h.2 (xbe_0.mp k_)
      exact ⟨trivial, rfl, h⟩
    · replace h := h.1 (xbe_1.mp k_)
      refine ⟨fun k_ => ?_, fun k_ => ?_⟩
      · replace h := h.1 k_
        exact h
      · replace h := h.2 k_
        exact ⟨trivial, rfl, h⟩
set_option maxRecDepth 4000 in
theorem U_252_33 {X : Int × (Int → Int)} {d : Nat} {Q : Int → XH → Prop} (hd : 0 ≤ d) (v1 v2 v3 v4 v5 : Int) (H : XH) (h : ((H 68 4 ≤ v5) → ((¬ v3 = 0) → (xI (1000 * v4)) ∧ (¬ v3 = 0 ∧ xI (Int.tdiv (1000 * v4) v3)) ∧ Q (Int.tdiv (1000 * v4) v3) H) ∧ (¬ (¬ v3 = 0) → Q (-1) H)) ∧ (¬ (H 68 4 ≤ v5) → xq X d 252 Q 47 [(0, (2, 67)), (1, (0, v1)), (2, (0, v2)), (3, (0, v3)), (4, (0, v4)), (5, (0, v5)), (6, (0, 0))] [] H)) : xq X d 252 Q 33 [(0, (2, 67)), (1, (0, v1)), (2, (0, v2)), (3, (0, v3)), (4, (0, v4)), (5, (0, v5))] [] H := by
  show xq X d 252 Q 33 [(0, (2, 67)), (1, (0, v1)), (2, (0, v2)), (3, (0, v3)), (4, (0, v4)), (5, (0, v5))] [] H
  refine xq_run [6, 15, 33, 47] 300 ?_
  show ((0 : Int) ≤ 4 ∧ (4 : Int) < 1180) ∧ ((H 68 4 ≤ v5) → ((¬ v3 = 0) → (xI (1000 * v4)) ∧ (¬ v3 = 0 ∧ xI (Int.tdiv (1000 * v4) v3)) ∧ xfR 0 (Int.tdiv (1000 * v4) v3) ∧ xKZ = xKZ ∧ Q (Int.tdiv (1000 * v4) v3) H) ∧ (¬ (¬ v3 = 0) → xfR 0 (-1) ∧ xKZ = xKZ ∧ Q (-1) H)) ∧ (¬ (H 68 4 ≤ v5) → xq X d 252 Q 47 [(0, (2, 67)), (1, (0, v1)), (2, (0, v2)), (3, (0, v3)), (4, (0, v4)), (5, (0, v5)), (6, (0, 0))] [] H)
  refine ⟨⟨by decide, by decide⟩, ?_⟩
  refine ⟨fun k_ => ?_, fun k_ => ?_⟩
  · replace h := h.1 k_
    refine ⟨fun k_ => ?_, fun k_ => ?_⟩
    · replace h := h.1 k_
      refine ⟨h.1, ?_⟩
      replace h := h.2
      refine ⟨h.1, ?_⟩
      replace h := h.2
      exact ⟨trivial, rfl, h⟩
    · replace h := h.2 k_
      exact ⟨trivial, rfl, h⟩
  · replace h := h.2 k_
    exact h
set_option maxRecDepth 4000 in
theorem U_252_47 {X : Int × (Int → Int)} {d : Nat} {Q : Int → XH → Prop} (hd : 0 ≤ d) (v1 v2 v3 v4 v5 v6 : Int) (H : XH) (h : ((H 68 4 ≤ v6) → (xI (v5 + 1)) ∧ xq X d 252 Q 33 [(0, (2, 67)), (1, (0, v1)), (2, (0, v2)), (3, (0, v3)), (4, (0, v4)), (5, (0, v5 + 1))] [] H) ∧ (¬ (H 68 4 ≤ v6) → (xI (5 * v5)) ∧ (xI (870 + (5 * v5))) ∧ (xI (5 * v6)) ∧ (xI (870 + (5 * v6))) ∧ ((0 : Int) ≤ 870 + (5 * v5) ∧ (870 + (5 * v5) : Int) < 1180) ∧ ((¬ H 68 (870 + (5 * v5)) = v1) → (xI (v3 + 0)) ∧ (xI (v4 + 0)) ∧ (xI (v6 + 1)) ∧ xq X d 252 Q 47 [(0, (2, 67)), (1, (0, v1)), (2, (0, v2)), (3, (0, v3 + 0)), (4, (0, v4 + 0)), (5, (0, v5)), (6, (0, v6 + 1))] [] H) ∧ (¬ (¬ H 68 (870 + (5 * v5)) = v1) → ((0 : Int) ≤ 870 + (5 * v6) ∧ (870 + (5 * v6) : Int) < 1180) ∧ ((¬ H 68 (870 + (5 * v6)) = v2) → (xI (v3 + 0)) ∧ (xI (v4 + 0)) ∧ (xI (v6 + 1)) ∧ xq X d 252 Q 47 [(0, (2, 67)), (1, (0, v1)), (2, (0, v2)), (3, (0, v3 + 0)), (4, (0, v4 + 0)), (5, (0, v5)), (6, (0, v6 + 1))] [] H) ∧ (¬ (¬ H 68 (870 + (5 * v6)) = v2) → (xI ((870 + (5 * v5)) + 1)) ∧ ((0 : Int) ≤ (870 + (5 * v5)) + 1 ∧ ((870 + (5 * v5)) + 1 : Int) < 1180) ∧ (xI ((870 + (5 * v6)) + 1)) ∧ ((0 : Int) ≤ (870 + (5 * v6)) + 1 ∧ ((870 + (5 * v6)) + 1 : Int) < 1180) ∧ ((¬ H 68 ((870 + (5 * v5)) + 1) = H 68 ((870 + (5 * v6)) + 1)) → (xI (v3 + 0)) ∧ (xI (v4 + 0)) ∧ (xI (v6 + 1)) ∧ xq X d 252 Q 47 [(0, (2, 67)), (1, (0, v1)), (2, (0, v2)), (3, (0, v3 + 0)), (4, (0, v4 + 0)), (5, (0, v5)), (6, (0, v6 + 1))] [] H) ∧ (¬ (¬ H 68 ((870 + (5 * v5)) + 1) = H 68 ((870 + (5 * v6)) + 1)) → (xI ((870 + (5 * v5)) + 2)) ∧ ((0 : Int) ≤ (870 + (5 * v5)) + 2 ∧ ((870 + (5 * v5)) + 2 : Int) < 1180) ∧ (xI ((870 + (5 * v6)) + 2)) ∧ ((0 : Int) ≤ (870 + (5 * v6)) + 2 ∧ ((870 + (5 * v6)) + 2 : Int) < 1180) ∧ ((¬ H 68 ((870 + (5 * v5)) + 2) = H 68 ((870 + (5 * v6)) + 2)) → (xI (v3 + 0)) ∧ (xI (v4 + 0)) ∧ (xI (v6 + 1)) ∧ xq X d 252 Q 47 [(0, (2, 67)), (1, (0, v1)), (2, (0, v2)), (3, (0, v3 + 0)), (4, (0, v4 + 0)), (5, (0, v5)), (6, (0, v6 + 1))] [] H) ∧ (¬ (¬ H 68 ((870 + (5 * v5)) + 2) = H 68 ((870 + (5 * v6)) + 2)) → (xI (v3 + 1)) ∧ (xI ((870 + (5 * v5)) + 3)) ∧ ((0 : Int) ≤ (870 + (5 * v5)) + 3 ∧ ((870 + (5 * v5)) + 3 : Int) < 1180) ∧ (xI ((870 + (5 * v6)) + 3)) ∧ ((0 : Int) ≤ (870 + (5 * v6)) + 3 ∧ ((870 + (5 * v6)) + 3 : Int) < 1180) ∧ ((¬ H 68 ((870 + (5 * v5)) + 3) = H 68 ((870 + (5 * v6)) + 3)) → (xI (v4 + 0)) ∧ (xI (v6 + 1)) ∧ xq X d 252 Q 47 [(0, (2, 67)), (1, (0, v1)), (2, (0, v2)), (3, (0, v3 + 1)), (4, (0, v4 + 0)), (5, (0, v5)), (6, (0, v6 + 1))] [] H) ∧ (¬ (¬ H 68 ((870 + (5 * v5)) + 3) = H 68 ((870 + (5 * v6)) + 3)) → (xI (v4 + 1)) ∧ (xI (v6 + 1)) ∧ xq X d 252 Q 47 [(0, (2, 67)), (1, (0, v1)), (2, (0, v2)), (3, (0, v3 + 1)), (4, (0, v4 + 1)), (5, (0, v5)), (6, (0, v6 + 1))] [] H))))))) : xq X d 252 Q 47 [(0, (2, 67)), (1, (0, v1)), (2, (0, v2)), (3, (0, v3)), (4, (0, v4)), (5, (0, v5)), (6, (0, v6))] [] H := by
  show xq X d 252 Q 47 [(0, (2, 67)), (1, (0, v1)), (2, (0, v2)), (3, (0, v3)), (4, (0, v4)), (5, (0, v5)), (6, (0, v6))] [] H
  refine xq_run [6, 15, 33, 47] 300 ?_
  show ((0 : Int) ≤ 4 ∧ (4 : Int) < 1180) ∧ ((H 68 4 ≤ v6) → (xI (v5 + 1)) ∧ xq X d 252 Q 33 [(0, (2, 67)), (1, (0, v1)), (2, (0, v2)), (3, (0, v3)), (4, (0, v4)), (5, (0, v5 + 1))] [] H) ∧ (¬ (H 68 4 ≤ v6) → (xI (5 * v5)) ∧ (xI (870 + (5 * v5))) ∧ (xI (5 * v6)) ∧ (xI (870 + (5 * v6))) ∧ ((0 : Int) ≤ 870 + (5 * v5) ∧ (870 + (5 * v5) : Int) < 1180) ∧ ((¬ H 68 (870 + (5 * v5)) = v1) → ((0 = 0) → (xI (v3 + 0)) ∧ ((0 = 0) → (xI (v4 + 0)) ∧ (xI (v6 + 1)) ∧ xq X d 252 Q 47 [(0, (2, 67)), (1, (0, v1)), (2, (0, v2)), (3, (0, v3 + 0)), (4, (0, v4 + 0)), (5, (0, v5)), (6, (0, v6 + 1))] [] H) ∧ (¬ (0 = 0) → _)) ∧ (¬ (0 = 0) → _)) ∧ (¬ (¬ H 68 (870 + (5 * v5)) = v1) → ((0 : Int) ≤ 870 + (5 * v6) ∧ (870 + (5 * v6) : Int) < 1180) ∧ ((¬ H 68 (870 + (5 * v6)) = v2) → ((0 = 0) → (xI (v3 + 0)) ∧ ((0 = 0) → (xI (v4 + 0)) ∧ (xI (v6 + 1)) ∧ xq X d 252 Q 47 [(0, (2, 67)), (1, (0, v1)), (2, (0, v2)), (3, (0, v3 + 0)), (4, (0, v4 + 0)), (5, (0, v5)), (6, (0, v6 + 1))] [] H) ∧ (¬ (0 = 0) → _)) ∧ (¬ (0 = 0) → _)) ∧ (¬ (¬ H 68 (870 + (5 * v6)) = v2) → (xI ((870 + (5 * v5)) + 1)) ∧ ((0 : Int) ≤ (870 + (5 * v5)) + 1 ∧ ((870 + (5 * v5)) + 1 : Int) < 1180) ∧ (xI ((870 + (5 * v6)) + 1)) ∧ ((0 : Int) ≤ (870 + (5 * v6)) + 1 ∧ ((870 + (5 * v6)) + 1 : Int) < 1180) ∧ ((¬ H 68 ((870 + (5 * v5)) + 1) = H 68 ((870 + (5 * v6)) + 1)) → ((0 = 0) → (xI (v3 + 0)) ∧ ((0 = 0) → (xI (v4 + 0)) ∧ (xI (v6 + 1)) ∧ xq X d 252 Q 47 [(0, (2, 67)), (1, (0, v1)), (2, (0, v2)), (3, (0, v3 + 0)), (4, (0, v4 + 0)), (5, (0, v5)), (6, (0, v6 + 1))] [] H) ∧ (¬ (0 = 0) → _)) ∧ (¬ (0 = 0) → _)) ∧ (¬ (¬ H 68 ((870 + (5 * v5)) + 1) = H 68 ((870 + (5 * v6)) + 1)) → (xI ((870 + (5 * v5)) + 2)) ∧ ((0 : Int) ≤ (870 + (5 * v5)) + 2 ∧ ((870 + (5 * v5)) + 2 : Int) < 1180) ∧ (xI ((870 + (5 * v6)) + 2)) ∧ ((0 : Int) ≤ (870 + (5 * v6)) + 2 ∧ ((870 + (5 * v6)) + 2 : Int) < 1180) ∧ ((¬ H 68 ((870 + (5 * v5)) + 2) = H 68 ((870 + (5 * v6)) + 2)) → ((0 = 0) → (xI (v3 + 0)) ∧ ((0 = 0) → (xI (v4 + 0)) ∧ (xI (v6 + 1)) ∧ xq X d 252 Q 47 [(0, (2, 67)), (1, (0, v1)), (2, (0, v2)), (3, (0, v3 + 0)), (4, (0, v4 + 0)), (5, (0, v5)), (6, (0, v6 + 1))] [] H) ∧ (¬ (0 = 0) → _)) ∧ (¬ (0 = 0) → _)) ∧ (¬ (¬ H 68 ((870 + (5 * v5)) + 2) = H 68 ((870 + (5 * v6)) + 2)) → ((1 = 0) → _) ∧ (¬ (1 = 0) → (xI (v3 + 1)) ∧ ((1 = 0) → _) ∧ (¬ (1 = 0) → (xI ((870 + (5 * v5)) + 3)) ∧ ((0 : Int) ≤ (870 + (5 * v5)) + 3 ∧ ((870 + (5 * v5)) + 3 : Int) < 1180) ∧ (xI ((870 + (5 * v6)) + 3)) ∧ ((0 : Int) ≤ (870 + (5 * v6)) + 3 ∧ ((870 + (5 * v6)) + 3 : Int) < 1180) ∧ ((¬ H 68 ((870 + (5 * v5)) + 3) = H 68 ((870 + (5 * v6)) + 3)) → (xI (v4 + 0)) ∧ (xI (v6 + 1)) ∧ xq X d 252 Q 47 [(0, (2, 67)), (1, (0, v1)), (2, (0, v2)), (3, (0, v3 + 1)), (4, (0, v4 + 0)), (5, (0, v5)), (6, (0, v6 + 1))] [] H) ∧ (¬ (¬ H 68 ((870 + (5 * v5)) + 3) = H 68 ((870 + (5 * v6)) + 3)) → (xI (v4 + 1)) ∧ (xI (v6 + 1)) ∧ xq X d 252 Q 47 [(0, (2, 67)), (1, (0, v1)), (2, (0, v2)), (3, (0, v3 + 1)), (4, (0, v4 + 1)), (5, (0, v5)), (6, (0, v6 + 1))] [] H))))))))
  refine ⟨⟨by decide, by decide⟩, ?_⟩
  refine ⟨fun k_ => ?_, fun k_ => ?_⟩
  · replace h := h.1 k_
    refine ⟨h.1, ?_⟩
    replace h := h.2
    exact h
  · replace h := h.2 k_
    refine ⟨h.1, ?_⟩
    replace h := h.2
    refine ⟨h.1, ?_⟩
    replace h := h.2
    refine ⟨h.1, ?_⟩
    replace h := h.2
    refine ⟨h.1, ?_⟩
    replace h := h.2
    refine ⟨h.1, ?_⟩
    replace h := h.2
    refine ⟨fun k_ => ?_, fun k_ => ?_⟩
    · replace h := h.1 k_
      refine ⟨fun k_ => ?_, fun k_ => absurd (by decide) k_⟩
      refine ⟨h.1, ?_⟩
      replace h := h.2
      refine ⟨fun k_ => ?_, fun k_ => absurd (by decide) k_⟩
      refine ⟨h.1, ?_⟩
      replace h := h.2
      refine ⟨h.1, ?_⟩
      replace h := h.2
      exact h
    · replace h := h.2 k_
      refine ⟨h.1, ?_⟩
      replace h := h.2
      refine ⟨fun k_ => ?_, fun k_ => ?_⟩
      · replace h := h.1 k_
        refine ⟨fun k_ => ?_, fun k_ => absurd (by decide) k_⟩
        refine ⟨h.1, ?_⟩
        replace h := h.2
        refine ⟨fun k_ => ?_, fun k_ => absurd (by decide) k_⟩
        refine ⟨h.1, ?_⟩
        replace h := h.2
        refine ⟨h.1, ?_⟩
        replace h := h.2
        exact h
      · replace h := h.2 k_
        refine ⟨h.1, ?_⟩
        replace h := h.2
        refine ⟨h.1, ?_⟩
        replace h := h.2
        refine ⟨h.1, ?_⟩
        replace h := h.2
        refine ⟨h.1, ?_⟩
        replace h := h.2
        refine ⟨fun k_ => ?_, fun k_ => ?_⟩
        · replace h := h.1 k_
          refine ⟨fun k_ => ?_, fun k_ => absurd (by decide) k_⟩
          refine ⟨h.1, ?_⟩
          replace h := h.2
          refine ⟨fun k_ => ?_, fun k_ => absurd (by decide) k_⟩
          refine ⟨h.1, ?_⟩
          replace h := h.2
          refine ⟨h.1, ?_⟩
          replace h := h.2
          exact h
        · replace h := h.2 k_
          refine ⟨h.1, ?_⟩
          replace h := h.2
          refine ⟨h.1, ?_⟩
          replace h := h.2
          refine ⟨h.1, ?_⟩
          replace h := h.2
          refine ⟨h.1, ?_⟩
          replace h := h.2
          refine ⟨fun k_ => ?_, fun k_ => ?_⟩
          · replace h := h.1 k_
            refine ⟨fun k_ => ?_, fun k_ => absurd (by decide) k_⟩
            refine ⟨h.1, ?_⟩
            replace h := h.2
            refine ⟨fun k_ => ?_, fun k_ => absurd (by decide) k_⟩
            refine ⟨h.1, ?_⟩
            replace h := h.2
            refine ⟨h.1, ?_⟩
            replace h := h.2
            exact h
          · replace h := h.2 k_
            refine ⟨fun k_ => absurd k_ (by decide), fun k_ => ?_⟩
            refine ⟨h.1, ?_⟩
            replace h := h.2
            refine ⟨fun k_ => absurd k_ (by decide), fun k_ => ?_⟩
            refine ⟨h.1, ?_⟩
            replace h := h.2
            refine ⟨h.1, ?_⟩
            replace h := h.2
            refine ⟨h.1, ?_⟩
            replace h := h.2
            refine ⟨h.1, ?_⟩
            replace h := h.2
            refine ⟨fun k_ => ?_, fun k_ => ?_⟩
            · replace h := h.1 k_
              refine ⟨h.1, ?_⟩
              replace h := h.2
              refine ⟨h.1, ?_⟩
              replace h := h.2
              exact h
            · replace h := h.2 k_
              refine ⟨h.1, ?_⟩
              replace h := h.2
              refine ⟨h.1, ?_⟩
              replace h := h.2
              exact h

theorem s_250 {X : Int × (Int → Int)} {d : Nat} {Q : Int → XH → Prop} (hd : 2 ≤ d) (a b : Int) (H : XH) (hi : InvS H) (ab : ¬ a = b) (hQ : Q (vAgr (H 67 0) (H 67 1) (H 68) a b) H) : xc X d 250 [(2, 15), (0, a), (0, b)] H Q := by
  cases d with
  | zero => omega
  | succ d =>
  have hg := hi.1
  have hs := hi.2
  have v4 := hs.v4
  unfold vAgr at hQ
  have vdb := hg.vdb
  have nn := hg.nn
  have keyO : ∀ (m i : Nat), i + m = (H 68 4).toNat → xq X d 250 Q 8 [(0, (2, 15)), (1, (0, a)), (2, (0, b)), (3, (0, cS (agN (H 68) a b) i)), (4, (0, cS (agS (H 68) a b) i)), (5, (0, (i : Int)))] [] H := by
    intro m
    induction m with
    | zero =>
      intro i hi2
      have r := ag_out vdb a b i
      have hi' : i = (H 68 4).toNat := by omega
      rw [← hi'] at hQ
      have hdv : ¬ cS (agN (H 68) a b) i = 0 → xI (Int.tdiv (1000 * cS (agS (H 68) a b) i) (cS (agN (H 68) a b) i)) := fun q => by
        have := tdivB (x := 1000 * cS (agS (H 68) a b) i) (y := cS (agN (H 68) a b) i) (A := 1000) (by omega) (by omega) (by omega)
        unfold xI
        omega
      refine U_250_8 (by omega) a b _ _ (i : Int) H ?_
      refine ⟨fun c1 => ?_, fun c1 => ?_⟩
      · skip
        refine ⟨fun c2 => ?_, fun c2 => ?_⟩
        · skip
          refine ⟨?_, ?_⟩
          · first | omega | exact ⟨by omega, hdv (by omega)⟩ | (unfold xI; omega) | (exfalso; omega)
          refine ⟨?_, ?_⟩
          · first | omega | exact ⟨by omega, hdv (by omega)⟩ | (unfold xI; omega) | (exfalso; omega)
          first | (rw [if_neg (by omega)] at hQ; exact hQ) | (rw [if_pos (by omega)] at hQ; exact hQ) | (exfalso; omega)
        · skip
          first | (rw [if_neg (by omega)] at hQ; exact hQ) | (rw [if_pos (by omega)] at hQ; exact hQ) | (exfalso; omega)
      · skip
        refine ⟨?_, ?_⟩
        · first | omega | exact ⟨by omega, hdv (by omega)⟩ | (unfold xI; omega) | (exfalso; omega)
        refine ⟨fun c3 => ?_, fun c3 => ?_⟩
        · skip
          first | (rw [if_neg (by omega)] at hQ; exact hQ) | (rw [if_pos (by omega)] at hQ; exact hQ) | (exfalso; omega)
        · skip
          refine ⟨?_, ?_⟩
          · first | omega | exact ⟨by omega, hdv (by omega)⟩ | (unfold xI; omega) | (exfalso; omega)
          first | (rw [if_neg (by omega)] at hQ; exact hQ) | (rw [if_pos (by omega)] at hQ; exact hQ) | (exfalso; omega)
    | succ m ih =>
      intro i hi2
      have r := ag_out vdb a b i
      have nxO : ∀ p q, p = cS (agN (H 68) a b) i + agN (H 68) a b i → q = cS (agS (H 68) a b) i + agS (H 68) a b i → xq X d 250 Q 8 [(0, (2, 15)), (1, (0, a)), (2, (0, b)), (3, (0, p)), (4, (0, q)), (5, (0, (i : Int) + 1))] [] H := fun p q hp hq => by
        rw [hp, hq]
        exact ih (i + 1) (by omega)
      have keyI : H 68 (870 + 5 * (i : Int)) = a → ∀ (m' j : Nat), j + m' = (H 68 4).toNat → xq X d 250 Q 34 [(0, (2, 15)), (1, (0, a)), (2, (0, b)), (3, (0, cS (agN (H 68) a b) i + cS (agP (H 68) a b i) j)), (4, (0, cS (agS (H 68) a b) i + cS (agY (H 68) a b i) j)), (5, (0, (i : Int))), (6, (0, (j : Int)))] [] H := by
        intro hA
        intro m'
        induction m' with
        | zero =>
          intro j hj
          have r2 := ag_in (H 68) a b i j
          have hj' : j = (H 68 4).toNat := by omega
          have eN : agN (H 68) a b i = cS (agP (H 68) a b i) j := by
            unfold agN
            rw [hj']
          have eS : agS (H 68) a b i = cS (agY (H 68) a b i) j := by
            unfold agS
            rw [hj']
          refine U_250_34 (by omega) a b _ _ (i : Int) (j : Int) H ?_
          refine ⟨fun c1 => ?_, fun c1 => ?_⟩
          · skip
            refine ⟨?_, ?_⟩
            · first | omega | (unfold xI; omega) | (exfalso; omega)
            exact nxO _ _ (by omega) (by omega)
          · skip
            refine ⟨?_, ?_⟩
            · first | omega | (unfold xI; omega) | (exfalso; omega)
            refine ⟨fun c2 => ?_, fun c2 => ?_⟩
            · skip
              refine ⟨?_, ?_⟩
              · first | omega | (unfold xI; omega) | (exfalso; omega)
              exfalso
              omega
            · skip
              refine ⟨?_, ?_⟩
              · first | omega | (unfold xI; omega) | (exfalso; omega)
              refine ⟨?_, ?_⟩
              · first | omega | (unfold xI; omega) | (exfalso; omega)
              refine ⟨fun c3 => ?_, fun c3 => ?_⟩
              · skip
                refine ⟨?_, ?_⟩
                · first | omega | (unfold xI; omega) | (exfalso; omega)
                refine ⟨?_, ?_⟩
                · first | omega | (unfold xI; omega) | (exfalso; omega)
                refine ⟨?_, ?_⟩
                · first | omega | (unfold xI; omega) | (exfalso; omega)
                refine ⟨fun c4 => ?_, fun c4 => ?_⟩
                · skip
                  refine ⟨?_, ?_⟩
                  · first | omega | (unfold xI; omega) | (exfalso; omega)
                  exfalso
                  omega
                · skip
                  refine ⟨?_, ?_⟩
                  · first | omega | (unfold xI; omega) | (exfalso; omega)
                  refine ⟨?_, ?_⟩
                  · first | omega | (unfold xI; omega) | (exfalso; omega)
                  exfalso
                  omega
              · skip
                refine ⟨?_, ?_⟩
                · first | omega | (unfold xI; omega) | (exfalso; omega)
                exfalso
                omega
        | succ m' ihj =>
          intro j hj
          have r2 := ag_in (H 68) a b i j
          have nx : ∀ p q, p = cS (agN (H 68) a b) i + (cS (agP (H 68) a b i) j + agP (H 68) a b i j) → q = cS (agS (H 68) a b) i + (cS (agY (H 68) a b i) j + agY (H 68) a b i j) → xq X d 250 Q 34 [(0, (2, 15)), (1, (0, a)), (2, (0, b)), (3, (0, p)), (4, (0, q)), (5, (0, (i : Int))), (6, (0, (j : Int) + 1))] [] H := fun p q hp hq => by
            rw [hp, hq]
            exact ihj (j + 1) (by omega)
          have lk := hs.lk (j : Int) (by omega) (by omega)
          have pl := hs.pl (j : Int) (by omega) (by omega)
          have sa := hs.sa (j : Int) (by omega) (by omega)
          have pli := hs.pl (i : Int) (by omega) (by omega)
          have sai := hs.sa (i : Int) (by omega) (by omega)
          have vj1 := (hg.vdi (j : Int) (by omega) (by omega)).2.1
          have vj2 := (hg.vdi (j : Int) (by omega) (by omega)).2.2.1
          have vi1 := (hg.vdi (i : Int) (by omega) (by omega)).2.1
          have vi2 := (hg.vdi (i : Int) (by omega) (by omega)).2.2.1
          refine U_250_34 (by omega) a b _ _ (i : Int) (j : Int) H ?_
          refine ⟨fun c1 => ?_, fun c1 => ?_⟩
          · skip
            refine ⟨?_, ?_⟩
            · first | omega | (unfold xI; omega) | (exfalso; omega)
            exfalso
            omega
          · skip
            refine ⟨?_, ?_⟩
            · first | omega | (unfold xI; omega) | (exfalso; omega)
            refine ⟨fun c2 => ?_, fun c2 => ?_⟩
            · skip
              refine ⟨?_, ?_⟩
              · first | omega | (unfold xI; omega) | (exfalso; omega)
              first | exact nx _ _ (by rw [show agP (H 68) a b i j = 0 from if_neg (by omega)]; omega) (by rw [show agY (H 68) a b i j = 0 from if_neg (by omega)]; omega) | exact nx _ _ (by rw [show agP (H 68) a b i j = 1 from if_pos ⟨by omega, by omega, by omega, by omega⟩]; omega) (by rw [show agY (H 68) a b i j = 0 from if_neg (by omega)]; omega) | exact nx _ _ (by rw [show agP (H 68) a b i j = 1 from if_pos ⟨by omega, by omega, by omega, by omega⟩]; omega) (by rw [show agY (H 68) a b i j = 1 from if_pos ⟨by omega, by omega, by omega, by omega, by omega⟩]; omega)
            · skip
              refine ⟨?_, ?_⟩
              · first | omega | (unfold xI; omega) | (exfalso; omega)
              refine ⟨?_, ?_⟩
              · first | omega | (unfold xI; omega) | (exfalso; omega)
              refine ⟨fun c3 => ?_, fun c3 => ?_⟩
              · skip
                refine ⟨?_, ?_⟩
                · first | omega | (unfold xI; omega) | (exfalso; omega)
                refine ⟨?_, ?_⟩
                · first | omega | (unfold xI; omega) | (exfalso; omega)
                refine ⟨?_, ?_⟩
                · first | omega | (unfold xI; omega) | (exfalso; omega)
                refine ⟨fun c4 => ?_, fun c4 => ?_⟩
                · skip
                  refine ⟨?_, ?_⟩
                  · first | omega | (unfold xI; omega) | (exfalso; omega)
                  first | exact nx _ _ (by rw [show agP (H 68) a b i j = 0 from if_neg (by omega)]; omega) (by rw [show agY (H 68) a b i j = 0 from if_neg (by omega)]; omega) | exact nx _ _ (by rw [show agP (H 68) a b i j = 1 from if_pos ⟨by omega, by omega, by omega, by omega⟩]; omega) (by rw [show agY (H 68) a b i j = 0 from if_neg (by omega)]; omega) | exact nx _ _ (by rw [show agP (H 68) a b i j = 1 from if_pos ⟨by omega, by omega, by omega, by omega⟩]; omega) (by rw [show agY (H 68) a b i j = 1 from if_pos ⟨by omega, by omega, by omega, by omega, by omega⟩]; omega)
                · skip
                  refine ⟨?_, ?_⟩
                  · first | omega | (unfold xI; omega) | (exfalso; omega)
                  refine ⟨?_, ?_⟩
                  · first | omega | (unfold xI; omega) | (exfalso; omega)
                  first | exact nx _ _ (by rw [show agP (H 68) a b i j = 0 from if_neg (by omega)]; omega) (by rw [show agY (H 68) a b i j = 0 from if_neg (by omega)]; omega) | exact nx _ _ (by rw [show agP (H 68) a b i j = 1 from if_pos ⟨by omega, by omega, by omega, by omega⟩]; omega) (by rw [show agY (H 68) a b i j = 0 from if_neg (by omega)]; omega) | exact nx _ _ (by rw [show agP (H 68) a b i j = 1 from if_pos ⟨by omega, by omega, by omega, by omega⟩]; omega) (by rw [show agY (H 68) a b i j = 1 from if_pos ⟨by omega, by omega, by omega, by omega, by omega⟩]; omega)
              · skip
                refine ⟨?_, ?_⟩
                · first | omega | (unfold xI; omega) | (exfalso; omega)
                first | exact nx _ _ (by rw [show agP (H 68) a b i j = 0 from if_neg (by omega)]; omega) (by rw [show agY (H 68) a b i j = 0 from if_neg (by omega)]; omega) | exact nx _ _ (by rw [show agP (H 68) a b i j = 1 from if_pos ⟨by omega, by omega, by omega, by omega⟩]; omega) (by rw [show agY (H 68) a b i j = 0 from if_neg (by omega)]; omega) | exact nx _ _ (by rw [show agP (H 68) a b i j = 1 from if_pos ⟨by omega, by omega, by omega, by omega⟩]; omega) (by rw [show agY (H 68) a b i j = 1 from if_pos ⟨by omega, by omega, by omega, by omega, by omega⟩]; omega)
      have lki := hs.lk (i : Int) (by omega) (by omega)
      have zo := ag_no (g := H 68) (a := a) (b := b) (i := i)
      refine U_250_8 (by omega) a b _ _ (i : Int) H ?_
      refine ⟨fun c1 => ?_, fun c1 => ?_⟩
      · skip
        refine ⟨fun c2 => ?_, fun c2 => ?_⟩
        · skip
          refine ⟨?_, ?_⟩
          · first | omega | (unfold xI; omega) | (exfalso; omega)
          refine ⟨?_, ?_⟩
          · first | omega | (unfold xI; omega) | (exfalso; omega)
          first | (exfalso; omega) | (have k := keyI (by omega) (H 68 4).toNat 0 (by omega); rw [show cS (agP (H 68) a b i) 0 = 0 from rfl, show cS (agY (H 68) a b i) 0 = 0 from rfl, Int.add_zero, Int.add_zero] at k; exact k) | (have zo := zo (by omega); exact nxO _ _ (by omega) (by omega))
        · skip
          first | (exfalso; omega) | (have k := keyI (by omega) (H 68 4).toNat 0 (by omega); rw [show cS (agP (H 68) a b i) 0 = 0 from rfl, show cS (agY (H 68) a b i) 0 = 0 from rfl, Int.add_zero, Int.add_zero] at k; exact k) | (have zo := zo (by omega); exact nxO _ _ (by omega) (by omega))
      · skip
        refine ⟨?_, ?_⟩
        · first | omega | (unfold xI; omega) | (exfalso; omega)
        refine ⟨fun c3 => ?_, fun c3 => ?_⟩
        · skip
          first | (exfalso; omega) | (have k := keyI (by omega) (H 68 4).toNat 0 (by omega); rw [show cS (agP (H 68) a b i) 0 = 0 from rfl, show cS (agY (H 68) a b i) 0 = 0 from rfl, Int.add_zero, Int.add_zero] at k; exact k) | (have zo := zo (by omega); exact nxO _ _ (by omega) (by omega))
        · skip
          refine ⟨?_, ?_⟩
          · first | omega | (unfold xI; omega) | (exfalso; omega)
          first | (exfalso; omega) | (have k := keyI (by omega) (H 68 4).toNat 0 (by omega); rw [show cS (agP (H 68) a b i) 0 = 0 from rfl, show cS (agY (H 68) a b i) 0 = 0 from rfl, Int.add_zero, Int.add_zero] at k; exact k) | (have zo := zo (by omega); exact nxO _ _ (by omega) (by omega))
  refine U_250 (by omega) a b H ?_
  exact keyO (H 68 4).toNat 0 (by omega)

theorem s_252 {X : Int × (Int → Int)} {d : Nat} {Q : Int → XH → Prop} (hd : 8 ≤ d) (a b : Int) (H : XH) (hg : GOk (H 67 0) (H 67 1) (H 68)) (hQ : ∀ h1 : XH, frM H h1 → Q (vAgr (H 67 0) (H 67 1) (H 68) a b) h1) : xc X d 252 [(2, 67), (0, a), (0, b)] H Q := by
  cases d with
  | zero => omega
  | succ d =>
  have hQ := hQ _ (frM_refl H)
  have no : ¬ ((0 ≤ a ∧ a ≤ 3) ∧ (0 ≤ b ∧ b ≤ 3)) → cS (agN (H 68) a b) (H 68 4).toNat = 0 := fun q => ag_01 hg q
  unfold vAgr at hQ
  by_cases ab : a = b ∨ cS (agN (H 68) a b) (H 68 4).toNat = 0 ∧ ¬ ((0 ≤ a ∧ a ≤ 3) ∧ (0 ≤ b ∧ b ≤ 3))
  · rw [if_pos (by omega)] at hQ
    refine U_252 (by omega) a b H ?_
    refine ⟨fun c1 => ?_, fun c1 => ?_⟩
    · skip
      refine ⟨fun c2 => ?_, fun c2 => ?_⟩
      · skip
        refine ⟨fun c3 => ?_, fun c3 => ?_⟩
        · skip
          first | exact hQ | (exfalso; omega)
        · skip
          first | exact hQ | (exfalso; omega)
      · skip
        first | exact hQ | (exfalso; omega)
    · skip
      first | exact hQ | (exfalso; omega)
  have ab2 : ¬ a = b := fun q => ab (Or.inl q)
  have vdb := hg.vdb
  have nn := hg.nn
  have keyO : ∀ (m i : Nat), i + m = (H 68 4).toNat → xq X d 252 Q 33 [(0, (2, 67)), (1, (0, a)), (2, (0, b)), (3, (0, cS (agN (H 68) a b) i)), (4, (0, cS (agS (H 68) a b) i)), (5, (0, (i : Int)))] [] H := by
    intro m
    induction m with
    | zero =>
      intro i hi2
      have r := ag_out vdb a b i
      have hi' : i = (H 68 4).toNat := by omega
      rw [← hi'] at hQ
      have hdv : ¬ cS (agN (H 68) a b) i = 0 → xI (Int.tdiv (1000 * cS (agS (H 68) a b) i) (cS (agN (H 68) a b) i)) := fun q => by
        have := tdivB (x := 1000 * cS (agS (H 68) a b) i) (y := cS (agN (H 68) a b) i) (A := 1000) (by omega) (by omega) (by omega)
        unfold xI
        omega
      refine U_252_33 (by omega) a b _ _ (i : Int) H ?_
      refine ⟨fun c1 => ?_, fun c1 => ?_⟩
      · skip
        refine ⟨fun c2 => ?_, fun c2 => ?_⟩
        · skip
          refine ⟨?_, ?_⟩
          · first | omega | exact ⟨by omega, hdv (by omega)⟩ | (unfold xI; omega) | (exfalso; omega)
          refine ⟨?_, ?_⟩
          · first | omega | exact ⟨by omega, hdv (by omega)⟩ | (unfold xI; omega) | (exfalso; omega)
          first | (rw [if_neg (by omega)] at hQ; exact hQ) | (rw [if_pos (by omega)] at hQ; exact hQ) | (exfalso; omega)
        · skip
          first | (rw [if_neg (by omega)] at hQ; exact hQ) | (rw [if_pos (by omega)] at hQ; exact hQ) | (exfalso; omega)
      · skip
        first | (rw [if_neg (by omega)] at hQ; exact hQ) | (rw [if_pos (by omega)] at hQ; exact hQ) | (exfalso; omega)
    | succ m ih =>
      intro i hi2
      have r := ag_out vdb a b i
      have nxO : ∀ p q, p = cS (agN (H 68) a b) i + agN (H 68) a b i → q = cS (agS (H 68) a b) i + agS (H 68) a b i → xq X d 252 Q 33 [(0, (2, 67)), (1, (0, a)), (2, (0, b)), (3, (0, p)), (4, (0, q)), (5, (0, (i : Int) + 1))] [] H := fun p q hp hq => by
        rw [hp, hq]
        exact ih (i + 1) (by omega)
      have keyI : ∀ (m' j : Nat), j + m' = (H 68 4).toNat → xq X d 252 Q 47 [(0, (2, 67)), (1, (0, a)), (2, (0, b)), (3, (0, cS (agN (H 68) a b) i + cS (agP (H 68) a b i) j)), (4, (0, cS (agS (H 68) a b) i + cS (agY (H 68) a b i) j)), (5, (0, (i : Int))), (6, (0, (j : Int)))] [] H := by
        intro m'
        induction m' with
        | zero =>
          intro j hj
          have r2 := ag_in (H 68) a b i j
          have hj' : j = (H 68 4).toNat := by omega
          have eN : agN (H 68) a b i = cS (agP (H 68) a b i) j := by
            unfold agN
            rw [hj']
          have eS : agS (H 68) a b i = cS (agY (H 68) a b i) j := by
            unfold agS
            rw [hj']
          refine U_252_47 (by omega) a b _ _ (i : Int) (j : Int) H ?_
          refine ⟨fun c1 => ?_, fun c1 => ?_⟩
          · skip
            refine ⟨?_, ?_⟩
            · first | omega | (unfold xI; omega) | (exfalso; omega)
            exact nxO _ _ (by omega) (by omega)
          · skip
            refine ⟨?_, ?_⟩
            · first | omega | (unfold xI; omega) | (exfalso; omega)
            refine ⟨?_, ?_⟩
            · first | omega | (unfold xI; omega) | (exfalso; omega)
            refine ⟨?_, ?_⟩
            · first | omega | (unfold xI; omega) | (exfalso; omega)
            refine ⟨?_, ?_⟩
            · first | omega | (unfold xI; omega) | (exfalso; omega)
            refine ⟨?_, ?_⟩
            · first | omega | (unfold xI; omega) | (exfalso; omega)
            refine ⟨fun c2 => ?_, fun c2 => ?_⟩
            · skip
              refine ⟨?_, ?_⟩
              · first | omega | (unfold xI; omega) | (exfalso; omega)
              refine ⟨?_, ?_⟩
              · first | omega | (unfold xI; omega) | (exfalso; omega)
              refine ⟨?_, ?_⟩
              · first | omega | (unfold xI; omega) | (exfalso; omega)
              exfalso
              omega
            · skip
              refine ⟨?_, ?_⟩
              · first | omega | (unfold xI; omega) | (exfalso; omega)
              refine ⟨fun c3 => ?_, fun c3 => ?_⟩
              · skip
                refine ⟨?_, ?_⟩
                · first | omega | (unfold xI; omega) | (exfalso; omega)
                refine ⟨?_, ?_⟩
                · first | omega | (unfold xI; omega) | (exfalso; omega)
                refine ⟨?_, ?_⟩
                · first | omega | (unfold xI; omega) | (exfalso; omega)
                exfalso
                omega
              · skip
                refine ⟨?_, ?_⟩
                · first | omega | (unfold xI; omega) | (exfalso; omega)
                refine ⟨?_, ?_⟩
                · first | omega | (unfold xI; omega) | (exfalso; omega)
                refine ⟨?_, ?_⟩
                · first | omega | (unfold xI; omega) | (exfalso; omega)
                refine ⟨?_, ?_⟩
                · first | omega | (unfold xI; omega) | (exfalso; omega)
                refine ⟨fun c4 => ?_, fun c4 => ?_⟩
                · skip
                  refine ⟨?_, ?_⟩
                  · first | omega | (unfold xI; omega) | (exfalso; omega)
                  refine ⟨?_, ?_⟩
                  · first | omega | (unfold xI; omega) | (exfalso; omega)
                  refine ⟨?_, ?_⟩
                  · first | omega | (unfold xI; omega) | (exfalso; omega)
                  exfalso
                  omega
                · skip
                  refine ⟨?_, ?_⟩
                  · first | omega | (unfold xI; omega) | (exfalso; omega)
                  refine ⟨?_, ?_⟩
                  · first | omega | (unfold xI; omega) | (exfalso; omega)
                  refine ⟨?_, ?_⟩
                  · first | omega | (unfold xI; omega) | (exfalso; omega)
                  refine ⟨?_, ?_⟩
                  · first | omega | (unfold xI; omega) | (exfalso; omega)
                  refine ⟨fun c5 => ?_, fun c5 => ?_⟩
                  · skip
                    refine ⟨?_, ?_⟩
                    · first | omega | (unfold xI; omega) | (exfalso; omega)
                    refine ⟨?_, ?_⟩
                    · first | omega | (unfold xI; omega) | (exfalso; omega)
                    refine ⟨?_, ?_⟩
                    · first | omega | (unfold xI; omega) | (exfalso; omega)
                    exfalso
                    omega
                  · skip
                    refine ⟨?_, ?_⟩
                    · first | omega | (unfold xI; omega) | (exfalso; omega)
                    refine ⟨?_, ?_⟩
                    · first | omega | (unfold xI; omega) | (exfalso; omega)
                    refine ⟨?_, ?_⟩
                    · first | omega | (unfold xI; omega) | (exfalso; omega)
                    refine ⟨?_, ?_⟩
                    · first | omega | (unfold xI; omega) | (exfalso; omega)
                    refine ⟨?_, ?_⟩
                    · first | omega | (unfold xI; omega) | (exfalso; omega)
                    refine ⟨fun c6 => ?_, fun c6 => ?_⟩
                    · skip
                      refine ⟨?_, ?_⟩
                      · first | omega | (unfold xI; omega) | (exfalso; omega)
                      refine ⟨?_, ?_⟩
                      · first | omega | (unfold xI; omega) | (exfalso; omega)
                      exfalso
                      omega
                    · skip
                      refine ⟨?_, ?_⟩
                      · first | omega | (unfold xI; omega) | (exfalso; omega)
                      refine ⟨?_, ?_⟩
                      · first | omega | (unfold xI; omega) | (exfalso; omega)
                      exfalso
                      omega
        | succ m' ihj =>
          intro j hj
          have r2 := ag_in (H 68) a b i j
          have nx : ∀ p q, p = cS (agN (H 68) a b) i + (cS (agP (H 68) a b i) j + agP (H 68) a b i j) → q = cS (agS (H 68) a b) i + (cS (agY (H 68) a b i) j + agY (H 68) a b i j) → xq X d 252 Q 47 [(0, (2, 67)), (1, (0, a)), (2, (0, b)), (3, (0, p)), (4, (0, q)), (5, (0, (i : Int))), (6, (0, (j : Int) + 1))] [] H := fun p q hp hq => by
            rw [hp, hq]
            exact ihj (j + 1) (by omega)
          have y1i : H 68 (871 + 5 * (i : Int)) = H 68 (870 + 5 * (i : Int) + 1) := congrArg (H 68) (by omega)
          have y1j : H 68 (871 + 5 * (j : Int)) = H 68 (870 + 5 * (j : Int) + 1) := congrArg (H 68) (by omega)
          have y2i : H 68 (872 + 5 * (i : Int)) = H 68 (870 + 5 * (i : Int) + 2) := congrArg (H 68) (by omega)
          have y2j : H 68 (872 + 5 * (j : Int)) = H 68 (870 + 5 * (j : Int) + 2) := congrArg (H 68) (by omega)
          have y3i : H 68 (873 + 5 * (i : Int)) = H 68 (870 + 5 * (i : Int) + 3) := congrArg (H 68) (by omega)
          have y3j : H 68 (873 + 5 * (j : Int)) = H 68 (870 + 5 * (j : Int) + 3) := congrArg (H 68) (by omega)
          refine U_252_47 (by omega) a b _ _ (i : Int) (j : Int) H ?_
          refine ⟨fun c1 => ?_, fun c1 => ?_⟩
          · skip
            refine ⟨?_, ?_⟩
            · first | omega | (unfold xI; omega) | (exfalso; omega)
            exfalso
            omega
          · skip
            refine ⟨?_, ?_⟩
            · first | omega | (unfold xI; omega) | (exfalso; omega)
            refine ⟨?_, ?_⟩
            · first | omega | (unfold xI; omega) | (exfalso; omega)
            refine ⟨?_, ?_⟩
            · first | omega | (unfold xI; omega) | (exfalso; omega)
            refine ⟨?_, ?_⟩
            · first | omega | (unfold xI; omega) | (exfalso; omega)
            refine ⟨?_, ?_⟩
            · first | omega | (unfold xI; omega) | (exfalso; omega)
            refine ⟨fun c2 => ?_, fun c2 => ?_⟩
            · skip
              refine ⟨?_, ?_⟩
              · first | omega | (unfold xI; omega) | (exfalso; omega)
              refine ⟨?_, ?_⟩
              · first | omega | (unfold xI; omega) | (exfalso; omega)
              refine ⟨?_, ?_⟩
              · first | omega | (unfold xI; omega) | (exfalso; omega)
              first | exact nx _ _ (by rw [show agP (H 68) a b i j = 0 from if_neg (by omega)]; omega) (by rw [show agY (H 68) a b i j = 0 from if_neg (by omega)]; omega) | exact nx _ _ (by rw [show agP (H 68) a b i j = 1 from if_pos ⟨by omega, by omega, by omega, by omega⟩]; omega) (by rw [show agY (H 68) a b i j = 0 from if_neg (by omega)]; omega) | exact nx _ _ (by rw [show agP (H 68) a b i j = 1 from if_pos ⟨by omega, by omega, by omega, by omega⟩]; omega) (by rw [show agY (H 68) a b i j = 1 from if_pos ⟨by omega, by omega, by omega, by omega, by omega⟩]; omega)
            · skip
              refine ⟨?_, ?_⟩
              · first | omega | (unfold xI; omega) | (exfalso; omega)
              refine ⟨fun c3 => ?_, fun c3 => ?_⟩
              · skip
                refine ⟨?_, ?_⟩
                · first | omega | (unfold xI; omega) | (exfalso; omega)
                refine ⟨?_, ?_⟩
                · first | omega | (unfold xI; omega) | (exfalso; omega)
                refine ⟨?_, ?_⟩
                · first | omega | (unfold xI; omega) | (exfalso; omega)
                first | exact nx _ _ (by rw [show agP (H 68) a b i j = 0 from if_neg (by omega)]; omega) (by rw [show agY (H 68) a b i j = 0 from if_neg (by omega)]; omega) | exact nx _ _ (by rw [show agP (H 68) a b i j = 1 from if_pos ⟨by omega, by omega, by omega, by omega⟩]; omega) (by rw [show agY (H 68) a b i j = 0 from if_neg (by omega)]; omega) | exact nx _ _ (by rw [show agP (H 68) a b i j = 1 from if_pos ⟨by omega, by omega, by omega, by omega⟩]; omega) (by rw [show agY (H 68) a b i j = 1 from if_pos ⟨by omega, by omega, by omega, by omega, by omega⟩]; omega)
              · skip
                refine ⟨?_, ?_⟩
                · first | omega | (unfold xI; omega) | (exfalso; omega)
                refine ⟨?_, ?_⟩
                · first | omega | (unfold xI; omega) | (exfalso; omega)
                refine ⟨?_, ?_⟩
                · first | omega | (unfold xI; omega) | (exfalso; omega)
                refine ⟨?_, ?_⟩
                · first | omega | (unfold xI; omega) | (exfalso; omega)
                refine ⟨fun c4 => ?_, fun c4 => ?_⟩
                · skip
                  refine ⟨?_, ?_⟩
                  · first | omega | (unfold xI; omega) | (exfalso; omega)
                  refine ⟨?_, ?_⟩
                  · first | omega | (unfold xI; omega) | (exfalso; omega)
                  refine ⟨?_, ?_⟩
                  · first | omega | (unfold xI; omega) | (exfalso; omega)
                  first | exact nx _ _ (by rw [show agP (H 68) a b i j = 0 from if_neg (by omega)]; omega) (by rw [show agY (H 68) a b i j = 0 from if_neg (by omega)]; omega) | exact nx _ _ (by rw [show agP (H 68) a b i j = 1 from if_pos ⟨by omega, by omega, by omega, by omega⟩]; omega) (by rw [show agY (H 68) a b i j = 0 from if_neg (by omega)]; omega) | exact nx _ _ (by rw [show agP (H 68) a b i j = 1 from if_pos ⟨by omega, by omega, by omega, by omega⟩]; omega) (by rw [show agY (H 68) a b i j = 1 from if_pos ⟨by omega, by omega, by omega, by omega, by omega⟩]; omega)
                · skip
                  refine ⟨?_, ?_⟩
                  · first | omega | (unfold xI; omega) | (exfalso; omega)
                  refine ⟨?_, ?_⟩
                  · first | omega | (unfold xI; omega) | (exfalso; omega)
                  refine ⟨?_, ?_⟩
                  · first | omega | (unfold xI; omega) | (exfalso; omega)
                  refine ⟨?_, ?_⟩
                  · first | omega | (unfold xI; omega) | (exfalso; omega)
                  refine ⟨fun c5 => ?_, fun c5 => ?_⟩
                  · skip
                    refine ⟨?_, ?_⟩
                    · first | omega | (unfold xI; omega) | (exfalso; omega)
                    refine ⟨?_, ?_⟩
                    · first | omega | (unfold xI; omega) | (exfalso; omega)
                    refine ⟨?_, ?_⟩
                    · first | omega | (unfold xI; omega) | (exfalso; omega)
                    first | exact nx _ _ (by rw [show agP (H 68) a b i j = 0 from if_neg (by omega)]; omega) (by rw [show agY (H 68) a b i j = 0 from if_neg (by omega)]; omega) | exact nx _ _ (by rw [show agP (H 68) a b i j = 1 from if_pos ⟨by omega, by omega, by omega, by omega⟩]; omega) (by rw [show agY (H 68) a b i j = 0 from if_neg (by omega)]; omega) | exact nx _ _ (by rw [show agP (H 68) a b i j = 1 from if_pos ⟨by omega, by omega, by omega, by omega⟩]; omega) (by rw [show agY (H 68) a b i j = 1 from if_pos ⟨by omega, by omega, by omega, by omega, by omega⟩]; omega)
                  · skip
                    refine ⟨?_, ?_⟩
                    · first | omega | (unfold xI; omega) | (exfalso; omega)
                    refine ⟨?_, ?_⟩
                    · first | omega | (unfold xI; omega) | (exfalso; omega)
                    refine ⟨?_, ?_⟩
                    · first | omega | (unfold xI; omega) | (exfalso; omega)
                    refine ⟨?_, ?_⟩
                    · first | omega | (unfold xI; omega) | (exfalso; omega)
                    refine ⟨?_, ?_⟩
                    · first | omega | (unfold xI; omega) | (exfalso; omega)
                    refine ⟨fun c6 => ?_, fun c6 => ?_⟩
                    · skip
                      refine ⟨?_, ?_⟩
                      · first | omega | (unfold xI; omega) | (exfalso; omega)
                      refine ⟨?_, ?_⟩
                      · first | omega | (unfold xI; omega) | (exfalso; omega)
                      first | exact nx _ _ (by rw [show agP (H 68) a b i j = 0 from if_neg (by omega)]; omega) (by rw [show agY (H 68) a b i j = 0 from if_neg (by omega)]; omega) | exact nx _ _ (by rw [show agP (H 68) a b i j = 1 from if_pos ⟨by omega, by omega, by omega, by omega⟩]; omega) (by rw [show agY (H 68) a b i j = 0 from if_neg (by omega)]; omega) | exact nx _ _ (by rw [show agP (H 68) a b i j = 1 from if_pos ⟨by omega, by omega, by omega, by omega⟩]; omega) (by rw [show agY (H 68) a b i j = 1 from if_pos ⟨by omega, by omega, by omega, by omega, by omega⟩]; omega)
                    · skip
                      refine ⟨?_, ?_⟩
                      · first | omega | (unfold xI; omega) | (exfalso; omega)
                      refine ⟨?_, ?_⟩
                      · first | omega | (unfold xI; omega) | (exfalso; omega)
                      first | exact nx _ _ (by rw [show agP (H 68) a b i j = 0 from if_neg (by omega)]; omega) (by rw [show agY (H 68) a b i j = 0 from if_neg (by omega)]; omega) | exact nx _ _ (by rw [show agP (H 68) a b i j = 1 from if_pos ⟨by omega, by omega, by omega, by omega⟩]; omega) (by rw [show agY (H 68) a b i j = 0 from if_neg (by omega)]; omega) | exact nx _ _ (by rw [show agP (H 68) a b i j = 1 from if_pos ⟨by omega, by omega, by omega, by omega⟩]; omega) (by rw [show agY (H 68) a b i j = 1 from if_pos ⟨by omega, by omega, by omega, by omega, by omega⟩]; omega)
      refine U_252_33 (by omega) a b _ _ (i : Int) H ?_
      refine ⟨fun c1 => ?_, fun c1 => ?_⟩
      · skip
        refine ⟨fun c2 => ?_, fun c2 => ?_⟩
        · skip
          refine ⟨?_, ?_⟩
          · first | omega | (unfold xI; omega) | (exfalso; omega)
          refine ⟨?_, ?_⟩
          · first | omega | (unfold xI; omega) | (exfalso; omega)
          first | (exfalso; omega) | (have k := keyI (H 68 4).toNat 0 (by omega); rw [show cS (agP (H 68) a b i) 0 = 0 from rfl, show cS (agY (H 68) a b i) 0 = 0 from rfl, Int.add_zero, Int.add_zero] at k; exact k)
        · skip
          first | (exfalso; omega) | (have k := keyI (H 68 4).toNat 0 (by omega); rw [show cS (agP (H 68) a b i) 0 = 0 from rfl, show cS (agY (H 68) a b i) 0 = 0 from rfl, Int.add_zero, Int.add_zero] at k; exact k)
      · skip
        first | (exfalso; omega) | (have k := keyI (H 68 4).toNat 0 (by omega); rw [show cS (agP (H 68) a b i) 0 = 0 from rfl, show cS (agY (H 68) a b i) 0 = 0 from rfl, Int.add_zero, Int.add_zero] at k; exact k)
  refine U_252 (by omega) a b H ?_
  refine ⟨fun c1 => ?_, fun c1 => ?_⟩
  · skip
    refine ⟨fun c2 => ?_, fun c2 => ?_⟩
    · skip
      refine ⟨fun c3 => ?_, fun c3 => ?_⟩
      · skip
        first | exact keyO (H 68 4).toNat 0 (by omega) | (exfalso; omega)
      · skip
        first | exact keyO (H 68 4).toNat 0 (by omega) | (exfalso; omega)
    · skip
      first | exact keyO (H 68 4).toNat 0 (by omega) | (exfalso; omega)
  · skip
    first | exact keyO (H 68 4).toNat 0 (by omega) | (exfalso; omega)

theorem U_251 {X : Int × (Int → Int)} {d : Nat} {Q : Int → XH → Prop} (hd : 2 ≤ d) (a b : Int) (H : XH) (h : ((¬ a = b) → (InvS H) ∧ (¬ a = b) ∧ (Q (vAgr (H 67 0) (H 67 1) (H 68) a b) H)) ∧ (¬ (¬ a = b) → Q (-1) H)) : xc X (d + 1) 251 [(2, 0), (0, a), (0, b)] H Q := by
  refine ⟨rfl, ?_⟩
  show xq X d 251 Q 100000 [(0, (2, 0)), (1, (0, a)), (2, (0, b))] [] H
  refine xq_run [19] 300 ?_
  show ((¬ a = b) → xWM (xE X) xMC d 250 [(2, 15), (0, a), (0, b)] xKZ H _) ∧ (¬ (¬ a = b) → xfR 0 (-1) ∧ xKZ = xKZ ∧ Q (-1) H)
  refine ⟨fun k_ => ?_, fun k_ => ?_⟩
  · replace h := h.1 k_
    refine xc_in (s_250 (by omega) a b H (h.1) (h.2.1) ?_)
    replace h := h.2.2
    show xq X d 251 Q 19 [(0, (2, 0)), (1, (0, a)), (2, (0, b))] [(0, vAgr (H 67 0) (H 67 1) (H 68) a b)] H
    refine xq_run [19] 300 ?_
    show xfR 0 (vAgr (H 67 0) (H 67 1) (H 68) a b) ∧ xKZ = xKZ ∧ Q (vAgr (H 67 0) (H 67 1) (H 68) a b) H
    exact ⟨trivial, rfl, h⟩
  · replace h := h.2 k_
    exact ⟨trivial, rfl, h⟩

theorem s_251 {X : Int × (Int → Int)} {d : Nat} {Q : Int → XH → Prop} (hd : 8 ≤ d) (a b : Int) (H : XH) (hi : InvS H) (hQ : ∀ h1 : XH, frC H h1 → Q (vAgr (H 67 0) (H 67 1) (H 68) a b) h1) : xc X d 251 [(2, 0), (0, a), (0, b)] H Q := by
  cases d with
  | zero => omega
  | succ d =>
  have k := hQ _ (frC_refl H)
  refine U_251 (by omega) a b H ?_
  refine ⟨fun c1 => ?_, fun c1 => ?_⟩
  · skip
    refine ⟨?_, ?_⟩
    · first | omega | exact hi
    refine ⟨?_, ?_⟩
    · first | omega | exact hi
    first | exact k | (unfold vAgr at k; rw [if_pos (by omega)] at k; exact k)
  · skip
    first | exact k | (unfold vAgr at k; rw [if_pos (by omega)] at k; exact k)

theorem p_agree {X : Int × (Int → Int)} {d : Nat} (hd : 8 ≤ d) (a b : Int) (H : XH) (hi : InvS H) : xc X d 251 [(2, 0), (0, a), (0, b)] H (fun r H1 => xc X d 252 [(2, 67), (0, a), (0, b)] H1 (qOk H r)) :=
  s_251 (by omega) a b H hi (fun h1 f => s_252 (by omega) a b h1 (frC_S f hi).1 (fun h2 f' => ⟨by rw [f 67 (by decide) (by decide), f 68 (by decide) (by decide)], frQ_CM f f'⟩))
