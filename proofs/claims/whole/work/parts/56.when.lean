/-! THE PURE LAYER 26: when -/
def mUp (p : Int → Int) : Nat → Int → Int
  | 0, m => m
  | k + 1, m => if ¬ p m = 0 then m else mUp p k (m + 1)
def mDn (p : Int → Int) : Nat → Int → Int
  | 0, m => m
  | k + 1, m => if ¬ p m = 0 then m else mDn p k (m - 1)
theorem mUp_rng (p : Int → Int) : ∀ (k : Nat) (m : Int), m ≤ mUp p k m ∧ mUp p k m ≤ m + k ∧ (mUp p k m < m + k → ¬ p (mUp p k m) = 0)
  | 0, m => by
    unfold mUp
    exact ⟨Int.le_refl _, by omega, fun h => absurd h (by omega)⟩
  | k + 1, m => by
    have ih := mUp_rng p k (m + 1)
    unfold mUp
    split
    · next h => exact ⟨Int.le_refl _, by omega, fun _ => h⟩
    · exact ⟨by omega, by omega, fun h => ih.2.2 (by omega)⟩
theorem mDn_rng (p : Int → Int) {e : Int} (he : ¬ p e = 0) : ∀ (k : Nat) (m : Int), e ≤ m → m - k < e → e ≤ mDn p k m ∧ mDn p k m ≤ m ∧ ¬ p (mDn p k m) = 0
  | 0, m, h1, h2 => by omega
  | k + 1, m, h1, h2 => by
    unfold mDn
    split
    · next h => exact ⟨h1, Int.le_refl _, h⟩
    · next h =>
      have hne : ¬ m = e := fun q => by
        rw [q] at h
        exact h he
      have ih := mDn_rng p he k (m - 1) (by omega) (by omega)
      exact ⟨ih.1, by omega, ih.2.2⟩
/-- the earliest month behind k layers from l on, from month m on -/
def eA (cb : Int → Int → Int) : Nat → Int → Int → Int
  | 0, _, m => m
  | k + 1, l, m => eA cb k (l + 1) (mUp (cb l) (12 - m).toNat m)
def lA (cb : Int → Int → Int) : Nat → Int → Int → Int
  | 0, _, m => m
  | k + 1, l, m => lA cb k (l - 1) (mDn (cb l) (m + 1).toNat m)
theorem eA_rng (cb : Int → Int → Int) : ∀ (k : Nat) (l m : Int), m ≤ 12 → m ≤ eA cb k l m ∧ eA cb k l m ≤ 12
  | 0, _, m, h => ⟨Int.le_refl _, h⟩
  | k + 1, l, m, h => by
    have h1 := mUp_rng (cb l) (12 - m).toNat m
    have ih := eA_rng cb k (l + 1) (mUp (cb l) (12 - m).toNat m) (by omega)
    unfold eA
    exact ⟨by omega, ih.2⟩
theorem eA_add (cb : Int → Int → Int) : ∀ (a b : Nat) (l m : Int), eA cb (a + b) l m = eA cb b (l + a) (eA cb a l m)
  | 0, b, l, m => by
    rw [Nat.zero_add, Int.natCast_zero, Int.add_zero]
    rfl
  | a + 1, b, l, m => by
    rw [show a + 1 + b = (a + b) + 1 by omega]
    show eA cb (a + b) (l + 1) (mUp (cb l) (12 - m).toNat m) = eA cb b (l + ((a + 1 : Nat) : Int)) (eA cb a (l + 1) (mUp (cb l) (12 - m).toNat m))
    rw [eA_add cb a b, show l + 1 + (a : Int) = l + ((a + 1 : Nat) : Int) by omega]
theorem eA_1 (cb : Int → Int → Int) (l m : Int) : eA cb 1 l m = mUp (cb l) (12 - m).toNat m := rfl
theorem eA_nx (cb : Int → Int → Int) (j : Nat) : eA cb (j + 1) 0 0 = mUp (cb j) (12 - eA cb j 0 0).toNat (eA cb j 0 0) := by
  rw [eA_add, eA_1, Int.zero_add]
/-- month e l of each layer is a row -/
theorem lA_ge (cb : Int → Int → Int) (E : Int → Int) (n : Int) (hE : ∀ i, 0 ≤ i → i < n → (0 ≤ E i ∧ E i < 12) ∧ ¬ cb i (E i) = 0) (hm : ∀ i, 0 ≤ i → i + 1 < n → E i ≤ E (i + 1)) : ∀ (k : Nat) (l m : Int), l < n → (k : Int) ≤ l + 1 → (0 ≤ l → E l ≤ m) → -1 ≤ m → m ≤ 11 → (1 ≤ k → E (l - k + 1) ≤ lA cb k l m) ∧ lA cb k l m ≤ 11 ∧ -1 ≤ lA cb k l m ∧ (0 ≤ l - k → E (l - k) ≤ lA cb k l m)
  | 0, l, m, h1, h2, h3, h4, h5 => by
    unfold lA
    refine ⟨fun q => absurd q (by omega), h5, h4, fun q => ?_⟩
    rw [show l - ((0 : Nat) : Int) = l by omega]
    exact h3 (by omega)
  | k + 1, l, m, h1, h2, h3, h4, h5 => by
    unfold lA
    have e0 := hE l (by omega) h1
    have d := mDn_rng (cb l) e0.2 (m + 1).toNat m (h3 (by omega)) (by omega)
    have ih := lA_ge cb E n hE hm k (l - 1) (mDn (cb l) (m + 1).toNat m) (by omega) (by omega) (fun q => by
      have := hm (l - 1) q (by omega)
      rw [show l - 1 + 1 = l by omega] at this
      omega) (by omega) (by omega)
    refine ⟨fun _ => ?_, ih.2.1, ih.2.2.1, fun q => ?_⟩
    · cases k with
      | zero =>
        unfold lA
        rw [show l - ((0 + 1 : Nat) : Int) + 1 = l by omega]
        exact d.1
      | succ k =>
        have := ih.1 (by omega)
        rw [show l - 1 - ((k + 1 : Nat) : Int) + 1 = l - ((k + 1 + 1 : Nat) : Int) + 1 by omega] at this
        exact this
    · have := ih.2.2.2 (by omega)
      rw [show l - 1 - (k : Int) = l - ((k + 1 : Nat) : Int) by omega] at this
      exact this
def vWhen (w n : Int) (g : Int → Int) (l b : Int) : Int := if (0 ≤ l ∧ l < g 1) ∧ eA (cbV g) (g 1).toNat 0 0 < 12 then (if b = 0 then eA (cbV g) (l + 1).toNat 0 0 else lA (cbV g) (g 1 - l).toNat (g 1 - 1) 11) else -1

theorem U_122 {X : Int × (Int → Int)} {d : Nat} {Q : Int → XH → Prop} (hd : 0 ≤ d) (l : Int) (H : XH) (h : xq X d 122 Q 5 [(0, (2, 9)), (1, (2, 7)), (2, (0, l)), (3, (0, 0)), (4, (0, 0))] [] H) : xc X (d + 1) 122 [(2, 9), (2, 7), (0, l)] H Q := by
  refine ⟨rfl, ?_⟩
  show xq X d 122 Q 100000 [(0, (2, 9)), (1, (2, 7)), (2, (0, l))] [] H
  refine xq_run [5, 27, 29] 300 ?_
  show xq X d 122 Q 5 [(0, (2, 9)), (1, (2, 7)), (2, (0, l)), (3, (0, 0)), (4, (0, 0))] [] H
  exact h
theorem U_122_5 {X : Int × (Int → Int)} {d : Nat} {Q : Int → XH → Prop} (hd : 6 ≤ d) (v2 v3 v4 : Int) (H : XH) (h : ((v2 < v4) → ((12 ≤ v3) → Q (-1) H) ∧ (¬ (12 ≤ v3) → Q v3 H)) ∧ (¬ (v2 < v4) → ((H 7 1 ≤ v4) → ((12 ≤ v3) → Q (-1) H) ∧ (¬ (12 ≤ v3) → Q v3 H)) ∧ (¬ (H 7 1 ≤ v4) → (InvS H) ∧ (0 ≤ v4 ∧ v4 < H 68 1) ∧ (xq X d 122 Q 29 [(0, (2, 9)), (1, (2, 7)), (2, (0, v2)), (3, (0, v3)), (4, (0, v4)), (5, (0, ((maskR (cbV (H 68) v4) 12 0 : Nat) : Int)))] [] H)))) : xq X d 122 Q 5 [(0, (2, 9)), (1, (2, 7)), (2, (0, v2)), (3, (0, v3)), (4, (0, v4))] [] H := by
  show xq X d 122 Q 5 [(0, (2, 9)), (1, (2, 7)), (2, (0, v2)), (3, (0, v3)), (4, (0, v4))] [] H
  refine xq_run [5, 27, 29] 300 ?_
  show ((v2 < v4) → ((12 ≤ v3) → xfR 0 (-1) ∧ xKZ = xKZ ∧ Q (-1) H) ∧ (¬ (12 ≤ v3) → xfR 0 v3 ∧ xKZ = xKZ ∧ Q v3 H)) ∧ (¬ (v2 < v4) → ((H 7 1 ≤ v4) → ((12 ≤ v3) → xfR 0 (-1) ∧ xKZ = xKZ ∧ Q (-1) H) ∧ (¬ (12 ≤ v3) → xfR 0 v3 ∧ xKZ = xKZ ∧ Q v3 H)) ∧ (¬ (H 7 1 ≤ v4) → xWM (xE X) xMC d 117 [(2, 9), (2, 7), (0, v4)] xKZ H _))
  refine ⟨fun k_ => ?_, fun k_ => ?_⟩
  · replace h := h.1 k_
    refine ⟨fun k_ => ?_, fun k_ => ?_⟩
    · replace h := h.1 k_
      exact ⟨trivial, rfl, h⟩
    · replace h := h.2 k_
      exact ⟨trivial, rfl, h⟩
  · replace h := h.2 k_
    refine ⟨fun k_ => ?_, fun k_ => ?_⟩
    · replace h := h.1 k_
      refine ⟨fun k_ => ?_, fun k_ => ?_⟩
      · replace h := h.1 k_
        exact ⟨trivial, rfl, h⟩
      · replace h := h.2 k_
        exact ⟨trivial, rfl, h⟩
    · replace h := h.2 k_
      refine xc_in (s_117 (by omega) v4 H (h.1) (h.2.1) ?_)
      replace h := h.2.2
      show xq X d 122 Q 27 [(0, (2, 9)), (1, (2, 7)), (2, (0, v2)), (3, (0, v3)), (4, (0, v4))] [(0, ((maskR (cbV (H 68) v4) 12 0 : Nat) : Int))] H
      refine xq_run [5, 27, 29] 300 ?_
      show xq X d 122 Q 29 [(0, (2, 9)), (1, (2, 7)), (2, (0, v2)), (3, (0, v3)), (4, (0, v4)), (5, (0, ((maskR (cbV (H 68) v4) 12 0 : Nat) : Int)))] [] H
      exact h
theorem U_122_29 {X : Int × (Int → Int)} {d : Nat} {Q : Int → XH → Prop} (hd : 0 ≤ d) (v2 v3 v4 v5 : Int) (H : XH) (h : ((12 ≤ v3) → (xI (v4 + 1)) ∧ xq X d 122 Q 5 [(0, (2, 9)), (1, (2, 7)), (2, (0, v2)), (3, (0, v3)), (4, (0, v4 + 1))] [] H) ∧ (¬ (12 ≤ v3) → ((¬ xand (xshr v5 v3) 1 = 0) → (xI (v4 + 1)) ∧ xq X d 122 Q 5 [(0, (2, 9)), (1, (2, 7)), (2, (0, v2)), (3, (0, v3)), (4, (0, v4 + 1))] [] H) ∧ (¬ (¬ xand (xshr v5 v3) 1 = 0) → (xI (v3 + 1)) ∧ xq X d 122 Q 29 [(0, (2, 9)), (1, (2, 7)), (2, (0, v2)), (3, (0, v3 + 1)), (4, (0, v4)), (5, (0, v5))] [] H))) : xq X d 122 Q 29 [(0, (2, 9)), (1, (2, 7)), (2, (0, v2)), (3, (0, v3)), (4, (0, v4)), (5, (0, v5))] [] H := by
  show xq X d 122 Q 29 [(0, (2, 9)), (1, (2, 7)), (2, (0, v2)), (3, (0, v3)), (4, (0, v4)), (5, (0, v5))] [] H
  refine xq_run [5, 27, 29] 300 ?_
  show ((12 ≤ v3) → (xI (v4 + 1)) ∧ xq X d 122 Q 5 [(0, (2, 9)), (1, (2, 7)), (2, (0, v2)), (3, (0, v3)), (4, (0, v4 + 1))] [] H) ∧ (¬ (12 ≤ v3) → ((¬ xand (xshr v5 v3) 1 = 0) → (xI (v4 + 1)) ∧ xq X d 122 Q 5 [(0, (2, 9)), (1, (2, 7)), (2, (0, v2)), (3, (0, v3)), (4, (0, v4 + 1))] [] H) ∧ (¬ (¬ xand (xshr v5 v3) 1 = 0) → (xI (v3 + 1)) ∧ xq X d 122 Q 29 [(0, (2, 9)), (1, (2, 7)), (2, (0, v2)), (3, (0, v3 + 1)), (4, (0, v4)), (5, (0, v5))] [] H))
  refine ⟨fun k_ => ?_, fun k_ => ?_⟩
  · replace h := h.1 k_
    refine ⟨h.1, ?_⟩
    replace h := h.2
    exact h
  · replace h := h.2 k_
    refine ⟨fun k_ => ?_, fun k_ => ?_⟩
    · replace h := h.1 k_
      refine ⟨h.1, ?_⟩
      replace h := h.2
      exact h
    · replace h := h.2 k_
      refine ⟨h.1, ?_⟩
      replace h := h.2
      exact h

theorem U_123 {X : Int × (Int → Int)} {d : Nat} {Q : Int → XH → Prop} (hd : 0 ≤ d) (l : Int) (H : XH) (h : (xI ((H 7 1) - 1)) ∧ xq X d 123 Q 11 [(0, (2, 9)), (1, (2, 7)), (2, (0, l)), (3, (0, 11)), (4, (0, (H 7 1) - 1))] [] H) : xc X (d + 1) 123 [(2, 9), (2, 7), (0, l)] H Q := by
  refine ⟨rfl, ?_⟩
  show xq X d 123 Q 100000 [(0, (2, 9)), (1, (2, 7)), (2, (0, l))] [] H
  refine xq_run [11, 29, 31] 300 ?_
  show (xI ((H 7 1) - 1)) ∧ xq X d 123 Q 11 [(0, (2, 9)), (1, (2, 7)), (2, (0, l)), (3, (0, 11)), (4, (0, (H 7 1) - 1))] [] H
  refine ⟨h.1, ?_⟩
  replace h := h.2
  exact h
theorem U_123_11 {X : Int × (Int → Int)} {d : Nat} {Q : Int → XH → Prop} (hd : 6 ≤ d) (v2 v3 v4 : Int) (H : XH) (h : ((v4 < v2) → Q v3 H) ∧ (¬ (v4 < v2) → ((v4 < 0) → Q v3 H) ∧ (¬ (v4 < 0) → (InvS H) ∧ (0 ≤ v4 ∧ v4 < H 68 1) ∧ (xq X d 123 Q 31 [(0, (2, 9)), (1, (2, 7)), (2, (0, v2)), (3, (0, v3)), (4, (0, v4)), (5, (0, ((maskR (cbV (H 68) v4) 12 0 : Nat) : Int)))] [] H)))) : xq X d 123 Q 11 [(0, (2, 9)), (1, (2, 7)), (2, (0, v2)), (3, (0, v3)), (4, (0, v4))] [] H := by
  show xq X d 123 Q 11 [(0, (2, 9)), (1, (2, 7)), (2, (0, v2)), (3, (0, v3)), (4, (0, v4))] [] H
  refine xq_run [11, 29, 31] 300 ?_
  show ((v4 < v2) → xfR 0 v3 ∧ xKZ = xKZ ∧ Q v3 H) ∧ (¬ (v4 < v2) → ((v4 < 0) → xfR 0 v3 ∧ xKZ = xKZ ∧ Q v3 H) ∧ (¬ (v4 < 0) → xWM (xE X) xMC d 117 [(2, 9), (2, 7), (0, v4)] xKZ H _))
  refine ⟨fun k_ => ?_, fun k_ => ?_⟩
  · replace h := h.1 k_
    exact ⟨trivial, rfl, h⟩
  · replace h := h.2 k_
    refine ⟨fun k_ => ?_, fun k_ => ?_⟩
    · replace h := h.1 k_
      exact ⟨trivial, rfl, h⟩
    · replace h := h.2 k_
      refine xc_in (s_117 (by omega) v4 H (h.1) (h.2.1) ?_)
      replace h := h.2.2
      show xq X d 123 Q 29 [(0, (2, 9)), (1, (2, 7)), (2, (0, v2)), (3, (0, v3)), (4, (0, v4))] [(0, ((maskR (cbV (H 68) v4) 12 0 : Nat) : Int))] H
      refine xq_run [11, 29, 31] 300 ?_
      show xq X d 123 Q 31 [(0, (2, 9)), (1, (2, 7)), (2, (0, v2)), (3, (0, v3)), (4, (0, v4)), (5, (0, ((maskR (cbV (H 68) v4) 12 0 : Nat) : Int)))] [] H
      exact h
theorem U_123_31 {X : Int × (Int → Int)} {d : Nat} {Q : Int → XH → Prop} (hd : 0 ≤ d) (v2 v3 v4 v5 : Int) (H : XH) (h : ((v3 < 0) → (xI (v4 + (-1))) ∧ xq X d 123 Q 11 [(0, (2, 9)), (1, (2, 7)), (2, (0, v2)), (3, (0, v3)), (4, (0, v4 + (-1)))] [] H) ∧ (¬ (v3 < 0) → ((¬ xand (xshr v5 v3) 1 = 0) → (xI (v4 + (-1))) ∧ xq X d 123 Q 11 [(0, (2, 9)), (1, (2, 7)), (2, (0, v2)), (3, (0, v3)), (4, (0, v4 + (-1)))] [] H) ∧ (¬ (¬ xand (xshr v5 v3) 1 = 0) → (xI (v3 + (-1))) ∧ xq X d 123 Q 31 [(0, (2, 9)), (1, (2, 7)), (2, (0, v2)), (3, (0, v3 + (-1))), (4, (0, v4)), (5, (0, v5))] [] H))) : xq X d 123 Q 31 [(0, (2, 9)), (1, (2, 7)), (2, (0, v2)), (3, (0, v3)), (4, (0, v4)), (5, (0, v5))] [] H := by
  show xq X d 123 Q 31 [(0, (2, 9)), (1, (2, 7)), (2, (0, v2)), (3, (0, v3)), (4, (0, v4)), (5, (0, v5))] [] H
  refine xq_run [11, 29, 31] 300 ?_
  show ((v3 < 0) → (xI (v4 + (-1))) ∧ xq X d 123 Q 11 [(0, (2, 9)), (1, (2, 7)), (2, (0, v2)), (3, (0, v3)), (4, (0, v4 + (-1)))] [] H) ∧ (¬ (v3 < 0) → ((¬ xand (xshr v5 v3) 1 = 0) → (xI (v4 + (-1))) ∧ xq X d 123 Q 11 [(0, (2, 9)), (1, (2, 7)), (2, (0, v2)), (3, (0, v3)), (4, (0, v4 + (-1)))] [] H) ∧ (¬ (¬ xand (xshr v5 v3) 1 = 0) → (xI (v3 + (-1))) ∧ xq X d 123 Q 31 [(0, (2, 9)), (1, (2, 7)), (2, (0, v2)), (3, (0, v3 + (-1))), (4, (0, v4)), (5, (0, v5))] [] H))
  refine ⟨fun k_ => ?_, fun k_ => ?_⟩
  · replace h := h.1 k_
    refine ⟨h.1, ?_⟩
    replace h := h.2
    exact h
  · replace h := h.2 k_
    refine ⟨fun k_ => ?_, fun k_ => ?_⟩
    · replace h := h.1 k_
      refine ⟨h.1, ?_⟩
      replace h := h.2
      exact h
    · replace h := h.2 k_
      refine ⟨h.1, ?_⟩
      replace h := h.2
      exact h

theorem s_122 {X : Int × (Int → Int)} {d : Nat} {Q : Int → XH → Prop} (hd : 7 ≤ d) (l : Int) (H : XH) (hi : InvS H) (pl : 0 ≤ l ∧ l < H 68 1) (hQ : Q (if eA (cbV (H 68)) (l + 1).toNat 0 0 < 12 then eA (cbV (H 68)) (l + 1).toNat 0 0 else -1) H) : xc X d 122 [(2, 9), (2, 7), (0, l)] H Q := by
  cases d with
  | zero => omega
  | succ d =>
  have hg := hi.1
  have hs := hi.2
  have lyb := hg.lyb
  have hc := hs.c
  obtain ⟨V, hV⟩ : ∃ V, eA (cbV (H 68)) (l + 1).toNat 0 0 = V := ⟨_, rfl⟩
  rw [hV] at hQ
  have key : ∀ (k : Nat) (i m : Int), 0 ≤ i → i + k = l + 1 → 0 ≤ m → m ≤ 12 → eA (cbV (H 68)) k i m = V → xq X d 122 Q 5 [(0, (2, 9)), (1, (2, 7)), (2, (0, l)), (3, (0, m)), (4, (0, i))] [] H := by
    intro k
    induction k with
    | zero =>
      intro i m h0 hn hm hm2 hq
      unfold eA at hq
      rw [← hq] at hQ
      refine U_122_5 (by omega) l m i H ?_
      refine ⟨fun c1 => ?_, fun c1 => ?_⟩
      · skip
        refine ⟨fun c2 => ?_, fun c2 => ?_⟩
        · skip
          first | (rw [if_neg (by omega)] at hQ; exact hQ) | (rw [if_pos (by omega)] at hQ; exact hQ) | (exfalso; omega)
        · skip
          first | (rw [if_neg (by omega)] at hQ; exact hQ) | (rw [if_pos (by omega)] at hQ; exact hQ) | (exfalso; omega)
      · skip
        refine ⟨fun c3 => ?_, fun c3 => ?_⟩
        · skip
          refine ⟨fun c4 => ?_, fun c4 => ?_⟩
          · skip
            first | (rw [if_neg (by omega)] at hQ; exact hQ) | (rw [if_pos (by omega)] at hQ; exact hQ) | (exfalso; omega)
          · skip
            first | (rw [if_neg (by omega)] at hQ; exact hQ) | (rw [if_pos (by omega)] at hQ; exact hQ) | (exfalso; omega)
        · skip
          refine ⟨?_, ?_⟩
          · first | omega | (unfold xI; omega) | (unfold xJ; omega) | assumption | (exfalso; omega) | exact hi
          refine ⟨?_, ?_⟩
          · first | omega | (unfold xI; omega) | (unfold xJ; omega) | assumption | (exfalso; omega) | exact hi
          first | (rw [if_neg (by omega)] at hQ; exact hQ) | (rw [if_pos (by omega)] at hQ; exact hQ) | (exfalso; omega)
    | succ k ih =>
      intro i m h0 hn hm hm2 hq
      unfold eA at hq
      have inner : ∀ (j : Nat) (m : Int), 0 ≤ m → m + j = 12 → eA (cbV (H 68)) k (i + 1) (mUp (cbV (H 68) i) j m) = V → xq X d 122 Q 29 [(0, (2, 9)), (1, (2, 7)), (2, (0, l)), (3, (0, m)), (4, (0, i)), (5, (0, ((maskR (cbV (H 68) i) 12 0 : Nat) : Int)))] [] H := by
        intro j
        induction j with
        | zero =>
          intro m hm hj hq
          unfold mUp at hq
          refine U_122_29 (by omega) l m i ((maskR (cbV (H 68) i) 12 0 : Nat) : Int) H ?_
          refine ⟨fun c1 => ?_, fun c1 => ?_⟩
          · skip
            refine ⟨?_, ?_⟩
            · first | omega | (unfold xI; omega) | (unfold xJ; omega) | assumption | (exfalso; omega)
            first | exact ih (i + 1) m (by omega) (by omega) hm (by omega) hq | (exfalso; omega)
          · skip
            refine ⟨fun c2 => ?_, fun c2 => ?_⟩
            · skip
              refine ⟨?_, ?_⟩
              · first | omega | (unfold xI; omega) | (unfold xJ; omega) | assumption | (exfalso; omega)
              first | exact ih (i + 1) m (by omega) (by omega) hm (by omega) hq | (exfalso; omega)
            · skip
              refine ⟨?_, ?_⟩
              · first | omega | (unfold xI; omega) | (unfold xJ; omega) | assumption | (exfalso; omega)
              first | exact ih (i + 1) m (by omega) (by omega) hm (by omega) hq | (exfalso; omega)
        | succ j ih2 =>
          intro m hm hj hq
          unfold mUp at hq
          have bt := bit_test (cbV (H 68) i) (m := m) (by omega)
          refine U_122_29 (by omega) l m i ((maskR (cbV (H 68) i) 12 0 : Nat) : Int) H ?_
          refine ⟨fun c1 => ?_, fun c1 => ?_⟩
          · skip
            refine ⟨?_, ?_⟩
            · first | omega | (unfold xI; omega) | (unfold xJ; omega) | assumption | (exfalso; omega)
            exfalso
            omega
          · skip
            refine ⟨fun c2 => ?_, fun c2 => ?_⟩
            · skip
              refine ⟨?_, ?_⟩
              · first | omega | (unfold xI; omega) | (unfold xJ; omega) | assumption | (exfalso; omega)
              rw [if_pos (fun q => (by assumption : ¬ xand (xshr _ m) 1 = 0) (bt.mpr q))] at hq
              exact ih (i + 1) m (by omega) (by omega) hm (by omega) hq
            · skip
              refine ⟨?_, ?_⟩
              · first | omega | (unfold xI; omega) | (unfold xJ; omega) | assumption | (exfalso; omega)
              rw [if_neg (fun q => q (bt.mp (Classical.not_not.mp (by assumption))))] at hq
              exact ih2 (m + 1) (by omega) (by omega) hq
      refine U_122_5 (by omega) l m i H ?_
      refine ⟨fun c1 => ?_, fun c1 => ?_⟩
      · skip
        refine ⟨fun c2 => ?_, fun c2 => ?_⟩
        · skip
          exfalso
          omega
        · skip
          exfalso
          omega
      · skip
        refine ⟨fun c3 => ?_, fun c3 => ?_⟩
        · skip
          refine ⟨fun c4 => ?_, fun c4 => ?_⟩
          · skip
            exfalso
            omega
          · skip
            exfalso
            omega
        · skip
          refine ⟨?_, ?_⟩
          · first | omega | exact hi | (unfold xI; omega) | (exfalso; omega)
          refine ⟨?_, ?_⟩
          · first | omega | exact hi | (unfold xI; omega) | (exfalso; omega)
          exact inner (12 - m).toNat m hm (by omega) hq
  refine U_122 (by omega) l H ?_
  exact key (l + 1).toNat 0 0 (by omega) (by omega) (by omega) (by omega) hV
theorem s_123 {X : Int × (Int → Int)} {d : Nat} {Q : Int → XH → Prop} (hd : 7 ≤ d) (l : Int) (H : XH) (hi : InvS H) (pl : 0 ≤ l ∧ l < H 68 1) (hQ : Q (lA (cbV (H 68)) (H 68 1 - l).toNat (H 68 1 - 1) 11) H) : xc X d 123 [(2, 9), (2, 7), (0, l)] H Q := by
  cases d with
  | zero => omega
  | succ d =>
  have hg := hi.1
  have hs := hi.2
  have lyb := hg.lyb
  have hc := hs.c
  obtain ⟨V, hV⟩ : ∃ V, lA (cbV (H 68)) (H 68 1 - l).toNat (H 68 1 - 1) 11 = V := ⟨_, rfl⟩
  rw [hV] at hQ
  have key : ∀ (k : Nat) (i m : Int), i < H 68 1 → i - k = l - 1 → -1 ≤ m → m ≤ 11 → lA (cbV (H 68)) k i m = V → xq X d 123 Q 11 [(0, (2, 9)), (1, (2, 7)), (2, (0, l)), (3, (0, m)), (4, (0, i))] [] H := by
    intro k
    induction k with
    | zero =>
      intro i m h0 hn hm hm2 hq
      unfold lA at hq
      rw [← hq] at hQ
      refine U_123_11 (by omega) l m i H ?_
      refine ⟨fun c1 => ?_, fun c1 => ?_⟩
      · skip
        first | exact hQ | (exfalso; omega)
      · skip
        refine ⟨fun c2 => ?_, fun c2 => ?_⟩
        · skip
          first | exact hQ | (exfalso; omega)
        · skip
          refine ⟨?_, ?_⟩
          · first | omega | (unfold xI; omega) | (unfold xJ; omega) | assumption | (exfalso; omega) | exact hi
          refine ⟨?_, ?_⟩
          · first | omega | (unfold xI; omega) | (unfold xJ; omega) | assumption | (exfalso; omega) | exact hi
          first | exact hQ | (exfalso; omega)
    | succ k ih =>
      intro i m h0 hn hm hm2 hq
      unfold lA at hq
      have inner : ∀ (j : Nat) (m : Int), m + 1 = j → m ≤ 11 → lA (cbV (H 68)) k (i - 1) (mDn (cbV (H 68) i) j m) = V → xq X d 123 Q 31 [(0, (2, 9)), (1, (2, 7)), (2, (0, l)), (3, (0, m)), (4, (0, i)), (5, (0, ((maskR (cbV (H 68) i) 12 0 : Nat) : Int)))] [] H := by
        intro j
        induction j with
        | zero =>
          intro m hj hm hq
          unfold mDn at hq
          refine U_123_31 (by omega) l m i ((maskR (cbV (H 68) i) 12 0 : Nat) : Int) H ?_
          refine ⟨fun c1 => ?_, fun c1 => ?_⟩
          · skip
            refine ⟨?_, ?_⟩
            · first | omega | (unfold xI; omega) | (unfold xJ; omega) | assumption | (exfalso; omega)
            first | exact ih (i + (-1)) m (by omega) (by omega) (by omega) hm hq | (exfalso; omega)
          · skip
            refine ⟨fun c2 => ?_, fun c2 => ?_⟩
            · skip
              refine ⟨?_, ?_⟩
              · first | omega | (unfold xI; omega) | (unfold xJ; omega) | assumption | (exfalso; omega)
              first | exact ih (i + (-1)) m (by omega) (by omega) (by omega) hm hq | (exfalso; omega)
            · skip
              refine ⟨?_, ?_⟩
              · first | omega | (unfold xI; omega) | (unfold xJ; omega) | assumption | (exfalso; omega)
              first | exact ih (i + (-1)) m (by omega) (by omega) (by omega) hm hq | (exfalso; omega)
        | succ j ih2 =>
          intro m hj hm hq
          unfold mDn at hq
          have bt := bit_test (cbV (H 68) i) (m := m) (by omega)
          refine U_123_31 (by omega) l m i ((maskR (cbV (H 68) i) 12 0 : Nat) : Int) H ?_
          refine ⟨fun c1 => ?_, fun c1 => ?_⟩
          · skip
            refine ⟨?_, ?_⟩
            · first | omega | (unfold xI; omega) | (unfold xJ; omega) | assumption | (exfalso; omega)
            exfalso
            omega
          · skip
            refine ⟨fun c2 => ?_, fun c2 => ?_⟩
            · skip
              refine ⟨?_, ?_⟩
              · first | omega | (unfold xI; omega) | (unfold xJ; omega) | assumption | (exfalso; omega)
              rw [if_pos (fun q => (by assumption : ¬ xand (xshr _ m) 1 = 0) (bt.mpr q))] at hq
              exact ih (i + (-1)) m (by omega) (by omega) (by omega) hm hq
            · skip
              refine ⟨?_, ?_⟩
              · first | omega | (unfold xI; omega) | (unfold xJ; omega) | assumption | (exfalso; omega)
              rw [if_neg (fun q => q (bt.mp (Classical.not_not.mp (by assumption))))] at hq
              exact ih2 (m + (-1)) (by omega) (by omega) hq
      refine U_123_11 (by omega) l m i H ?_
      refine ⟨fun c1 => ?_, fun c1 => ?_⟩
      · skip
        exfalso
        omega
      · skip
        refine ⟨fun c2 => ?_, fun c2 => ?_⟩
        · skip
          exfalso
          omega
        · skip
          refine ⟨?_, ?_⟩
          · first | omega | exact hi | (unfold xI; omega) | (exfalso; omega)
          refine ⟨?_, ?_⟩
          · first | omega | exact hi | (unfold xI; omega) | (exfalso; omega)
          exact inner (m + 1).toNat m (by omega) hm2 hq
  refine U_123 (by omega) l H ?_
  refine ⟨?_, ?_⟩
  · first | omega | (unfold xI; omega) | (unfold xJ; omega) | assumption | (exfalso; omega)
  rw [hc]
  exact key (H 68 1 - l).toNat (H 68 1 - 1) 11 (by omega) (by omega) (by omega) (by omega) hV

theorem U_124 {X : Int × (Int → Int)} {d : Nat} {Q : Int → XH → Prop} (hd : 7 ≤ d) (l b : Int) (H : XH) (h : ((((0 ≤ l ∧ l < H 7 1)) → (xI ((H 7 1) - 1)) ∧ (InvS H) ∧ (0 ≤ (H 7 1) - 1 ∧ (H 7 1) - 1 < H 68 1) ∧ (((¬ (if eA (cbV (H 68)) (((H 7 1) - 1) + 1).toNat 0 0 < 12 then eA (cbV (H 68)) (((H 7 1) - 1) + 1).toNat 0 0 else -1) = (-1)) → ((b = 0) → (InvS H) ∧ (0 ≤ l ∧ l < H 68 1) ∧ (Q (if eA (cbV (H 68)) (l + 1).toNat 0 0 < 12 then eA (cbV (H 68)) (l + 1).toNat 0 0 else -1) H)) ∧ (¬ (b = 0) → (InvS H) ∧ (0 ≤ l ∧ l < H 68 1) ∧ (Q (lA (cbV (H 68)) (H 68 1 - l).toNat (H 68 1 - 1) 11) H))) ∧ (¬ (¬ (if eA (cbV (H 68)) (((H 7 1) - 1) + 1).toNat 0 0 < 12 then eA (cbV (H 68)) (((H 7 1) - 1) + 1).toNat 0 0 else -1) = (-1)) → Q (-1) H))) ∧ (¬ ((0 ≤ l ∧ l < H 7 1)) → Q (-1) H))) : xc X (d + 1) 124 [(2, 0), (0, l), (0, b)] H Q := by
  refine ⟨rfl, ?_⟩
  show xq X d 124 Q 100000 [(0, (2, 0)), (1, (0, l)), (2, (0, b))] [] H
  refine xq_run [11, 45, 73, 94] 300 ?_
  show xWM (xE X) xMC d 49 [(2, 7), (0, l)] xKZ H _
  refine xc_in (s_49_o7 (by omega) l H  ?_)
  replace h := h
  show xq X d 124 Q 11 [(0, (2, 0)), (1, (0, l)), (2, (0, b))] [(0, xb (0 ≤ l ∧ l < H 7 1))] H
  refine xq_run [11, 45, 73, 94] 300 ?_
  show ((¬ xb (0 ≤ l ∧ l < H 7 1) = 0) → (xI ((H 7 1) - 1)) ∧ xWM (xE X) xMC d 122 [(2, 9), (2, 7), (0, (H 7 1) - 1)] xKZ H _) ∧ (¬ (¬ xb (0 ≤ l ∧ l < H 7 1) = 0) → xfR 0 (-1) ∧ xKZ = xKZ ∧ Q (-1) H)
  refine ⟨fun k_ => ?_, fun k_ => ?_⟩
  · replace h := h.1 (xbe_1.mp k_)
    refine ⟨h.1, ?_⟩
    replace h := h.2
    refine xc_in (s_122 (by omega) ((H 7 1) - 1) H (h.1) (h.2.1) ?_)
    replace h := h.2.2
    show xq X d 124 Q 45 [(0, (2, 0)), (1, (0, l)), (2, (0, b))] [(0, (if eA (cbV (H 68)) (((H 7 1) - 1) + 1).toNat 0 0 < 12 then eA (cbV (H 68)) (((H 7 1) - 1) + 1).toNat 0 0 else -1))] H
    refine xq_run [11, 45, 73, 94] 300 ?_
    show ((¬ (if eA (cbV (H 68)) (((H 7 1) - 1) + 1).toNat 0 0 < 12 then eA (cbV (H 68)) (((H 7 1) - 1) + 1).toNat 0 0 else -1) = (-1)) → ((b = 0) → xWM (xE X) xMC d 122 [(2, 9), (2, 7), (0, l)] xKZ H _) ∧ (¬ (b = 0) → xWM (xE X) xMC d 123 [(2, 9), (2, 7), (0, l)] xKZ H _)) ∧ (¬ (¬ (if eA (cbV (H 68)) (((H 7 1) - 1) + 1).toNat 0 0 < 12 then eA (cbV (H 68)) (((H 7 1) - 1) + 1).toNat 0 0 else -1) = (-1)) → xfR 0 (-1) ∧ xKZ = xKZ ∧ Q (-1) H)
    refine ⟨fun k_ => ?_, fun k_ => ?_⟩
    · replace h := h.1 k_
      refine ⟨fun k_ => ?_, fun k_ => ?_⟩
      · replace h := h.1 k_
        refine xc_in (s_122 (by omega) l H (h.1) (h.2.1) ?_)
        replace h := h.2.2
        show xq X d 124 Q 94 [(0, (2, 0)), (1, (0, l)), (2, (0, b))] [(0, (if eA (cbV (H 68)) (l + 1).toNat 0 0 < 12 then eA (cbV (H 68)) (l + 1).toNat 0 0 else -1))] H
        refine xq_run [11, 45, 73, 94] 300 ?_
        show xfR 0 (if eA (cbV (H 68)) (l + 1).toNat 0 0 < 12 then eA (cbV (H 68)) (l + 1).toNat 0 0 else -1) ∧ xKZ = xKZ ∧ Q (if eA (cbV (H 68)) (l + 1).toNat 0 0 < 12 then eA (cbV (H 68)) (l + 1).toNat 0 0 else -1) H
        exact ⟨trivial, rfl, h⟩
      · replace h := h.2 k_
        refine xc_in (s_123 (by omega) l H (h.1) (h.2.1) ?_)
        replace h := h.2.2
        show xq X d 124 Q 73 [(0, (2, 0)), (1, (0, l)), (2, (0, b))] [(0, lA (cbV (H 68)) (H 68 1 - l).toNat (H 68 1 - 1) 11)] H
        refine xq_run [11, 45, 73, 94] 300 ?_
        show xq X d 124 Q 94 [(0, (2, 0)), (1, (0, l)), (2, (0, b))] [(0, lA (cbV (H 68)) (H 68 1 - l).toNat (H 68 1 - 1) 11)] H
        show xq X d 124 Q 94 [(0, (2, 0)), (1, (0, l)), (2, (0, b))] [(0, lA (cbV (H 68)) (H 68 1 - l).toNat (H 68 1 - 1) 11)] H
        refine xq_run [11, 45, 73, 94] 300 ?_
        show xfR 0 (lA (cbV (H 68)) (H 68 1 - l).toNat (H 68 1 - 1) 11) ∧ xKZ = xKZ ∧ Q (lA (cbV (H 68)) (H 68 1 - l).toNat (H 68 1 - 1) 11) H
        exact ⟨trivial, rfl, h⟩
    · replace h := h.2 k_
      exact ⟨trivial, rfl, h⟩
  · replace h := h.2 (xbe_n.mp k_)
    exact ⟨trivial, rfl, h⟩

theorem U_125 {X : Int × (Int → Int)} {d : Nat} {Q : Int → XH → Prop} (hd : 2 ≤ d) (l b : Int) (H : XH) (h : (0 ≤ H 68 1 ∧ H 68 1 ≤ 8) ∧ ((((0 ≤ l ∧ l < H 68 1)) → xq X d 125 Q 23 [(0, (2, 67)), (1, (0, l)), (2, (0, b)), (3, (0, H 68 1)), (4, (0, 0)), (5, (0, 0))] [] H) ∧ (¬ ((0 ≤ l ∧ l < H 68 1)) → Q (-1) H))) : xc X (d + 1) 125 [(2, 67), (0, l), (0, b)] H Q := by
  refine ⟨rfl, ?_⟩
  show xq X d 125 Q 100000 [(0, (2, 67)), (1, (0, l)), (2, (0, b))] [] H
  refine xq_run [5, 23, 29, 44, 86, 91, 99] 300 ?_
  show xWM (xE X) xMC d 63 [(2, 67), (0, l)] xKZ H _
  refine xc_in (s_63 (by omega) l H (h.1) ?_)
  replace h := h.2
  show xq X d 125 Q 5 [(0, (2, 67)), (1, (0, l)), (2, (0, b))] [(0, xb (0 ≤ l ∧ l < H 68 1))] H
  refine xq_run [5, 23, 29, 44, 86, 91, 99] 300 ?_
  show ((¬ xb (0 ≤ l ∧ l < H 68 1) = 0) → ((0 : Int) ≤ 1 ∧ (1 : Int) < 1180) ∧ xq X d 125 Q 23 [(0, (2, 67)), (1, (0, l)), (2, (0, b)), (3, (0, H 68 1)), (4, (0, 0)), (5, (0, 0))] [] H) ∧ (¬ (¬ xb (0 ≤ l ∧ l < H 68 1) = 0) → xfR 0 (-1) ∧ xKZ = xKZ ∧ Q (-1) H)
  refine ⟨fun k_ => ?_, fun k_ => ?_⟩
  · replace h := h.1 (xbe_1.mp k_)
    refine ⟨⟨by decide, by decide⟩, ?_⟩
    exact h
  · replace h := h.2 (xbe_n.mp k_)
    exact ⟨trivial, rfl, h⟩
theorem U_125_23 {X : Int × (Int → Int)} {d : Nat} {Q : Int → XH → Prop} (hd : 0 ≤ d) (v1 v2 v3 v4 v5 : Int) (H : XH) (h : ((v3 ≤ v5) → (xI (v3 - 1)) ∧ xq X d 125 Q 86 [(0, (2, 67)), (1, (0, v1)), (2, (0, v2)), (4, (0, 11)), (5, (0, v3 - 1))] [] H) ∧ (¬ (v3 ≤ v5) → xq X d 125 Q 29 [(0, (2, 67)), (1, (0, v1)), (2, (0, v2)), (3, (0, v3)), (4, (0, v4)), (5, (0, v5))] [] H)) : xq X d 125 Q 23 [(0, (2, 67)), (1, (0, v1)), (2, (0, v2)), (3, (0, v3)), (4, (0, v4)), (5, (0, v5))] [] H := by
  show xq X d 125 Q 23 [(0, (2, 67)), (1, (0, v1)), (2, (0, v2)), (3, (0, v3)), (4, (0, v4)), (5, (0, v5))] [] H
  refine xq_run [5, 23, 29, 44, 86, 91, 99] 300 ?_
  show ((v3 ≤ v5) → (xI (v3 - 1)) ∧ xq X d 125 Q 86 [(0, (2, 67)), (1, (0, v1)), (2, (0, v2)), (4, (0, 11)), (5, (0, v3 - 1))] [] H) ∧ (¬ (v3 ≤ v5) → xq X d 125 Q 29 [(0, (2, 67)), (1, (0, v1)), (2, (0, v2)), (3, (0, v3)), (4, (0, v4)), (5, (0, v5))] [] H)
  refine ⟨fun k_ => ?_, fun k_ => ?_⟩
  · replace h := h.1 k_
    refine ⟨h.1, ?_⟩
    replace h := h.2
    exact h
  · replace h := h.2 k_
    exact h
theorem U_125_86 {X : Int × (Int → Int)} {d : Nat} {Q : Int → XH → Prop} (hd : 0 ≤ d) (v1 v2 v4 v5 : Int) (H : XH) (h : ((v5 < 0) → ((v2 = 0) → ((0 : Int) ≤ v1 ∧ (v1 : Int) < 8) ∧ Q (H 84 v1) H) ∧ (¬ (v2 = 0) → ((0 : Int) ≤ v1 ∧ (v1 : Int) < 8) ∧ Q (H 85 v1) H)) ∧ (¬ (v5 < 0) → xq X d 125 Q 91 [(0, (2, 67)), (1, (0, v1)), (2, (0, v2)), (4, (0, v4)), (5, (0, v5))] [] H)) : xq X d 125 Q 86 [(0, (2, 67)), (1, (0, v1)), (2, (0, v2)), (4, (0, v4)), (5, (0, v5))] [] H := by
  show xq X d 125 Q 86 [(0, (2, 67)), (1, (0, v1)), (2, (0, v2)), (4, (0, v4)), (5, (0, v5))] [] H
  refine xq_run [5, 23, 29, 44, 86, 91, 99] 300 ?_
  show ((v5 < 0) → ((v2 = 0) → ((0 : Int) ≤ v1 ∧ (v1 : Int) < 8) ∧ xfR 0 (H 84 v1) ∧ xKZ = xKZ ∧ Q (H 84 v1) H) ∧ (¬ (v2 = 0) → ((0 : Int) ≤ v1 ∧ (v1 : Int) < 8) ∧ xfR 0 (H 85 v1) ∧ xKZ = xKZ ∧ Q (H 85 v1) H)) ∧ (¬ (v5 < 0) → xq X d 125 Q 91 [(0, (2, 67)), (1, (0, v1)), (2, (0, v2)), (4, (0, v4)), (5, (0, v5))] [] H)
  refine ⟨fun k_ => ?_, fun k_ => ?_⟩
  · replace h := h.1 k_
    refine ⟨fun k_ => ?_, fun k_ => ?_⟩
    · replace h := h.1 k_
      refine ⟨h.1, ?_⟩
      replace h := h.2
      exact ⟨trivial, rfl, h⟩
    · replace h := h.2 k_
      refine ⟨h.1, ?_⟩
      replace h := h.2
      exact ⟨trivial, rfl, h⟩
  · replace h := h.2 k_
    exact h
theorem U_125_29 {X : Int × (Int → Int)} {d : Nat} {Q : Int → XH → Prop} (hd : 4 ≤ d) (v1 v2 v3 v4 v5 : Int) (H : XH) (h : ((12 ≤ v4) → ((¬ v4 = 12) → ((0 : Int) ≤ v5 ∧ (v5 : Int) < 8) ∧ (xI (v5 + 1)) ∧ xq X d 125 Q 23 [(0, (2, 67)), (1, (0, v1)), (2, (0, v2)), (3, (0, v3)), (4, (0, v4)), (5, (0, v5 + 1))] [] (xup H 84 v5 v4)) ∧ (¬ (¬ v4 = 12) → Q (-1) H)) ∧ (¬ (12 ≤ v4) → (GOk (H 67 0) (H 67 1) (H 68)) ∧ (0 ≤ v5 ∧ v5 < H 68 1) ∧ (0 ≤ v4 ∧ v4 < 12) ∧ (((¬ cbV (H 68) v5 v4 = 0) → ((¬ v4 = 12) → ((0 : Int) ≤ v5 ∧ (v5 : Int) < 8) ∧ (xI (v5 + 1)) ∧ xq X d 125 Q 23 [(0, (2, 67)), (1, (0, v1)), (2, (0, v2)), (3, (0, v3)), (4, (0, v4)), (5, (0, v5 + 1))] [] (xup H 84 v5 v4)) ∧ (¬ (¬ v4 = 12) → Q (-1) H)) ∧ (¬ (¬ cbV (H 68) v5 v4 = 0) → (xI (v4 + 1)) ∧ xq X d 125 Q 29 [(0, (2, 67)), (1, (0, v1)), (2, (0, v2)), (3, (0, v3)), (4, (0, v4 + 1)), (5, (0, v5))] [] H)))) : xq X d 125 Q 29 [(0, (2, 67)), (1, (0, v1)), (2, (0, v2)), (3, (0, v3)), (4, (0, v4)), (5, (0, v5))] [] H := by
  show xq X d 125 Q 29 [(0, (2, 67)), (1, (0, v1)), (2, (0, v2)), (3, (0, v3)), (4, (0, v4)), (5, (0, v5))] [] H
  refine xq_run [5, 23, 29, 44, 86, 91, 99] 300 ?_
  show ((12 ≤ v4) → ((¬ v4 = 12) → ((0 : Int) ≤ v5 ∧ (v5 : Int) < 8) ∧ (xI (v5 + 1)) ∧ xq X d 125 Q 23 [(0, (2, 67)), (1, (0, v1)), (2, (0, v2)), (3, (0, v3)), (4, (0, v4)), (5, (0, v5 + 1))] [] (xup H 84 v5 v4)) ∧ (¬ (¬ v4 = 12) → xfR 0 (-1) ∧ xKZ = xKZ ∧ Q (-1) H)) ∧ (¬ (12 ≤ v4) → xWM (xE X) xMC d 120 [(2, 67), (0, v5), (0, v4)] xKZ H _)
  refine ⟨fun k_ => ?_, fun k_ => ?_⟩
  · replace h := h.1 k_
    refine ⟨fun k_ => ?_, fun k_ => ?_⟩
    · replace h := h.1 k_
      refine ⟨h.1, ?_⟩
      replace h := h.2
      refine ⟨h.1, ?_⟩
      replace h := h.2
      exact h
    · replace h := h.2 k_
      exact ⟨trivial, rfl, h⟩
  · replace h := h.2 k_
    refine xc_in (s_120 (by omega) v5 v4 H (h.1) (h.2.1) (h.2.2.1) ?_)
    replace h := h.2.2.2
    show xq X d 125 Q 44 [(0, (2, 67)), (1, (0, v1)), (2, (0, v2)), (3, (0, v3)), (4, (0, v4)), (5, (0, v5))] [(0, cbV (H 68) v5 v4)] H
    refine xq_run [5, 23, 29, 44, 86, 91, 99] 300 ?_
    show ((¬ cbV (H 68) v5 v4 = 0) → ((¬ v4 = 12) → ((0 : Int) ≤ v5 ∧ (v5 : Int) < 8) ∧ (xI (v5 + 1)) ∧ xq X d 125 Q 23 [(0, (2, 67)), (1, (0, v1)), (2, (0, v2)), (3, (0, v3)), (4, (0, v4)), (5, (0, v5 + 1))] [] (xup H 84 v5 v4)) ∧ (¬ (¬ v4 = 12) → xfR 0 (-1) ∧ xKZ = xKZ ∧ Q (-1) H)) ∧ (¬ (¬ cbV (H 68) v5 v4 = 0) → (xI (v4 + 1)) ∧ xq X d 125 Q 29 [(0, (2, 67)), (1, (0, v1)), (2, (0, v2)), (3, (0, v3)), (4, (0, v4 + 1)), (5, (0, v5))] [] H)
    refine ⟨fun k_ => ?_, fun k_ => ?_⟩
    · replace h := h.1 k_
      refine ⟨fun k_ => ?_, fun k_ => ?_⟩
      · replace h := h.1 k_
        refine ⟨h.1, ?_⟩
        replace h := h.2
        refine ⟨h.1, ?_⟩
        replace h := h.2
        exact h
      · replace h := h.2 k_
        exact ⟨trivial, rfl, h⟩
    · replace h := h.2 k_
      refine ⟨h.1, ?_⟩
      replace h := h.2
      exact h
theorem U_125_91 {X : Int × (Int → Int)} {d : Nat} {Q : Int → XH → Prop} (hd : 4 ≤ d) (v1 v2 v4 v5 : Int) (H : XH) (h : (GOk (H 67 0) (H 67 1) (H 68)) ∧ (0 ≤ v5 ∧ v5 < H 68 1) ∧ (0 ≤ v4 ∧ v4 < 12) ∧ (((¬ cbV (H 68) v5 v4 = 0) → ((0 : Int) ≤ v5 ∧ (v5 : Int) < 8) ∧ (xI (v5 + (-1))) ∧ xq X d 125 Q 86 [(0, (2, 67)), (1, (0, v1)), (2, (0, v2)), (4, (0, v4)), (5, (0, v5 + (-1)))] [] (xup H 85 v5 v4)) ∧ (¬ (¬ cbV (H 68) v5 v4 = 0) → (xI (v4 + (-1))) ∧ xq X d 125 Q 91 [(0, (2, 67)), (1, (0, v1)), (2, (0, v2)), (4, (0, v4 + (-1))), (5, (0, v5))] [] H))) : xq X d 125 Q 91 [(0, (2, 67)), (1, (0, v1)), (2, (0, v2)), (4, (0, v4)), (5, (0, v5))] [] H := by
  show xq X d 125 Q 91 [(0, (2, 67)), (1, (0, v1)), (2, (0, v2)), (4, (0, v4)), (5, (0, v5))] [] H
  refine xq_run [5, 23, 29, 44, 86, 91, 99] 300 ?_
  show xWM (xE X) xMC d 120 [(2, 67), (0, v5), (0, v4)] xKZ H _
  refine xc_in (s_120 (by omega) v5 v4 H (h.1) (h.2.1) (h.2.2.1) ?_)
  replace h := h.2.2.2
  show xq X d 125 Q 99 [(0, (2, 67)), (1, (0, v1)), (2, (0, v2)), (4, (0, v4)), (5, (0, v5))] [(0, cbV (H 68) v5 v4)] H
  refine xq_run [5, 23, 29, 44, 86, 91, 99] 300 ?_
  show ((¬ cbV (H 68) v5 v4 = 0) → ((0 : Int) ≤ v5 ∧ (v5 : Int) < 8) ∧ (xI (v5 + (-1))) ∧ xq X d 125 Q 86 [(0, (2, 67)), (1, (0, v1)), (2, (0, v2)), (4, (0, v4)), (5, (0, v5 + (-1)))] [] (xup H 85 v5 v4)) ∧ (¬ (¬ cbV (H 68) v5 v4 = 0) → (xI (v4 + (-1))) ∧ xq X d 125 Q 91 [(0, (2, 67)), (1, (0, v1)), (2, (0, v2)), (4, (0, v4 + (-1))), (5, (0, v5))] [] H)
  refine ⟨fun k_ => ?_, fun k_ => ?_⟩
  · replace h := h.1 k_
    refine ⟨h.1, ?_⟩
    replace h := h.2
    refine ⟨h.1, ?_⟩
    replace h := h.2
    exact h
  · replace h := h.2 k_
    refine ⟨h.1, ?_⟩
    replace h := h.2
    exact h

theorem s_124 {X : Int × (Int → Int)} {d : Nat} {Q : Int → XH → Prop} (hd : 9 ≤ d) (l b : Int) (H : XH) (hi : InvS H) (hQ : ∀ h1 : XH, frC H h1 → Q (vWhen (H 67 0) (H 67 1) (H 68) l b) h1) : xc X d 124 [(2, 0), (0, l), (0, b)] H Q := by
  cases d with
  | zero => omega
  | succ d =>
  have hg := hi.1
  have hs := hi.2
  have nn := hg.nn
  have ww := hg.ww
  have l2 := hs.l2
  have hc := hs.c
  have lyb := hg.lyb
  have bnd := hg.bnd
  have k := hQ _ (frC_refl H)
  unfold vWhen at k
  have e1 : H 7 1 - 1 + 1 = H 68 1 := by omega
  have up : 0 ≤ l → l < H 68 1 → eA (cbV (H 68)) (H 68 1).toNat 0 0 < 12 → eA (cbV (H 68)) (l + 1).toNat 0 0 < 12 := fun a b c => by
    have e := eA_add (cbV (H 68)) (l + 1).toNat (H 68 1 - (l + 1)).toNat 0 0
    rw [show (l + 1).toNat + (H 68 1 - (l + 1)).toNat = (H 68 1).toNat by omega] at e
    have r := eA_rng (cbV (H 68)) (l + 1).toNat 0 0 (by omega)
    have r2 := eA_rng (cbV (H 68)) (H 68 1 - (l + 1)).toNat (0 + ((l + 1).toNat : Int)) (eA (cbV (H 68)) (l + 1).toNat 0 0) r.2
    omega
  have r0 := eA_rng (cbV (H 68)) (H 68 1).toNat 0 0 (by omega)
  have tst : ¬ (if eA (cbV (H 68)) (H 68 1).toNat 0 0 < 12 then eA (cbV (H 68)) (H 68 1).toNat 0 0 else -1) = -1 → eA (cbV (H 68)) (H 68 1).toNat 0 0 < 12 := fun q => by
    by_cases z : eA (cbV (H 68)) (H 68 1).toNat 0 0 < 12
    · exact z
    · exact absurd (if_neg z) q
  refine U_124 (by omega) l b H ?_
  rw [e1]
  refine ⟨fun c1 => ?_, fun c1 => ?_⟩
  · skip
    refine ⟨?_, ?_⟩
    · first | omega | exact hi | exact hg | exact lk | (unfold xI; omega)
    refine ⟨?_, ?_⟩
    · first | omega | exact hi | exact hg | exact lk | (unfold xI; omega)
    refine ⟨?_, ?_⟩
    · first | omega | exact hi | exact hg | exact lk | (unfold xI; omega)
    refine ⟨fun c2 => ?_, fun c2 => ?_⟩
    · skip
      refine ⟨fun c3 => ?_, fun c3 => ?_⟩
      · skip
        refine ⟨?_, ?_⟩
        · first | omega | exact hi | exact hg | exact lk | (unfold xI; omega)
        refine ⟨?_, ?_⟩
        · first | omega | exact hi | exact hg | exact lk | (unfold xI; omega)
        have hT := tst c2
        rw [if_pos ⟨by omega, hT⟩, if_pos (by omega)] at k
        rw [if_pos (up (by omega) (by omega) hT)]
        exact k
      · skip
        refine ⟨?_, ?_⟩
        · first | omega | exact hi | exact hg | exact lk | (unfold xI; omega)
        refine ⟨?_, ?_⟩
        · first | omega | exact hi | exact hg | exact lk | (unfold xI; omega)
        have hT := tst c2
        rw [if_pos ⟨by omega, hT⟩, if_neg (by omega)] at k
        exact k
    · skip
      have nT : ¬ eA (cbV (H 68)) (H 68 1).toNat 0 0 < 12 := fun z => c2 (fun q => by rw [if_pos z] at q; omega)
      rw [if_neg (fun q => nT q.2)] at k
      exact k
  · skip
    rw [if_neg (by omega)] at k
    exact k

theorem eA_E (g : Int → Int) (hl : 0 ≤ g 1 ∧ g 1 ≤ 8) (hT : eA (cbV g) (g 1).toNat 0 0 < 12) : (∀ i, 0 ≤ i → i < g 1 → (0 ≤ eA (cbV g) (i + 1).toNat 0 0 ∧ eA (cbV g) (i + 1).toNat 0 0 < 12) ∧ ¬ cbV g i (eA (cbV g) (i + 1).toNat 0 0) = 0) ∧ ∀ i, 0 ≤ i → i + 1 < g 1 → eA (cbV g) (i + 1).toNat 0 0 ≤ eA (cbV g) (i + 1 + 1).toNat 0 0 := by
  have lt : ∀ i : Int, 0 ≤ i → i ≤ g 1 → eA (cbV g) i.toNat 0 0 < 12 := fun i a b => by
    have e := eA_add (cbV g) i.toNat (g 1 - i).toNat 0 0
    rw [show i.toNat + (g 1 - i).toNat = (g 1).toNat by omega] at e
    have r := eA_rng (cbV g) i.toNat 0 0 (by omega)
    have r2 := eA_rng (cbV g) (g 1 - i).toNat (0 + (i.toNat : Int)) (eA (cbV g) i.toNat 0 0) r.2
    omega
  refine ⟨fun i a b => ?_, fun i a b => ?_⟩
  · have r := eA_rng (cbV g) (i + 1).toNat 0 0 (by omega)
    have l1 := lt (i + 1) (by omega) (by omega)
    refine ⟨⟨r.1, l1⟩, ?_⟩
    have e := eA_nx (cbV g) i.toNat
    rw [show i.toNat + 1 = (i + 1).toNat by omega, show ((i.toNat : Nat) : Int) = i by omega] at e
    have r0 := eA_rng (cbV g) i.toNat 0 0 (by omega)
    have u := mUp_rng (cbV g i) (12 - eA (cbV g) i.toNat 0 0).toNat (eA (cbV g) i.toNat 0 0)
    rw [← e] at u
    exact u.2.2 (by omega)
  · have e := eA_nx (cbV g) (i + 1).toNat
    rw [show (i + 1).toNat + 1 = (i + 1 + 1).toNat by omega] at e
    have r0 := eA_rng (cbV g) (i + 1).toNat 0 0 (by omega)
    have u := mUp_rng (cbV g (((i + 1).toNat : Nat) : Int)) (12 - eA (cbV g) (i + 1).toNat 0 0).toNat (eA (cbV g) (i + 1).toNat 0 0)
    rw [← e] at u
    exact u.1

theorem s_125 {X : Int × (Int → Int)} {d : Nat} {Q : Int → XH → Prop} (hd : 9 ≤ d) (l b : Int) (H : XH) (hg : GOk (H 67 0) (H 67 1) (H 68)) (hQ : ∀ h1 : XH, frM H h1 → Q (vWhen (H 67 0) (H 67 1) (H 68) l b) h1) : xc X d 125 [(2, 67), (0, l), (0, b)] H Q := by
  cases d with
  | zero => omega
  | succ d =>
  have nn := hg.nn
  have ww := hg.ww
  have lyb := hg.lyb
  have bnd := hg.bnd
  by_cases pl : 0 ≤ l ∧ l < H 68 1
  · -- the second loop
    have fin : eA (cbV (H 68)) (H 68 1).toNat 0 0 < 12 → ∀ (k : Nat) (i m : Int) (h : XH), frM H h → i + 1 = k → k ≤ H 68 1 → m = lA (cbV (H 68)) (H 68 1 - 1 - i).toNat (H 68 1 - 1) 11 → (∀ j, 0 ≤ j → j < H 68 1 → h 84 j = eA (cbV (H 68)) (j + 1).toNat 0 0) → (∀ j, i < j → j < H 68 1 → h 85 j = lA (cbV (H 68)) (H 68 1 - j).toNat (H 68 1 - 1) 11) → xq X d 125 Q 86 [(0, (2, 67)), (1, (0, l)), (2, (0, b)), (4, (0, m)), (5, (0, i))] [] h := by
      intro hT k
      obtain ⟨hE, hM⟩ := eA_E (H 68) lyb hT
      induction k with
      | zero =>
        intro i m h f hi hk hm h84 h85
        have k1 := hQ h f
        unfold vWhen at k1
        rw [if_pos ⟨pl, hT⟩] at k1
        refine U_125_86 (by omega) l b m i h ?_
        refine ⟨fun c1 => ?_, fun c1 => ?_⟩
        · skip
          refine ⟨fun c2 => ?_, fun c2 => ?_⟩
          · skip
            refine ⟨?_, ?_⟩
            · first | omega | (unfold xI; omega) | (unfold xJ; omega) | assumption | (exfalso; omega)
            rw [if_pos (by assumption), ← h84 l (by omega) (by omega)] at k1
            exact k1
          · skip
            refine ⟨?_, ?_⟩
            · first | omega | (unfold xI; omega) | (unfold xJ; omega) | assumption | (exfalso; omega)
            rw [if_neg (by assumption), ← h85 l (by omega) (by omega)] at k1
            exact k1
        · skip
          exfalso
          omega
      | succ k ih =>
        intro i m h f hi hk hm h84 h85
        have a0 := f.2 0 (by decide)
        have a1 := f.2 1 (by decide)
        have a8 := frM_o f 68 (by decide) (by decide)
        have hg' : GOk (h 67 0) (h 67 1) (h 68) := by rw [a0, a1, a8]; exact hg
        have ge := lA_ge (cbV (H 68)) (fun i => eA (cbV (H 68)) (i + 1).toNat 0 0) (H 68 1) hE hM (H 68 1 - 1 - i).toNat (H 68 1 - 1) 11 (by omega) (by omega) (fun q => by have := hE (H 68 1 - 1) q (by omega); omega) (by omega) (by omega)
        rw [← hm] at ge
        have ge4 := ge.2.2.2 (by omega)
        rw [show H 68 1 - 1 - (((H 68 1 - 1 - i).toNat : Nat) : Int) = i by omega] at ge4
        have nx : lA (cbV (H 68)) (H 68 1 - 1 - (i + (-1))).toNat (H 68 1 - 1) 11 = mDn (cbV (H 68) i) (m + 1).toNat m := by
          have la : ∀ (a : Nat) (l m : Int), lA (cbV (H 68)) (a + 1) l m = mDn (cbV (H 68) (l - a)) (lA (cbV (H 68)) a l m + 1).toNat (lA (cbV (H 68)) a l m) := by
            intro a
            induction a with
            | zero => intro l m; rw [show l - ((0 : Nat) : Int) = l by omega]; rfl
            | succ a iha =>
              intro l m
              show lA (cbV (H 68)) (a + 1) (l - 1) _ = _
              rw [iha (l - 1), show l - 1 - (a : Int) = l - ((a + 1 : Nat) : Int) by omega]
              rfl
          rw [show (H 68 1 - 1 - (i + (-1))).toNat = (H 68 1 - 1 - i).toNat + 1 by omega, la, ← hm, show H 68 1 - 1 - (((H 68 1 - 1 - i).toNat : Nat) : Int) = i by omega]
        have ei := hE i (by omega) (by omega)
        have inner : ∀ (j : Nat) (m' : Int), m' + 1 = j → m' ≤ 11 → eA (cbV (H 68)) (i + 1).toNat 0 0 ≤ m' → mDn (cbV (H 68) i) j m' = mDn (cbV (H 68) i) (m + 1).toNat m → xq X d 125 Q 91 [(0, (2, 67)), (1, (0, l)), (2, (0, b)), (4, (0, m')), (5, (0, i))] [] h := by
          intro j
          obtain ⟨D, hD⟩ : ∃ D, mDn (cbV (H 68) i) (m + 1).toNat m = D := ⟨_, rfl⟩
          rw [hD] at nx ⊢
          induction j with
          | zero =>
            intro m' hj hm' hge hq
            exfalso
            omega
          | succ j ih2 =>
            intro m' hj hm' hge hq
            unfold mDn at hq
            refine U_125_91 (by omega) l b m' i h ?_
            rw [a8]
            refine ⟨?_, ?_⟩
            · first | omega | exact hg | (rw [a0, a1]; exact hg) | exact hg' | (unfold xI; omega) | (exfalso; omega)
            refine ⟨?_, ?_⟩
            · first | omega | exact hg | (rw [a0, a1]; exact hg) | exact hg' | (unfold xI; omega) | (exfalso; omega)
            refine ⟨?_, ?_⟩
            · first | omega | exact hg | (rw [a0, a1]; exact hg) | exact hg' | (unfold xI; omega) | (exfalso; omega)
            refine ⟨fun c1 => ?_, fun c1 => ?_⟩
            · skip
              refine ⟨?_, ?_⟩
              · first | omega | exact hg | (rw [a0, a1]; exact hg) | exact hg' | (unfold xI; omega) | (exfalso; omega)
              refine ⟨?_, ?_⟩
              · first | omega | exact hg | (rw [a0, a1]; exact hg) | exact hg' | (unfold xI; omega) | (exfalso; omega)
              rw [if_pos (by assumption)] at hq
              refine ih (i + (-1)) m' _ (frM_up f (by decide)) (by omega) (by omega) (by rw [nx, hq]) (fun j' p q => h84 j' p q) (fun j' p q => ?_)
              rw [xup_eq]
              split
              · next e =>
                rw [hq, ← nx, e]
                congr 1
                omega
              · exact h85 j' (by omega) q
            · skip
              refine ⟨?_, ?_⟩
              · first | omega | exact hg | (rw [a0, a1]; exact hg) | exact hg' | (unfold xI; omega) | (exfalso; omega)
              rw [if_neg (by assumption)] at hq
              refine ih2 (m' + (-1)) (by omega) (by omega) ?_ hq
              have hne : ¬ m' = eA (cbV (H 68)) (i + 1).toNat 0 0 := fun q => by
                rw [← q] at ei
                exact (by assumption : ¬ ¬ cbV (H 68) i m' = 0) ei.2
              omega
        refine U_125_86 (by omega) l b m i h ?_
        refine ⟨fun c1 => ?_, fun c1 => ?_⟩
        · skip
          refine ⟨fun c2 => ?_, fun c2 => ?_⟩
          · skip
            refine ⟨?_, ?_⟩
            · first | omega | (unfold xI; omega) | (unfold xJ; omega) | assumption | (exfalso; omega)
            exfalso
            omega
          · skip
            refine ⟨?_, ?_⟩
            · first | omega | (unfold xI; omega) | (unfold xJ; omega) | assumption | (exfalso; omega)
            exfalso
            omega
        · skip
          exact inner (m + 1).toNat m (by omega) (by omega) ge4 rfl
    have none : 12 ≤ eA (cbV (H 68)) (H 68 1).toNat 0 0 → ∀ h, frM H h → Q (-1) h := fun q h f => by
      have k1 := hQ h f
      unfold vWhen at k1
      rw [if_neg (by omega)] at k1
      exact k1
    have key : ∀ (k : Nat) (i m : Int) (h : XH), frM H h → 0 ≤ i → i + k = H 68 1 → m = eA (cbV (H 68)) i.toNat 0 0 → m < 12 → (∀ j, 0 ≤ j → j < i → h 84 j = eA (cbV (H 68)) (j + 1).toNat 0 0) → xq X d 125 Q 23 [(0, (2, 67)), (1, (0, l)), (2, (0, b)), (3, (0, H 68 1)), (4, (0, m)), (5, (0, i))] [] h := by
      intro k
      induction k with
      | zero =>
        intro i m h f h0 hn hm hm2 h84
        refine U_125_23 (by omega) l b (H 68 1) m i h ?_
        refine ⟨fun c1 => ?_, fun c1 => ?_⟩
        · skip
          refine ⟨?_, ?_⟩
          · first | omega | (unfold xI; omega) | (unfold xJ; omega) | assumption | (exfalso; omega)
          have hT : eA (cbV (H 68)) (H 68 1).toNat 0 0 < 12 := by
            rw [show H 68 1 = i by omega, ← hm]
            exact hm2
          refine fin hT (H 68 1).toNat (H 68 1 - 1) 11 h f (by omega) (by omega) ?_ (fun j p q => h84 j p (by omega)) (fun j p q => by omega)
          rw [show (H 68 1 - 1 - (H 68 1 - 1)).toNat = 0 by omega]
          rfl
        · skip
          exfalso
          omega
      | succ k ih =>
        intro i m h f h0 hn hm hm2 h84
        have a0 := f.2 0 (by decide)
        have a1 := f.2 1 (by decide)
        have a8 := frM_o f 68 (by decide) (by decide)
        have hg' : GOk (h 67 0) (h 67 1) (h 68) := by rw [a0, a1, a8]; exact hg
        have r0 := eA_rng (cbV (H 68)) i.toNat 0 0 (by omega)
        have nx := eA_nx (cbV (H 68)) i.toNat
        rw [show i.toNat + 1 = (i + 1).toNat by omega, show ((i.toNat : Nat) : Int) = i by omega, ← hm] at nx
        have inner : ∀ (j : Nat) (m' : Int), 0 ≤ m' → m' + j = 12 → mUp (cbV (H 68) i) j m' = eA (cbV (H 68)) (i + 1).toNat 0 0 → xq X d 125 Q 29 [(0, (2, 67)), (1, (0, l)), (2, (0, b)), (3, (0, H 68 1)), (4, (0, m')), (5, (0, i))] [] h := by
          intro j
          induction j with
          | zero =>
            intro m' hm' hj hq
            unfold mUp at hq
            have e := eA_add (cbV (H 68)) (i + 1).toNat k 0 0
            rw [show (i + 1).toNat + k = (H 68 1).toNat by omega, ← hq] at e
            have r2 := eA_rng (cbV (H 68)) k (0 + (((i + 1).toNat : Nat) : Int)) m' (by omega)
            refine U_125_29 (by omega) l b (H 68 1) m' i h ?_
            refine ⟨fun c1 => ?_, fun c1 => ?_⟩
            · skip
              refine ⟨fun c2 => ?_, fun c2 => ?_⟩
              · skip
                refine ⟨?_, ?_⟩
                · first | omega | exact hg' | (exfalso; omega)
                refine ⟨?_, ?_⟩
                · first | omega | exact hg' | (exfalso; omega)
                exfalso
                omega
              · skip
                exact none (by omega) h f
            · skip
              refine ⟨?_, ?_⟩
              · first | omega | exact hg' | (exfalso; omega)
              refine ⟨?_, ?_⟩
              · first | omega | exact hg' | (exfalso; omega)
              refine ⟨?_, ?_⟩
              · first | omega | exact hg' | (exfalso; omega)
              refine ⟨fun c3 => ?_, fun c3 => ?_⟩
              · skip
                refine ⟨fun c4 => ?_, fun c4 => ?_⟩
                · skip
                  refine ⟨?_, ?_⟩
                  · first | omega | exact hg' | (exfalso; omega)
                  refine ⟨?_, ?_⟩
                  · first | omega | exact hg' | (exfalso; omega)
                  exfalso
                  omega
                · skip
                  exfalso
                  omega
              · skip
                refine ⟨?_, ?_⟩
                · first | omega | exact hg' | (exfalso; omega)
                exfalso
                omega
          | succ j ih2 =>
            intro m' hm' hj hq
            unfold mUp at hq
            refine U_125_29 (by omega) l b (H 68 1) m' i h ?_
            rw [a8]
            refine ⟨fun c1 => ?_, fun c1 => ?_⟩
            · skip
              refine ⟨fun c2 => ?_, fun c2 => ?_⟩
              · skip
                refine ⟨?_, ?_⟩
                · first | omega | exact hg | (rw [a0, a1]; exact hg) | (unfold xI; omega) | (exfalso; omega)
                refine ⟨?_, ?_⟩
                · first | omega | exact hg | (rw [a0, a1]; exact hg) | (unfold xI; omega) | (exfalso; omega)
                exfalso
                omega
              · skip
                exfalso
                omega
            · skip
              refine ⟨?_, ?_⟩
              · first | omega | exact hg | (rw [a0, a1]; exact hg) | (unfold xI; omega) | (exfalso; omega)
              refine ⟨?_, ?_⟩
              · first | omega | exact hg | (rw [a0, a1]; exact hg) | (unfold xI; omega) | (exfalso; omega)
              refine ⟨?_, ?_⟩
              · first | omega | exact hg | (rw [a0, a1]; exact hg) | (unfold xI; omega) | (exfalso; omega)
              refine ⟨fun c3 => ?_, fun c3 => ?_⟩
              · skip
                refine ⟨fun c4 => ?_, fun c4 => ?_⟩
                · skip
                  refine ⟨?_, ?_⟩
                  · first | omega | exact hg | (rw [a0, a1]; exact hg) | (unfold xI; omega) | (exfalso; omega)
                  refine ⟨?_, ?_⟩
                  · first | omega | exact hg | (rw [a0, a1]; exact hg) | (unfold xI; omega) | (exfalso; omega)
                  rw [if_pos (by assumption)] at hq
                  refine ih (i + 1) m' _ (frM_up f (by decide)) (by omega) (by omega) hq (by omega) (fun j' p q => ?_)
                  rw [xup_eq]
                  split
                  · next e => rw [hq, e]
                  · exact h84 j' p (by omega)
                · skip
                  exfalso
                  omega
              · skip
                refine ⟨?_, ?_⟩
                · first | omega | exact hg | (rw [a0, a1]; exact hg) | (unfold xI; omega) | (exfalso; omega)
                rw [if_neg (by assumption)] at hq
                exact ih2 (m' + 1) (by omega) (by omega) hq
        refine U_125_23 (by omega) l b (H 68 1) m i h ?_
        refine ⟨fun c1 => ?_, fun c1 => ?_⟩
        · skip
          refine ⟨?_, ?_⟩
          · first | omega | (unfold xI; omega) | (unfold xJ; omega) | assumption | (exfalso; omega)
          exfalso
          omega
        · skip
          exact inner (12 - m).toNat m (by omega) (by omega) nx.symm
    refine U_125 (by omega) l b H ⟨lyb, fun _ => ?_, fun q => absurd pl q⟩
    exact key (H 68 1).toNat 0 0 H (frM_refl H) (by omega) (by omega) rfl (by omega) (fun j p q => by omega)
  · have k1 := hQ H (frM_refl H)
    unfold vWhen at k1
    rw [if_neg (fun q => pl q.1)] at k1
    exact U_125 (by omega) l b H ⟨lyb, fun q => absurd q pl, fun _ => k1⟩

theorem p_when {X : Int × (Int → Int)} {d : Nat} (hd : 9 ≤ d) (l b : Int) (H : XH) (hi : InvS H) : xc X d 124 [(2, 0), (0, l), (0, b)] H (fun r H1 => xc X d 125 [(2, 67), (0, l), (0, b)] H1 (qOk H r)) :=
  s_124 (by omega) l b H hi (fun h1 f => s_125 (by omega) l b h1 (frC_S f hi).1 (fun h2 f' => ⟨by rw [f 67 (by decide) (by decide), f 68 (by decide) (by decide)], frQ_CM f f'⟩))
