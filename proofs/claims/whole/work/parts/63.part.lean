/-! THE PURE LAYER 33: two that were smeared together -/
def smF (w n : Int) (g : Int → Int) (a b k s : Int) : Int := k * soF w n g a s * soT w n g b + (10 - k) * soF w n g b s * soT w n g a
def smV (w n : Int) (g : Int → Int) (l a b k : Int) : Int := farV (fun s => g (560 + 5 * l + s)) (smF w n g a b k)
theorem smF_rng {w n : Int} {g : Int → Int} (hg : GOk w n g) {a b k s : Int} (hk : 1 ≤ k ∧ k ≤ 9) (hs : 0 ≤ s ∧ s < 5) : ((0 ≤ k * soF w n g a s ∧ k * soF w n g a s ≤ 5184) ∧ 0 ≤ k * soF w n g a s * soT w n g b ∧ k * soF w n g a s * soT w n g b ≤ 14929920) ∧ ((0 ≤ (10 - k) * soF w n g b s ∧ (10 - k) * soF w n g b s ≤ 5184) ∧ 0 ≤ (10 - k) * soF w n g b s * soT w n g a ∧ (10 - k) * soF w n g b s * soT w n g a ≤ 14929920) ∧ 0 ≤ smF w n g a b k s ∧ smF w n g a b k s ≤ 16588800 := by
  have ra := soF_rng hg (c := a) hs
  have rb := soF_rng hg (c := b) hs
  have ta := soT_rng hg a
  have tb := soT_rng hg b
  have h1 := mulB (x := k) (y := soF w n g a s) (A := 9) (B := 576) (by omega) ra
  have h2 := mulB (x := 10 - k) (y := soF w n g b s) (A := 9) (B := 576) (by omega) rb
  have h3 := mulB (x := k * soF w n g a s) (y := soT w n g b) (A := 5184) (B := 2880) (by omega) tb
  have h4 := mulB (x := (10 - k) * soF w n g b s) (y := soT w n g a) (A := 5184) (B := 2880) (by omega) ta
  have p1 := mulB (x := soF w n g a s) (y := soT w n g b) (A := 576) (B := 2880) ra tb
  have p2 := mulB (x := soF w n g b s) (y := soT w n g a) (A := 576) (B := 2880) rb ta
  have e1 : k * soF w n g a s * soT w n g b = k * (soF w n g a s * soT w n g b) := Int.mul_assoc _ _ _
  have e2 : (10 - k) * soF w n g b s * soT w n g a = (10 - k) * (soF w n g b s * soT w n g a) := Int.mul_assoc _ _ _
  have m1 := Int.mul_le_mul_of_nonneg_left p1.2 (show 0 ≤ k by omega)
  have m2 := Int.mul_le_mul_of_nonneg_left p2.2 (show 0 ≤ 10 - k by omega)
  unfold smF
  refine ⟨⟨h1, h3⟩, ⟨h2, h4⟩, by omega, by omega⟩
theorem smF_sum (w n : Int) (g : Int → Int) (a b k : Int) : sum5 (smF w n g a b k) 0 = 10 * soT w n g a * soT w n g b := by
  have hT := soT_F w n g a
  have hU := soT_F w n g b
  rw [sum5_0] at hT hU ⊢
  unfold smF
  generalize soT w n g a = T at *
  generalize soT w n g b = U at *
  have e1 : k * soF w n g a 0 * U + k * soF w n g a 1 * U + k * soF w n g a 2 * U + k * soF w n g a 3 * U + k * soF w n g a 4 * U = k * T * U := by
    rw [hT]
    simp only [Int.mul_add, Int.add_mul]
  have e2 : (10 - k) * soF w n g b 0 * T + (10 - k) * soF w n g b 1 * T + (10 - k) * soF w n g b 2 * T + (10 - k) * soF w n g b 3 * T + (10 - k) * soF w n g b 4 * T = (10 - k) * U * T := by
    rw [hU]
    simp only [Int.mul_add, Int.add_mul]
  have e3 : k * T * U + (10 - k) * U * T = 10 * T * U := by
    rw [Int.sub_mul, Int.sub_mul, Int.mul_assoc k T U, Int.mul_assoc k U T, Int.mul_assoc 10 U T, Int.mul_assoc 10 T U, Int.mul_comm U T]
    omega
  omega
theorem smV_rng {w n : Int} {g : Int → Int} (hg : GOk w n g) {l a b k : Int} (hl : 0 ≤ l ∧ l < g 1) (hk : 1 ≤ k ∧ k ≤ 9) : 0 ≤ smV w n g l a b k ∧ smV w n g l a b k ≤ 1000 := by
  refine farV_rng (fun s x y => ?_) (fun s x y => (smF_rng hg hk ⟨x, y⟩).2.2.1)
  have z := hg.lya (5 * l + s) (by omega) (by omega)
  rw [← Int.add_assoc] at z
  exact z.1
/-- the search: its state is far, a, b, tenths; far -1: none yet -/
def pdU (V : Int → Int → Int → Int) (a b k : Int) (s : Int × Int × Int × Int) : Int × Int × Int × Int := if s.1 = -1 ∨ V a b k < s.1 then (V a b k, a, b, k) else s
def pdK (V : Int → Int → Int → Int) (a b : Int) : Nat → Int → Int × Int × Int × Int → Int × Int × Int × Int
  | 0, _, s => s
  | m + 1, k, s => pdK V a b m (k + 1) (pdU V a b k s)
def pdI (V : Int → Int → Int → Int) (T : Int → Int) (a : Int) : Nat → Int → Int × Int × Int × Int → Int × Int × Int × Int
  | 0, _, s => s
  | m + 1, b, s => pdI V T a m (b + 1) (if 0 < T a ∧ 0 < T b then pdK V a b 9 1 s else s)
def pdO (V : Int → Int → Int → Int) (T : Int → Int) : Nat → Int → Int × Int × Int × Int → Int × Int × Int × Int
  | 0, _, s => s
  | m + 1, a, s => pdO V T m (a + 1) (pdI V T a m (a + 1) s)
/-- none yet, or well said -/
def pdW (s : Int × Int × Int × Int) : Prop := s = (-1, -1, -1, -1) ∨ ((0 ≤ s.1 ∧ s.1 ≤ 1000) ∧ (0 ≤ s.2.1 ∧ s.2.1 < 64) ∧ (0 ≤ s.2.2.1 ∧ s.2.2.1 < 64) ∧ 1 ≤ s.2.2.2 ∧ s.2.2.2 ≤ 9)
theorem pdU_W {V : Int → Int → Int → Int} {a b k : Int} {s : Int × Int × Int × Int} (hV : 0 ≤ V a b k ∧ V a b k ≤ 1000) (ha : 0 ≤ a ∧ a < 64) (hb : 0 ≤ b ∧ b < 64) (hk : 1 ≤ k ∧ k ≤ 9) (h : pdW s) : pdW (pdU V a b k s) := by
  unfold pdU
  split
  · exact Or.inr ⟨hV, ha, hb, hk⟩
  · exact h
theorem pdW_1 {s : Int × Int × Int × Int} (h : pdW s) : -1 ≤ s.1 ∧ s.1 ≤ 1000 := by
  rcases h with h | h
  · rw [h]
    exact ⟨by decide, by decide⟩
  · omega
theorem pdK_W {V : Int → Int → Int → Int} {a b : Int} (hV : ∀ k, 1 ≤ k → k ≤ 9 → 0 ≤ V a b k ∧ V a b k ≤ 1000) (ha : 0 ≤ a ∧ a < 64) (hb : 0 ≤ b ∧ b < 64) : ∀ (m : Nat) (k : Int) (s : Int × Int × Int × Int), 1 ≤ k → k + m ≤ 10 → pdW s → pdW (pdK V a b m k s)
  | 0, _, _, _, _, h => h
  | m + 1, k, s, h1, h2, h => pdK_W hV ha hb m (k + 1) _ (by omega) (by omega) (pdU_W (hV k h1 (by omega)) ha hb ⟨h1, by omega⟩ h)
theorem pdU_le {V : Int → Int → Int → Int} {a b k : Int} {s : Int × Int × Int × Int} (hV : 0 ≤ V a b k) : ((¬ s.1 = -1) → ¬ (pdU V a b k s).1 = -1 ∧ (pdU V a b k s).1 ≤ s.1) ∧ ¬ (pdU V a b k s).1 = -1 ∧ (pdU V a b k s).1 ≤ V a b k := by
  unfold pdU
  split
  · dsimp only
    exact ⟨fun q => ⟨by omega, by omega⟩, by omega, Int.le_refl _⟩
  · exact ⟨fun q => ⟨q, Int.le_refl _⟩, by omega, by omega⟩
theorem pdK_le {V : Int → Int → Int → Int} {a b : Int} (hV : ∀ k, 1 ≤ k → k ≤ 9 → 0 ≤ V a b k) : ∀ (m : Nat) (k : Int) (s : Int × Int × Int × Int), 1 ≤ k → k + m ≤ 10 → (¬ s.1 = -1 → ¬ (pdK V a b m k s).1 = -1 ∧ (pdK V a b m k s).1 ≤ s.1) ∧ ∀ j, k ≤ j → j < k + m → ¬ (pdK V a b m k s).1 = -1 ∧ (pdK V a b m k s).1 ≤ V a b j
  | 0, k, s, _, _ => ⟨fun q => ⟨q, Int.le_refl _⟩, fun j a b => by omega⟩
  | m + 1, k, s, h1, h2 => by
    have u := pdU_le (s := s) (hV k h1 (by omega))
    have ih := pdK_le hV m (k + 1) (pdU V a b k s) (by omega) (by omega)
    have ih1 := ih.1 u.2.1
    refine ⟨fun q => ⟨ih1.1, Int.le_trans ih1.2 (u.1 q).2⟩, fun j x y => ?_⟩
    by_cases hj : j = k
    · rw [hj]
      exact ⟨ih1.1, Int.le_trans ih1.2 u.2.2⟩
    · exact ih.2 j (by omega) (by omega)
theorem pdK_id {V : Int → Int → Int → Int} {a b : Int} : ∀ (m : Nat) (k : Int) (s : Int × Int × Int × Int), (∀ j, k ≤ j → j < k + m → ¬ s.1 = -1 ∧ s.1 ≤ V a b j) → pdK V a b m k s = s
  | 0, _, _, _ => rfl
  | m + 1, k, s, h => by
    have h0 := h k (by omega) (by omega)
    unfold pdK
    rw [show pdU V a b k s = s from if_neg (by omega)]
    exact pdK_id m (k + 1) s (fun j x y => h j (by omega) (by omega))
/-- no pair ahead of (a, b) is nearer -/
def pdJ (V : Int → Int → Int → Int) (T : Int → Int) (n a b : Int) (s : Int × Int × Int × Int) : Prop := ∀ x y k, 0 ≤ x → x < y → y < n → (x < a ∨ (x = a ∧ y < b)) → 0 < T x → 0 < T y → 1 ≤ k → k ≤ 9 → ¬ s.1 = -1 ∧ s.1 ≤ V x y k
theorem pdJ_step {V : Int → Int → Int → Int} {T : Int → Int} {n a b : Int} {s : Int × Int × Int × Int} (hV : ∀ k, 1 ≤ k → k ≤ 9 → 0 ≤ V a b k) (h : pdJ V T n a b s) : pdJ V T n a (b + 1) (if 0 < T a ∧ 0 < T b then pdK V a b 9 1 s else s) := by
  intro x y k x0 xy yn q tx ty k1 k9
  by_cases e : x = a ∧ y = b
  · rw [if_pos ⟨e.1 ▸ tx, e.2 ▸ ty⟩, e.1, e.2]
    exact (pdK_le hV 9 1 s (by decide) (by decide)).2 k k1 (by omega)
  · have z := h x y k x0 xy yn (by omega) tx ty k1 k9
    split
    · have z2 := (pdK_le hV 9 1 s (by decide) (by decide)).1 z.1
      exact ⟨z2.1, Int.le_trans z2.2 z.2⟩
    · exact z
theorem pdJ_next {V : Int → Int → Int → Int} {T : Int → Int} {n a b : Int} {s : Int × Int × Int × Int} (hb : n ≤ b) (h : pdJ V T n a b s) : pdJ V T n (a + 1) (a + 1 + 1) s :=
  fun x y k x0 xy yn q tx ty k1 k9 => h x y k x0 xy yn (by omega) tx ty k1 k9
theorem pdI_id {V : Int → Int → Int → Int} {T : Int → Int} {a : Int} : ∀ (m : Nat) (b : Int) (s : Int × Int × Int × Int), (∀ y k, b ≤ y → y < b + m → 0 < T a → 0 < T y → 1 ≤ k → k ≤ 9 → ¬ s.1 = -1 ∧ s.1 ≤ V a y k) → pdI V T a m b s = s
  | 0, _, _, _ => rfl
  | m + 1, b, s, h => by
    have e : (if 0 < T a ∧ 0 < T b then pdK V a b 9 1 s else s) = s := by
      split
      · next q => exact pdK_id 9 1 s (fun j x y => h b j (by omega) (by omega) q.1 q.2 (by omega) (by omega))
      · rfl
    unfold pdI
    rw [e]
    exact pdI_id m (b + 1) s (fun y k x z => h y k (by omega) (by omega))
/-- cells of one soil -/
def twS (w n : Int) (g : Int → Int) (c e : Int) : Prop := ∀ s, 0 ≤ s → s < 5 → soF w n g c s = soF w n g e s
def twP (w n : Int) (g : Int → Int) (c t : Int) : Prop := (t = -1 ∧ ∀ e, 0 ≤ e → e < c → ¬ twS w n g e c) ∨ ((0 ≤ t ∧ t < c) ∧ twS w n g t c ∧ ∀ e, t < e → e < c → ¬ twS w n g e c)
theorem twS_T {w n : Int} {g : Int → Int} {c e : Int} (h : twS w n g c e) : soT w n g c = soT w n g e := by
  rw [soT_F, soT_F, sum5_0, sum5_0, h 0 (by decide) (by decide), h 1 (by decide) (by decide), h 2 (by decide) (by decide), h 3 (by decide) (by decide), h 4 (by decide) (by decide)]
theorem twS_a {w n : Int} {g : Int → Int} {c e : Int} (h : twS w n g c e) (l b k : Int) : smV w n g l c b k = smV w n g l e b k := by
  unfold smV
  refine farV_congr (fun s x y => rfl) (fun s x y => ?_)
  unfold smF
  rw [h s x y, twS_T h]
theorem twS_b {w n : Int} {g : Int → Int} {c e : Int} (h : twS w n g c e) (l a k : Int) : smV w n g l a c k = smV w n g l a e k := by
  unfold smV
  refine farV_congr (fun s x y => rfl) (fun s x y => ?_)
  unfold smF
  rw [h s x y, twS_T h]
def vPart (w n : Int) (g : Int → Int) (l i : Int) : Int := if (0 ≤ l ∧ l < g 1) ∧ (0 ≤ i ∧ i ≤ 3) then (if i = 0 then (pdO (smV w n g l) (soT w n g) n.toNat 0 (-1, -1, -1, -1)).1 else if i = 1 then (pdO (smV w n g l) (soT w n g) n.toNat 0 (-1, -1, -1, -1)).2.1 else if i = 2 then (pdO (smV w n g l) (soT w n g) n.toNat 0 (-1, -1, -1, -1)).2.2.1 else (pdO (smV w n g l) (soT w n g) n.toNat 0 (-1, -1, -1, -1)).2.2.2) else -1

theorem U_78 {X : Int × (Int → Int)} {d : Nat} {Q : Int → XH → Prop} (hd : 0 ≤ d) (c : Int) (w n : Int) (g : Int → Int) (H : XH) (h : (xI (c - 1)) ∧ xq X d 78 Q 4 [(0, (2, 39)), (1, (0, c)), (2, (0, c - 1))] [] H) : xc X (d + 1) 78 [(2, 39), (0, c)] H Q := by
  refine ⟨rfl, ?_⟩
  show xq X d 78 Q 100000 [(0, (2, 39)), (1, (0, c))] [] H
  refine xq_run [4, 13] 300 ?_
  show (xI (c - 1)) ∧ xq X d 78 Q 4 [(0, (2, 39)), (1, (0, c)), (2, (0, c - 1))] [] H
  refine ⟨h.1, ?_⟩
  replace h := h.2
  exact h
theorem U_78_4 {X : Int × (Int → Int)} {d : Nat} {Q : Int → XH → Prop} (hd : 0 ≤ d) (v1 v2 : Int) (w n : Int) (g : Int → Int) (H : XH) (h : ((v2 < 0) → Q (-1) H) ∧ (¬ (v2 < 0) → xq X d 78 Q 13 [(0, (2, 39)), (1, (0, v1)), (2, (0, v2)), (3, (0, 0)), (4, (0, 0))] [] H)) : xq X d 78 Q 4 [(0, (2, 39)), (1, (0, v1)), (2, (0, v2))] [] H := by
  show xq X d 78 Q 4 [(0, (2, 39)), (1, (0, v1)), (2, (0, v2))] [] H
  refine xq_run [4, 13] 300 ?_
  show ((v2 < 0) → xfR 0 (-1) ∧ xKZ = xKZ ∧ Q (-1) H) ∧ (¬ (v2 < 0) → xq X d 78 Q 13 [(0, (2, 39)), (1, (0, v1)), (2, (0, v2)), (3, (0, 0)), (4, (0, 0))] [] H)
  refine ⟨fun k_ => ?_, fun k_ => ?_⟩
  · replace h := h.1 k_
    exact ⟨trivial, rfl, h⟩
  · replace h := h.2 k_
    exact h
theorem U_78_13 {X : Int × (Int → Int)} {d : Nat} {Q : Int → XH → Prop} (hd : 0 ≤ d) (v1 v2 v3 v4 : Int) (w n : Int) (g : Int → Int) (H : XH) (h : ((5 ≤ v4) → ((¬ v3 = 5) → (xI (v2 + (-1))) ∧ xq X d 78 Q 4 [(0, (2, 39)), (1, (0, v1)), (2, (0, v2 + (-1)))] [] H) ∧ (¬ (¬ v3 = 5) → Q v2 H)) ∧ (¬ (5 ≤ v4) → (xI (v2 * 5)) ∧ (xI ((v2 * 5) + v4)) ∧ ((0 : Int) ≤ (v2 * 5) + v4 ∧ ((v2 * 5) + v4 : Int) < 320) ∧ (xI (v1 * 5)) ∧ (xI ((v1 * 5) + v4)) ∧ ((0 : Int) ≤ (v1 * 5) + v4 ∧ ((v1 * 5) + v4 : Int) < 320) ∧ ((¬ H 40 ((v2 * 5) + v4) = H 40 ((v1 * 5) + v4)) → (xI (v4 + 1)) ∧ xq X d 78 Q 13 [(0, (2, 39)), (1, (0, v1)), (2, (0, v2)), (3, (0, v3)), (4, (0, v4 + 1))] [] H) ∧ (¬ (¬ H 40 ((v2 * 5) + v4) = H 40 ((v1 * 5) + v4)) → (xI (v3 + 1)) ∧ (xI (v4 + 1)) ∧ xq X d 78 Q 13 [(0, (2, 39)), (1, (0, v1)), (2, (0, v2)), (3, (0, v3 + 1)), (4, (0, v4 + 1))] [] H))) : xq X d 78 Q 13 [(0, (2, 39)), (1, (0, v1)), (2, (0, v2)), (3, (0, v3)), (4, (0, v4))] [] H := by
  show xq X d 78 Q 13 [(0, (2, 39)), (1, (0, v1)), (2, (0, v2)), (3, (0, v3)), (4, (0, v4))] [] H
  refine xq_run [4, 13] 300 ?_
  show ((5 ≤ v4) → ((¬ v3 = 5) → (xI (v2 + (-1))) ∧ xq X d 78 Q 4 [(0, (2, 39)), (1, (0, v1)), (2, (0, v2 + (-1)))] [] H) ∧ (¬ (¬ v3 = 5) → xfR 0 v2 ∧ xKZ = xKZ ∧ Q v2 H)) ∧ (¬ (5 ≤ v4) → (xI (v2 * 5)) ∧ (xI ((v2 * 5) + v4)) ∧ ((0 : Int) ≤ (v2 * 5) + v4 ∧ ((v2 * 5) + v4 : Int) < 320) ∧ (xI (v1 * 5)) ∧ (xI ((v1 * 5) + v4)) ∧ ((0 : Int) ≤ (v1 * 5) + v4 ∧ ((v1 * 5) + v4 : Int) < 320) ∧ ((¬ H 40 ((v2 * 5) + v4) = H 40 ((v1 * 5) + v4)) → (xI (v4 + 1)) ∧ xq X d 78 Q 13 [(0, (2, 39)), (1, (0, v1)), (2, (0, v2)), (3, (0, v3)), (4, (0, v4 + 1))] [] H) ∧ (¬ (¬ H 40 ((v2 * 5) + v4) = H 40 ((v1 * 5) + v4)) → (xI (v3 + 1)) ∧ (xI (v4 + 1)) ∧ xq X d 78 Q 13 [(0, (2, 39)), (1, (0, v1)), (2, (0, v2)), (3, (0, v3 + 1)), (4, (0, v4 + 1))] [] H))
  refine ⟨fun k_ => ?_, fun k_ => ?_⟩
  · replace h := h.1 k_
    refine ⟨fun k_ => ?_, fun k_ => ?_⟩
    · replace h := h.1 k_
      refine ⟨h.1, ?_⟩
      replace h := h.2
      exact h
    · replace h := h.2 k_
      exact ⟨trivial, rfl, h⟩
  · replace h := h.2 k_
    refine ⟨h.1, ?_⟩
    replace h := h.2
    refine ⟨h.1, ?_⟩
    replace h := h.2
    refine ⟨h.1, ?_⟩
    replace h := h.2
    refine ⟨h.1, ?_⟩
    replace h := h.2
    refine ⟨h.1, ?_⟩
    replace h := h.2
    refine ⟨h.1, ?_⟩
    replace h := h.2
    refine ⟨fun k_ => ?_, fun k_ => ?_⟩
    · replace h := h.1 k_
      refine ⟨h.1, ?_⟩
      replace h := h.2
      exact h
    · replace h := h.2 k_
      refine ⟨h.1, ?_⟩
      replace h := h.2
      refine ⟨h.1, ?_⟩
      replace h := h.2
      exact h

theorem s_78 {X : Int × (Int → Int)} {d : Nat} {Q : Int → XH → Prop} (hd : 2 ≤ d) (w n : Int) (g : Int → Int) (c : Int) (H : XH) (hk : lkA w n g H) (pc : 0 ≤ c ∧ c < n) (hQ : ∀ t : Int, twP w n g c t ∧ -1 ≤ t → Q t H) : xc X d 78 [(2, 39), (0, c)] H Q := by
  cases d with
  | zero => omega
  | succ d =>
  obtain ⟨hg, e6, e7, e8, hk2⟩ := id hk
  have nn := hg.nn
  have ww := hg.ww
  have lyb := hg.lyb
  have bnd := hg.bnd
  have hS : ∀ e, 0 ≤ e → e < n → ∀ s, 0 ≤ s → s < 5 → H 40 (e * 5 + s) = soF w n g e s := fun e a b => (hk2 e a b).2.1
  have key : ∀ (k : Nat) (e : Int), e + 1 = k → e < c → (∀ x, e < x → x < c → ¬ twS w n g x c) → xq X d 78 Q 4 [(0, (2, 39)), (1, (0, c)), (2, (0, e))] [] H := by
    intro k
    induction k with
    | zero =>
      intro e he hec hno
      refine U_78_4 (by omega) c e w n g H ?_
      refine ⟨fun c1 => ?_, fun c1 => ?_⟩
      · skip
        exact hQ _ ⟨Or.inl ⟨rfl, fun x a b => hno x (by omega) b⟩, by decide⟩
      · skip
        exfalso
        omega
    | succ k ih =>
      intro e he hec hno
      have inner : ∀ (m : Nat) (s v : Int), s + m = 5 → 0 ≤ s → 0 ≤ v → v ≤ s → (v = s → ∀ t, 0 ≤ t → t < s → soF w n g e t = soF w n g c t) → (¬ v = s → ¬ twS w n g e c) → xq X d 78 Q 13 [(0, (2, 39)), (1, (0, c)), (2, (0, e)), (3, (0, v)), (4, (0, s))] [] H := by
        intro m
        induction m with
        | zero =>
          intro s v hs s0 v0 vs hy hn
          refine U_78_13 (by omega) c e v s w n g H ?_
          refine ⟨fun c1 => ?_, fun c1 => ?_⟩
          · skip
            refine ⟨fun c2 => ?_, fun c2 => ?_⟩
            · skip
              refine ⟨?_, ?_⟩
              · first | omega | (unfold xI; omega) | (exfalso; omega)
              refine ih (e + (-1)) (by omega) (by omega) (fun x a b => ?_)
              by_cases q : x = e
              · rw [q]
                exact hn (by omega)
              · exact hno x (by omega) b
            · skip
              exact hQ _ ⟨Or.inr ⟨⟨by omega, hec⟩, fun t a b => hy (by omega) t a (by omega), hno⟩, by omega⟩
          · skip
            refine ⟨?_, ?_⟩
            · first | omega | (unfold xI; omega) | (exfalso; omega)
            refine ⟨?_, ?_⟩
            · first | omega | (unfold xI; omega) | (exfalso; omega)
            refine ⟨?_, ?_⟩
            · first | omega | (unfold xI; omega) | (exfalso; omega)
            refine ⟨?_, ?_⟩
            · first | omega | (unfold xI; omega) | (exfalso; omega)
            refine ⟨?_, ?_⟩
            · first | omega | (unfold xI; omega) | (exfalso; omega)
            refine ⟨?_, ?_⟩
            · first | omega | (unfold xI; omega) | (exfalso; omega)
            refine ⟨fun c3 => ?_, fun c3 => ?_⟩
            · skip
              refine ⟨?_, ?_⟩
              · first | omega | (unfold xI; omega) | (exfalso; omega)
              exfalso
              omega
            · skip
              refine ⟨?_, ?_⟩
              · first | omega | (unfold xI; omega) | (exfalso; omega)
              refine ⟨?_, ?_⟩
              · first | omega | (unfold xI; omega) | (exfalso; omega)
              exfalso
              omega
        | succ m ihm =>
          intro s v hs s0 v0 vs hy hn
          have h1 := hS e (by omega) (by omega) s s0 (by omega)
          have h2 := hS c pc.1 pc.2 s s0 (by omega)
          refine U_78_13 (by omega) c e v s w n g H ?_
          refine ⟨fun c1 => ?_, fun c1 => ?_⟩
          · skip
            refine ⟨fun c2 => ?_, fun c2 => ?_⟩
            · skip
              refine ⟨?_, ?_⟩
              · first | omega | (unfold xI; omega) | (exfalso; omega)
              exfalso
              omega
            · skip
              exfalso
              omega
          · skip
            refine ⟨?_, ?_⟩
            · first | omega | (unfold xI; omega) | (exfalso; omega)
            refine ⟨?_, ?_⟩
            · first | omega | (unfold xI; omega) | (exfalso; omega)
            refine ⟨?_, ?_⟩
            · first | omega | (unfold xI; omega) | (exfalso; omega)
            refine ⟨?_, ?_⟩
            · first | omega | (unfold xI; omega) | (exfalso; omega)
            refine ⟨?_, ?_⟩
            · first | omega | (unfold xI; omega) | (exfalso; omega)
            refine ⟨?_, ?_⟩
            · first | omega | (unfold xI; omega) | (exfalso; omega)
            refine ⟨fun c3 => ?_, fun c3 => ?_⟩
            · skip
              refine ⟨?_, ?_⟩
              · first | omega | (unfold xI; omega) | (exfalso; omega)
              refine ihm (s + 1) v (by omega) (by omega) v0 (by omega) (fun q => by omega) (fun _ q => ?_)
              have := q s s0 (by omega)
              omega
            · skip
              refine ⟨?_, ?_⟩
              · first | omega | (unfold xI; omega) | (exfalso; omega)
              refine ⟨?_, ?_⟩
              · first | omega | (unfold xI; omega) | (exfalso; omega)
              refine ihm (s + 1) (v + 1) (by omega) (by omega) (by omega) (by omega) (fun q t a b => ?_) (fun q => hn (by omega))
              by_cases z : t = s
              · rw [z]
                omega
              · exact hy (by omega) t a (by omega)
      refine U_78_4 (by omega) c e w n g H ?_
      refine ⟨fun c1 => ?_, fun c1 => ?_⟩
      · skip
        exfalso
        omega
      · skip
        exact inner 5 0 0 (by decide) (by decide) (by decide) (by decide) (fun _ t a b => by omega) (fun q => absurd rfl q)
  refine U_78 (by omega) c w n g H ?_
  refine ⟨?_, ?_⟩
  · first | omega | (unfold xI; omega)
  exact key c.toNat (c - 1) (by omega) (by omega) (fun x a b => by omega)

theorem U_79_o7 {X : Int × (Int → Int)} {d : Nat} {Q : Int → XH → Prop} (hd : 1 ≤ d) (l : Int) (H : XH) (h : ((((0 ≤ l ∧ l < H 7 1)) → (xI (l * 5)) ∧ (0 ≤ l * 5 ∧ (l * 5) + 5 ≤ 40) ∧ ((40 : Int) ≤ 100000) ∧ (∀ s, 0 ≤ s → s < 5 → 0 ≤ H 8 ((l * 5) + s) ∧ H 8 ((l * 5) + s) ≤ 100000) ∧ (Q (sum5 (H 8) (l * 5)) H)) ∧ (¬ ((0 ≤ l ∧ l < H 7 1)) → Q 0 H))) : xc X (d + 1) 79 [(2, 7), (0, l)] H Q := by
  refine ⟨rfl, ?_⟩
  show xq X d 79 Q 100000 [(0, (2, 7)), (1, (0, l))] [] H
  refine xq_run [5, 18] 300 ?_
  show xWM (xE X) xMC d 49 [(2, 7), (0, l)] xKZ H _
  refine xc_in (s_49_o7 (by omega) l H  ?_)
  replace h := h
  show xq X d 79 Q 5 [(0, (2, 7)), (1, (0, l))] [(0, xb (0 ≤ l ∧ l < H 7 1))] H
  refine xq_run [5, 18] 300 ?_
  show ((xb (0 ≤ l ∧ l < H 7 1) = 0) → xfR 0 0 ∧ xKZ = xKZ ∧ Q 0 H) ∧ (¬ (xb (0 ≤ l ∧ l < H 7 1) = 0) → (xI (l * 5)) ∧ xWM (xE X) xMC d 36 [(2, 8), (0, l * 5)] xKZ H _)
  refine ⟨fun k_ => ?_, fun k_ => ?_⟩
  · replace h := h.2 (xbe_0.mp k_)
    exact ⟨trivial, rfl, h⟩
  · replace h := h.1 (xbe_1.mp k_)
    refine ⟨h.1, ?_⟩
    replace h := h.2
    refine xc_in (s_36 (by omega) 8 (l * 5) H 40 rfl rfl (h.1) (h.2.1) (h.2.2.1) ?_)
    replace h := h.2.2.2
    show xq X d 79 Q 18 [(0, (2, 7)), (1, (0, l))] [(0, sum5 (H 8) (l * 5))] H
    refine xq_run [5, 18] 300 ?_
    show xfR 0 (sum5 (H 8) (l * 5)) ∧ xKZ = xKZ ∧ Q (sum5 (H 8) (l * 5)) H
    exact ⟨trivial, rfl, h⟩

theorem s_79_o7 {X : Int × (Int → Int)} {d : Nat} {Q : Int → XH → Prop} (hd : 3 ≤ d) (l : Int) (H : XH) (p0 : 0 ≤ H 7 1 ∧ H 7 1 ≤ 8) (p1 : ∀ k, 0 ≤ k → k < 5 * H 7 1 → 0 ≤ H 8 k ∧ H 8 k ≤ 100000) (hQ : Q (if 0 ≤ l ∧ l < H 7 1 then sum5 (H 8) (l * 5) else 0) H) : xc X d 79 [(2, 7), (0, l)] H Q := by
  cases d with
  | zero => omega
  | succ d =>
  refine U_79_o7 (by omega) l H ?_
  refine ⟨fun c1 => ?_, fun c1 => ?_⟩
  · skip
    refine ⟨?_, ?_⟩
    · first | omega | (intro s a b; have z := p1 (l * 5 + s) (by omega) (by omega); exact z) | (unfold xI; omega)
    refine ⟨?_, ?_⟩
    · first | omega | (intro s a b; have z := p1 (l * 5 + s) (by omega) (by omega); exact z) | (unfold xI; omega)
    refine ⟨?_, ?_⟩
    · first | omega | (intro s a b; have z := p1 (l * 5 + s) (by omega) (by omega); exact z) | (unfold xI; omega)
    refine ⟨?_, ?_⟩
    · first | omega | (intro s a b; have z := p1 (l * 5 + s) (by omega) (by omega); exact z) | (unfold xI; omega)
    first | (rw [if_pos (by omega)] at hQ; exact hQ) | (rw [if_neg (by omega)] at hQ; exact hQ)
  · skip
    first | (rw [if_pos (by omega)] at hQ; exact hQ) | (rw [if_neg (by omega)] at hQ; exact hQ)

theorem U_79_o59 {X : Int × (Int → Int)} {d : Nat} {Q : Int → XH → Prop} (hd : 1 ≤ d) (l : Int) (H : XH) (h : ((((0 ≤ l ∧ l < H 59 1)) → (xI (l * 5)) ∧ (0 ≤ l * 5 ∧ (l * 5) + 5 ≤ 40) ∧ ((40 : Int) ≤ 100000) ∧ (∀ s, 0 ≤ s → s < 5 → 0 ≤ H 60 ((l * 5) + s) ∧ H 60 ((l * 5) + s) ≤ 100000) ∧ (Q (sum5 (H 60) (l * 5)) H)) ∧ (¬ ((0 ≤ l ∧ l < H 59 1)) → Q 0 H))) : xc X (d + 1) 79 [(2, 59), (0, l)] H Q := by
  refine ⟨rfl, ?_⟩
  show xq X d 79 Q 100000 [(0, (2, 59)), (1, (0, l))] [] H
  refine xq_run [5, 18] 300 ?_
  show xWM (xE X) xMC d 49 [(2, 59), (0, l)] xKZ H _
  refine xc_in (s_49_o59 (by omega) l H  ?_)
  replace h := h
  show xq X d 79 Q 5 [(0, (2, 59)), (1, (0, l))] [(0, xb (0 ≤ l ∧ l < H 59 1))] H
  refine xq_run [5, 18] 300 ?_
  show ((xb (0 ≤ l ∧ l < H 59 1) = 0) → xfR 0 0 ∧ xKZ = xKZ ∧ Q 0 H) ∧ (¬ (xb (0 ≤ l ∧ l < H 59 1) = 0) → (xI (l * 5)) ∧ xWM (xE X) xMC d 36 [(2, 60), (0, l * 5)] xKZ H _)
  refine ⟨fun k_ => ?_, fun k_ => ?_⟩
  · replace h := h.2 (xbe_0.mp k_)
    exact ⟨trivial, rfl, h⟩
  · replace h := h.1 (xbe_1.mp k_)
    refine ⟨h.1, ?_⟩
    replace h := h.2
    refine xc_in (s_36 (by omega) 60 (l * 5) H 40 rfl rfl (h.1) (h.2.1) (h.2.2.1) ?_)
    replace h := h.2.2.2
    show xq X d 79 Q 18 [(0, (2, 59)), (1, (0, l))] [(0, sum5 (H 60) (l * 5))] H
    refine xq_run [5, 18] 300 ?_
    show xfR 0 (sum5 (H 60) (l * 5)) ∧ xKZ = xKZ ∧ Q (sum5 (H 60) (l * 5)) H
    exact ⟨trivial, rfl, h⟩

theorem s_79_o59 {X : Int × (Int → Int)} {d : Nat} {Q : Int → XH → Prop} (hd : 3 ≤ d) (l : Int) (H : XH) (p0 : 0 ≤ H 59 1 ∧ H 59 1 ≤ 8) (p1 : ∀ k, 0 ≤ k → k < 5 * H 59 1 → 0 ≤ H 60 k ∧ H 60 k ≤ 100000) (hQ : Q (if 0 ≤ l ∧ l < H 59 1 then sum5 (H 60) (l * 5) else 0) H) : xc X d 79 [(2, 59), (0, l)] H Q := by
  cases d with
  | zero => omega
  | succ d =>
  refine U_79_o59 (by omega) l H ?_
  refine ⟨fun c1 => ?_, fun c1 => ?_⟩
  · skip
    refine ⟨?_, ?_⟩
    · first | omega | (intro s a b; have z := p1 (l * 5 + s) (by omega) (by omega); exact z) | (unfold xI; omega)
    refine ⟨?_, ?_⟩
    · first | omega | (intro s a b; have z := p1 (l * 5 + s) (by omega) (by omega); exact z) | (unfold xI; omega)
    refine ⟨?_, ?_⟩
    · first | omega | (intro s a b; have z := p1 (l * 5 + s) (by omega) (by omega); exact z) | (unfold xI; omega)
    refine ⟨?_, ?_⟩
    · first | omega | (intro s a b; have z := p1 (l * 5 + s) (by omega) (by omega); exact z) | (unfold xI; omega)
    first | (rw [if_pos (by omega)] at hQ; exact hQ) | (rw [if_neg (by omega)] at hQ; exact hQ)
  · skip
    first | (rw [if_pos (by omega)] at hQ; exact hQ) | (rw [if_neg (by omega)] at hQ; exact hQ)

theorem U_81 {X : Int × (Int → Int)} {d : Nat} {Q : Int → XH → Prop} (hd : 3 ≤ d) (l a b k : Int) (w n : Int) (g : Int → Int) (H : XH) (h : ((0 : Int) ≤ a ∧ (a : Int) < 64) ∧ ((0 : Int) ≤ b ∧ (b : Int) < 64) ∧ (xJ (10 * (H 41 a))) ∧ (xJ ((10 * (H 41 a)) * (H 41 b))) ∧ (0 ≤ H 7 1 ∧ H 7 1 ≤ 8) ∧ (∀ k, 0 ≤ k → k < 5 * H 7 1 → 0 ≤ H 8 k ∧ H 8 k ≤ 100000) ∧ ((((10 * (H 41 a)) * (H 41 b) < 1) → Q 1000 H) ∧ (¬ ((10 * (H 41 a)) * (H 41 b) < 1) → ((1 ≤ if 0 ≤ l ∧ l < H 7 1 then sum5 (H 8) (l * 5) else 0) → xq X d 81 Q 62 [(0, (2, 39)), (1, (2, 7)), (2, (0, l)), (3, (0, a)), (4, (0, b)), (5, (0, k)), (6, (1, H 41 a)), (8, (1, H 41 b)), (10, (1, (10 * (H 41 a)) * (H 41 b))), (12, (1, if 0 ≤ l ∧ l < H 7 1 then sum5 (H 8) (l * 5) else 0)), (14, (1, 0)), (16, (0, 0))] [] H) ∧ (¬ (1 ≤ if 0 ≤ l ∧ l < H 7 1 then sum5 (H 8) (l * 5) else 0) → Q 1000 H)))) : xc X (d + 1) 81 [(2, 39), (2, 7), (0, l), (0, a), (0, b), (0, k)] H Q := by
  refine ⟨rfl, ?_⟩
  show xq X d 81 Q 100000 [(0, (2, 39)), (1, (2, 7)), (2, (0, l)), (3, (0, a)), (4, (0, b)), (5, (0, k))] [] H
  refine xq_run [35, 62, 121, 137] 300 ?_
  show ((0 : Int) ≤ a ∧ (a : Int) < 64) ∧ ((0 : Int) ≤ b ∧ (b : Int) < 64) ∧ (xJ (10 * (H 41 a))) ∧ (xJ ((10 * (H 41 a)) * (H 41 b))) ∧ xWM (xE X) xMC d 79 [(2, 7), (0, l)] xKZ H _
  refine ⟨h.1, ?_⟩
  replace h := h.2
  refine ⟨h.1, ?_⟩
  replace h := h.2
  refine ⟨h.1, ?_⟩
  replace h := h.2
  refine ⟨h.1, ?_⟩
  replace h := h.2
  refine xc_in (s_79_o7 (by omega) l H (h.1) (h.2.1) ?_)
  replace h := h.2.2
  show xq X d 81 Q 35 [(10, (1, (10 * (H 41 a)) * (H 41 b))), (8, (1, H 41 b)), (6, (1, H 41 a)), (0, (2, 39)), (1, (2, 7)), (2, (0, l)), (3, (0, a)), (4, (0, b)), (5, (0, k))] [(0, if 0 ≤ l ∧ l < H 7 1 then sum5 (H 8) (l * 5) else 0)] H
  refine xq_run [35, 62, 121, 137] 300 ?_
  show ((xcmp ((10 * (H 41 a)) * (H 41 b)) 1 < 0) → xfR 0 1000 ∧ xKZ = xKZ ∧ Q 1000 H) ∧ (¬ (xcmp ((10 * (H 41 a)) * (H 41 b)) 1 < 0) → ((0 ≤ xcmp (if 0 ≤ l ∧ l < H 7 1 then sum5 (H 8) (l * 5) else 0) 1) → xq X d 81 Q 62 [(0, (2, 39)), (1, (2, 7)), (2, (0, l)), (3, (0, a)), (4, (0, b)), (5, (0, k)), (6, (1, H 41 a)), (8, (1, H 41 b)), (10, (1, (10 * (H 41 a)) * (H 41 b))), (12, (1, if 0 ≤ l ∧ l < H 7 1 then sum5 (H 8) (l * 5) else 0)), (14, (1, 0)), (16, (0, 0))] [] H) ∧ (¬ (0 ≤ xcmp (if 0 ≤ l ∧ l < H 7 1 then sum5 (H 8) (l * 5) else 0) 1) → xfR 0 1000 ∧ xKZ = xKZ ∧ Q 1000 H))
  refine ⟨fun k_ => ?_, fun k_ => ?_⟩
  · replace h := h.1 (xcmp_lt.mp k_)
    exact ⟨trivial, rfl, h⟩
  · replace h := h.2 (fun q => k_ (xcmp_lt.mpr q))
    refine ⟨fun k_ => ?_, fun k_ => ?_⟩
    · replace h := h.1 (xcmp_ge.mp k_)
      exact h
    · replace h := h.2 (fun q => k_ (xcmp_ge.mpr q))
      exact ⟨trivial, rfl, h⟩
theorem U_81_62 {X : Int × (Int → Int)} {d : Nat} {Q : Int → XH → Prop} (hd : 2 ≤ d) (v2 v3 v4 v5 v6 v8 v10 v12 v14 v16 : Int) (w n : Int) (g : Int → Int) (H : XH) (h : ((5 ≤ v16) → (xJ (1000 * v14)) ∧ (xJ (2 * v12)) ∧ (xJ ((2 * v12) * v10)) ∧ (¬ (2 * v12) * v10 = 0 ∧ xJ (Int.tdiv (1000 * v14) ((2 * v12) * v10))) ∧ Q (xl2i (Int.tdiv (1000 * v14) ((2 * v12) * v10))) H) ∧ (¬ (5 ≤ v16) → (xI (v3 * 5)) ∧ (xI ((v3 * 5) + v16)) ∧ ((0 : Int) ≤ (v3 * 5) + v16 ∧ ((v3 * 5) + v16 : Int) < 320) ∧ (xI (v5 * (H 40 ((v3 * 5) + v16)))) ∧ (xJ ((v5 * (H 40 ((v3 * 5) + v16))) * v8)) ∧ (xI (10 - v5)) ∧ (xI (v4 * 5)) ∧ (xI ((v4 * 5) + v16)) ∧ ((0 : Int) ≤ (v4 * 5) + v16 ∧ ((v4 * 5) + v16 : Int) < 320) ∧ (xI ((10 - v5) * (H 40 ((v4 * 5) + v16)))) ∧ (xJ (((10 - v5) * (H 40 ((v4 * 5) + v16))) * v6)) ∧ (0 ≤ v2 ∧ v2 < H 7 1) ∧ (0 ≤ v16 ∧ v16 < 5) ∧ (H 7 1 ≤ 8) ∧ ((xJ ((H 8 (v2 * 5 + v16)) * v10)) ∧ (xJ (((v5 * (H 40 ((v3 * 5) + v16))) * v8) + (((10 - v5) * (H 40 ((v4 * 5) + v16))) * v6))) ∧ (xJ ((((v5 * (H 40 ((v3 * 5) + v16))) * v8) + (((10 - v5) * (H 40 ((v4 * 5) + v16))) * v6)) * v12)) ∧ (xJ (((H 8 (v2 * 5 + v16)) * v10) - ((((v5 * (H 40 ((v3 * 5) + v16))) * v8) + (((10 - v5) * (H 40 ((v4 * 5) + v16))) * v6)) * v12))) ∧ (xJ (-(((H 8 (v2 * 5 + v16)) * v10) - ((((v5 * (H 40 ((v3 * 5) + v16))) * v8) + (((10 - v5) * (H 40 ((v4 * 5) + v16))) * v6)) * v12)))) ∧ ((xJ (v14 + (iabs (((H 8 (v2 * 5 + v16)) * v10) - ((((v5 * (H 40 ((v3 * 5) + v16))) * v8) + (((10 - v5) * (H 40 ((v4 * 5) + v16))) * v6)) * v12))))) ∧ (xI (v16 + 1)) ∧ xq X d 81 Q 62 [(0, (2, 39)), (1, (2, 7)), (2, (0, v2)), (3, (0, v3)), (4, (0, v4)), (5, (0, v5)), (6, (1, v6)), (8, (1, v8)), (10, (1, v10)), (12, (1, v12)), (14, (1, v14 + (iabs (((H 8 (v2 * 5 + v16)) * v10) - ((((v5 * (H 40 ((v3 * 5) + v16))) * v8) + (((10 - v5) * (H 40 ((v4 * 5) + v16))) * v6)) * v12))))), (16, (0, v16 + 1))] [] H)))) : xq X d 81 Q 62 [(0, (2, 39)), (1, (2, 7)), (2, (0, v2)), (3, (0, v3)), (4, (0, v4)), (5, (0, v5)), (6, (1, v6)), (8, (1, v8)), (10, (1, v10)), (12, (1, v12)), (14, (1, v14)), (16, (0, v16))] [] H := by
  show xq X d 81 Q 62 [(0, (2, 39)), (1, (2, 7)), (2, (0, v2)), (3, (0, v3)), (4, (0, v4)), (5, (0, v5)), (6, (1, v6)), (8, (1, v8)), (10, (1, v10)), (12, (1, v12)), (14, (1, v14)), (16, (0, v16))] [] H
  refine xq_run [35, 62, 121, 137] 300 ?_
  show ((5 ≤ v16) → (xJ (1000 * v14)) ∧ (xJ (2 * v12)) ∧ (xJ ((2 * v12) * v10)) ∧ (¬ (2 * v12) * v10 = 0 ∧ xJ (Int.tdiv (1000 * v14) ((2 * v12) * v10))) ∧ xfR 0 (xl2i (Int.tdiv (1000 * v14) ((2 * v12) * v10))) ∧ xKZ = xKZ ∧ Q (xl2i (Int.tdiv (1000 * v14) ((2 * v12) * v10))) H) ∧ (¬ (5 ≤ v16) → (xI (v3 * 5)) ∧ (xI ((v3 * 5) + v16)) ∧ ((0 : Int) ≤ (v3 * 5) + v16 ∧ ((v3 * 5) + v16 : Int) < 320) ∧ (xI (v5 * (H 40 ((v3 * 5) + v16)))) ∧ (xJ ((v5 * (H 40 ((v3 * 5) + v16))) * v8)) ∧ (xI (10 - v5)) ∧ (xI (v4 * 5)) ∧ (xI ((v4 * 5) + v16)) ∧ ((0 : Int) ≤ (v4 * 5) + v16 ∧ ((v4 * 5) + v16 : Int) < 320) ∧ (xI ((10 - v5) * (H 40 ((v4 * 5) + v16)))) ∧ (xJ (((10 - v5) * (H 40 ((v4 * 5) + v16))) * v6)) ∧ xWM (xE X) xMC d 80 [(2, 7), (0, v2), (0, v16)] xKZ H _)
  refine ⟨fun k_ => ?_, fun k_ => ?_⟩
  · replace h := h.1 k_
    refine ⟨h.1, ?_⟩
    replace h := h.2
    refine ⟨h.1, ?_⟩
    replace h := h.2
    refine ⟨h.1, ?_⟩
    replace h := h.2
    refine ⟨h.1, ?_⟩
    replace h := h.2
    exact ⟨trivial, rfl, h⟩
  · replace h := h.2 k_
    refine ⟨h.1, ?_⟩
    replace h := h.2
    refine ⟨h.1, ?_⟩
    replace h := h.2
    refine ⟨h.1, ?_⟩
    replace h := h.2
    refine ⟨h.1, ?_⟩
    replace h := h.2
    refine ⟨h.1, ?_⟩
    replace h := h.2
    refine ⟨h.1, ?_⟩
    replace h := h.2
    refine ⟨h.1, ?_⟩
    replace h := h.2
    refine ⟨h.1, ?_⟩
    replace h := h.2
    refine ⟨h.1, ?_⟩
    replace h := h.2
    refine ⟨h.1, ?_⟩
    replace h := h.2
    refine ⟨h.1, ?_⟩
    replace h := h.2
    refine xc_in (s_80_o7 (by omega) v2 v16 H (h.1) (h.2.1) (h.2.2.1) ?_)
    replace h := h.2.2.2
    show xq X d 81 Q 121 [(19, (1, ((10 - v5) * (H 40 ((v4 * 5) + v16))) * v6)), (17, (1, (v5 * (H 40 ((v3 * 5) + v16))) * v8)), (0, (2, 39)), (1, (2, 7)), (2, (0, v2)), (3, (0, v3)), (4, (0, v4)), (5, (0, v5)), (6, (1, v6)), (8, (1, v8)), (10, (1, v10)), (12, (1, v12)), (14, (1, v14)), (16, (0, v16))] [(0, H 8 (v2 * 5 + v16)), (1, v14)] H
    refine xq_run [35, 62, 121, 137] 300 ?_
    show (xJ ((H 8 (v2 * 5 + v16)) * v10)) ∧ (xJ (((v5 * (H 40 ((v3 * 5) + v16))) * v8) + (((10 - v5) * (H 40 ((v4 * 5) + v16))) * v6))) ∧ (xJ ((((v5 * (H 40 ((v3 * 5) + v16))) * v8) + (((10 - v5) * (H 40 ((v4 * 5) + v16))) * v6)) * v12)) ∧ (xJ (((H 8 (v2 * 5 + v16)) * v10) - ((((v5 * (H 40 ((v3 * 5) + v16))) * v8) + (((10 - v5) * (H 40 ((v4 * 5) + v16))) * v6)) * v12))) ∧ xWM (xE X) xMC d 58 [(1, ((H 8 (v2 * 5 + v16)) * v10) - ((((v5 * (H 40 ((v3 * 5) + v16))) * v8) + (((10 - v5) * (H 40 ((v4 * 5) + v16))) * v6)) * v12))] xKZ H _
    refine ⟨h.1, ?_⟩
    replace h := h.2
    refine ⟨h.1, ?_⟩
    replace h := h.2
    refine ⟨h.1, ?_⟩
    replace h := h.2
    refine ⟨h.1, ?_⟩
    replace h := h.2
    refine xc_in (s_58 (by omega) (((H 8 (v2 * 5 + v16)) * v10) - ((((v5 * (H 40 ((v3 * 5) + v16))) * v8) + (((10 - v5) * (H 40 ((v4 * 5) + v16))) * v6)) * v12)) H (h.1) ?_)
    replace h := h.2
    show xq X d 81 Q 137 [(19, (1, ((10 - v5) * (H 40 ((v4 * 5) + v16))) * v6)), (17, (1, (v5 * (H 40 ((v3 * 5) + v16))) * v8)), (0, (2, 39)), (1, (2, 7)), (2, (0, v2)), (3, (0, v3)), (4, (0, v4)), (5, (0, v5)), (6, (1, v6)), (8, (1, v8)), (10, (1, v10)), (12, (1, v12)), (14, (1, v14)), (16, (0, v16))] [(1, iabs (((H 8 (v2 * 5 + v16)) * v10) - ((((v5 * (H 40 ((v3 * 5) + v16))) * v8) + (((10 - v5) * (H 40 ((v4 * 5) + v16))) * v6)) * v12))), (1, v14)] H
    refine xq_run [35, 62, 121, 137] 300 ?_
    show (xJ (v14 + (iabs (((H 8 (v2 * 5 + v16)) * v10) - ((((v5 * (H 40 ((v3 * 5) + v16))) * v8) + (((10 - v5) * (H 40 ((v4 * 5) + v16))) * v6)) * v12))))) ∧ (xI (v16 + 1)) ∧ xq X d 81 Q 62 [(0, (2, 39)), (1, (2, 7)), (2, (0, v2)), (3, (0, v3)), (4, (0, v4)), (5, (0, v5)), (6, (1, v6)), (8, (1, v8)), (10, (1, v10)), (12, (1, v12)), (14, (1, v14 + (iabs (((H 8 (v2 * 5 + v16)) * v10) - ((((v5 * (H 40 ((v3 * 5) + v16))) * v8) + (((10 - v5) * (H 40 ((v4 * 5) + v16))) * v6)) * v12))))), (16, (0, v16 + 1))] [] H
    refine ⟨h.1, ?_⟩
    replace h := h.2
    refine ⟨h.1, ?_⟩
    replace h := h.2
    exact h

/-- the boot's layers as the model's row says them -/
def btA (g : Int → Int) (H : XH) : Prop := H 7 1 = g 1 ∧ ∀ k, 0 ≤ k → k < 5 * g 1 → H 8 k = g (560 + k)

theorem s_81 {X : Int × (Int → Int)} {d : Nat} {Q : Int → XH → Prop} (hd : 5 ≤ d) (w n : Int) (g : Int → Int) (l a b k : Int) (H : XH) (hk : lkA w n g H) (hb : btA g H) (pl : 0 ≤ l ∧ l < g 1) (pa : 0 ≤ a ∧ a < n) (pb : 0 ≤ b ∧ b < n) (pk : 1 ≤ k ∧ k ≤ 9) (ta : 0 < soT w n g a) (tb : 0 < soT w n g b) (hQ : Q (smV w n g l a b k) H) : xc X d 81 [(2, 39), (2, 7), (0, l), (0, a), (0, b), (0, k)] H Q := by
  cases d with
  | zero => omega
  | succ d =>
  obtain ⟨hg, e6, e7, e8, hk2⟩ := id hk
  have nn := hg.nn
  have ww := hg.ww
  have lyb := hg.lyb
  have bnd := hg.bnd
  obtain ⟨hb1, hb2⟩ := hb
  have hA : ∀ s, 0 ≤ s → s < 5 → H 8 (l * 5 + s) = g (560 + 5 * l + s) := fun s x y => by
    rw [hb2 (l * 5 + s) (by omega) (by omega)]
    congr 1
    omega
  have hAr : ∀ s, 0 ≤ s → s < 5 → 0 ≤ H 8 (l * 5 + s) ∧ H 8 (l * 5 + s) ≤ 99 := fun s x y => by
    have z := hg.lya (5 * l + s) (by omega) (by omega)
    rw [hA s x y]
    rw [← Int.add_assoc] at z
    exact z
  have eM : sum5 (H 8) (l * 5) = sum5 (fun s => g (560 + 5 * l + s)) 0 := by
    rw [← sum5_at, sum5_0, sum5_0, hA 0 (by decide) (by decide), hA 1 (by decide) (by decide), hA 2 (by decide) (by decide), hA 3 (by decide) (by decide), hA 4 (by decide) (by decide)]
  have rM := sum5_rng (f := H 8) (i := l * 5) (M := 99) hAr
  have pM : 1 ≤ sum5 (H 8) (l * 5) := by
    have z := hg.lys l pl.1 pl.2
    rw [eM]
    rw [sum5_0]
    unfold sum5 at z
    dsimp only at z
    simp only [← Int.add_assoc] at z
    rw [Int.add_zero]
    omega
  have hTa := (hk2 a pa.1 pa.2).1
  have hTb := (hk2 b pb.1 pb.2).1
  have hSa := (hk2 a pa.1 pa.2).2.1
  have hSb := (hk2 b pb.1 pb.2).2.1
  have rTa := soT_rng hg a
  have rTb := soT_rng hg b
  have sm := fun s x y => smF_rng hg (a := a) (b := b) (k := k) (s := s) pk ⟨x, y⟩
  have eS := smF_sum w n g a b k
  have rT10 := mulB (x := 10 * soT w n g a) (y := soT w n g b) (A := 28800) (B := 2880) (by omega) (by omega)
  have pT10 : 1 ≤ 10 * soT w n g a * soT w n g b := by
    have := Int.mul_le_mul (a := 1) (b := 1) (c := 10 * soT w n g a) (d := soT w n g b) (by omega) (by omega) (by omega) (by omega)
    omega
  unfold smV farV at hQ
  rw [eS, ← eM, if_neg (by omega)] at hQ
  obtain ⟨M, hM⟩ : ∃ M, sum5 (H 8) (l * 5) = M := ⟨_, rfl⟩
  rw [hM] at hQ pM rM
  have ms := mulB (x := M) (y := 10 * soT w n g a * soT w n g b) (A := 495) (B := 82944000) (by omega) (by omega)
  have ms1 : 1 ≤ M * (10 * soT w n g a * soT w n g b) := by
    have := Int.mul_le_mul (a := 1) (b := 1) (c := M) (d := 10 * soT w n g a * soT w n g b) (by omega) (by omega) (by omega) (by omega)
    omega
  have b1 := fun (s : Int) (p : 0 ≤ s) (q : s < 5) => And.intro (mulB (x := H 8 (l * 5 + s)) (y := 10 * soT w n g a * soT w n g b) (A := 99) (B := 82944000) (hAr s p q) (by omega)) (mulB (x := smF w n g a b k s) (y := M) (A := 16588800) (B := 495) (sm s p q).2.2 (by omega))
  have s2 : ∀ o s, 0 ≤ s → s < 5 → (0 ≤ o ∧ o ≤ 80000000000) → xq X d 81 Q 62 [(0, (2, 39)), (1, (2, 7)), (2, (0, l)), (3, (0, a)), (4, (0, b)), (5, (0, k)), (6, (1, soT w n g a)), (8, (1, soT w n g b)), (10, (1, 10 * soT w n g a * soT w n g b)), (12, (1, M)), (14, (1, o + iabs (H 8 (l * 5 + s) * (10 * soT w n g a * soT w n g b) - smF w n g a b k s * M))), (16, (0, s + 1))] [] H → xq X d 81 Q 62 [(0, (2, 39)), (1, (2, 7)), (2, (0, l)), (3, (0, a)), (4, (0, b)), (5, (0, k)), (6, (1, soT w n g a)), (8, (1, soT w n g b)), (10, (1, 10 * soT w n g a * soT w n g b)), (12, (1, M)), (14, (1, o)), (16, (0, s))] [] H := by
    intro o s h0 h5 ho hq
    obtain ⟨h1, h2⟩ := b1 s h0 h5
    have h3 := iabs_le h1.1 h2.1
    have sms := sm s h0 h5
    unfold smF at hq h2 h3 sms
    refine U_81_62 (by omega) l a b k (soT w n g a) (soT w n g b) (10 * soT w n g a * soT w n g b) M o s w n g H ?_
    rw [hSa s h0 h5, hSb s h0 h5]
    refine ⟨fun c1 => ?_, fun c1 => ?_⟩
    · skip
      refine ⟨?_, ?_⟩
      · first | omega | (unfold xI; omega) | (unfold xJ; omega) | (exfalso; omega)
      refine ⟨?_, ?_⟩
      · first | omega | (unfold xI; omega) | (unfold xJ; omega) | (exfalso; omega)
      refine ⟨?_, ?_⟩
      · first | omega | (unfold xI; omega) | (unfold xJ; omega) | (exfalso; omega)
      refine ⟨?_, ?_⟩
      · first | omega | (unfold xI; omega) | (unfold xJ; omega) | (exfalso; omega)
      first | exact hq | (exfalso; omega)
    · skip
      refine ⟨?_, ?_⟩
      · first | omega | (unfold xI; omega) | (unfold xJ; omega) | (exfalso; omega)
      refine ⟨?_, ?_⟩
      · first | omega | (unfold xI; omega) | (unfold xJ; omega) | (exfalso; omega)
      refine ⟨?_, ?_⟩
      · first | omega | (unfold xI; omega) | (unfold xJ; omega) | (exfalso; omega)
      refine ⟨?_, ?_⟩
      · first | omega | (unfold xI; omega) | (unfold xJ; omega) | (exfalso; omega)
      refine ⟨?_, ?_⟩
      · first | omega | (unfold xI; omega) | (unfold xJ; omega) | (exfalso; omega)
      refine ⟨?_, ?_⟩
      · first | omega | (unfold xI; omega) | (unfold xJ; omega) | (exfalso; omega)
      refine ⟨?_, ?_⟩
      · first | omega | (unfold xI; omega) | (unfold xJ; omega) | (exfalso; omega)
      refine ⟨?_, ?_⟩
      · first | omega | (unfold xI; omega) | (unfold xJ; omega) | (exfalso; omega)
      refine ⟨?_, ?_⟩
      · first | omega | (unfold xI; omega) | (unfold xJ; omega) | (exfalso; omega)
      refine ⟨?_, ?_⟩
      · first | omega | (unfold xI; omega) | (unfold xJ; omega) | (exfalso; omega)
      refine ⟨?_, ?_⟩
      · first | omega | (unfold xI; omega) | (unfold xJ; omega) | (exfalso; omega)
      refine ⟨?_, ?_⟩
      · first | omega | (unfold xI; omega) | (unfold xJ; omega) | (exfalso; omega)
      refine ⟨?_, ?_⟩
      · first | omega | (unfold xI; omega) | (unfold xJ; omega) | (exfalso; omega)
      refine ⟨?_, ?_⟩
      · first | omega | (unfold xI; omega) | (unfold xJ; omega) | (exfalso; omega)
      refine ⟨?_, ?_⟩
      · first | omega | (unfold xI; omega) | (unfold xJ; omega) | (exfalso; omega)
      refine ⟨?_, ?_⟩
      · first | omega | (unfold xI; omega) | (unfold xJ; omega) | (exfalso; omega)
      refine ⟨?_, ?_⟩
      · first | omega | (unfold xI; omega) | (unfold xJ; omega) | (exfalso; omega)
      refine ⟨?_, ?_⟩
      · first | omega | (unfold xI; omega) | (unfold xJ; omega) | (exfalso; omega)
      refine ⟨?_, ?_⟩
      · first | omega | (unfold xI; omega) | (unfold xJ; omega) | (exfalso; omega)
      refine ⟨?_, ?_⟩
      · first | omega | (unfold xI; omega) | (unfold xJ; omega) | (exfalso; omega)
      refine ⟨?_, ?_⟩
      · first | omega | (unfold xI; omega) | (unfold xJ; omega) | (exfalso; omega)
      first | exact hq | (exfalso; omega)
  have c0 := b1 0 (by decide) (by decide)
  have c1 := b1 1 (by decide) (by decide)
  have c2 := b1 2 (by decide) (by decide)
  have c3 := b1 3 (by decide) (by decide)
  have c4 := b1 4 (by decide) (by decide)
  have k0 := iabs_le c0.1.1 c0.2.1
  have k1 := iabs_le c1.1.1 c1.2.1
  have k2 := iabs_le c2.1.1 c2.2.1
  have k3 := iabs_le c3.1.1 c3.2.1
  have k4 := iabs_le c4.1.1 c4.2.1
  have start : xq X d 81 Q 62 [(0, (2, 39)), (1, (2, 7)), (2, (0, l)), (3, (0, a)), (4, (0, b)), (5, (0, k)), (6, (1, soT w n g a)), (8, (1, soT w n g b)), (10, (1, 10 * soT w n g a * soT w n g b)), (12, (1, M)), (14, (1, 0)), (16, (0, 0))] [] H := by
    refine s2 0 0 (by decide) (by decide) (by omega) ?_
    refine s2 (0 + iabs (H 8 (l * 5 + 0) * (10 * soT w n g a * soT w n g b) - smF w n g a b k 0 * M)) 1 (by decide) (by decide) (by omega) ?_
    refine s2 (0 + iabs (H 8 (l * 5 + 0) * (10 * soT w n g a * soT w n g b) - smF w n g a b k 0 * M) + iabs (H 8 (l * 5 + 1) * (10 * soT w n g a * soT w n g b) - smF w n g a b k 1 * M)) 2 (by decide) (by decide) (by omega) ?_
    refine s2 (0 + iabs (H 8 (l * 5 + 0) * (10 * soT w n g a * soT w n g b) - smF w n g a b k 0 * M) + iabs (H 8 (l * 5 + 1) * (10 * soT w n g a * soT w n g b) - smF w n g a b k 1 * M) + iabs (H 8 (l * 5 + 2) * (10 * soT w n g a * soT w n g b) - smF w n g a b k 2 * M)) 3 (by decide) (by decide) (by omega) ?_
    refine s2 (0 + iabs (H 8 (l * 5 + 0) * (10 * soT w n g a * soT w n g b) - smF w n g a b k 0 * M) + iabs (H 8 (l * 5 + 1) * (10 * soT w n g a * soT w n g b) - smF w n g a b k 1 * M) + iabs (H 8 (l * 5 + 2) * (10 * soT w n g a * soT w n g b) - smF w n g a b k 2 * M) + iabs (H 8 (l * 5 + 3) * (10 * soT w n g a * soT w n g b) - smF w n g a b k 3 * M)) 4 (by decide) (by decide) (by omega) ?_
    have eO : 0 + iabs (H 8 (l * 5 + 0) * (10 * soT w n g a * soT w n g b) - smF w n g a b k 0 * M) + iabs (H 8 (l * 5 + 1) * (10 * soT w n g a * soT w n g b) - smF w n g a b k 1 * M) + iabs (H 8 (l * 5 + 2) * (10 * soT w n g a * soT w n g b) - smF w n g a b k 2 * M) + iabs (H 8 (l * 5 + 3) * (10 * soT w n g a * soT w n g b) - smF w n g a b k 3 * M) + iabs (H 8 (l * 5 + 4) * (10 * soT w n g a * soT w n g b) - smF w n g a b k 4 * M) = farO (fun s => g (560 + 5 * l + s)) (smF w n g a b k) M (10 * soT w n g a * soT w n g b) := by
      rw [Int.zero_add, hA 0 (by decide) (by decide), hA 1 (by decide) (by decide), hA 2 (by decide) (by decide), hA 3 (by decide) (by decide), hA 4 (by decide) (by decide)]
      rfl
    rw [eO]
    have rO := farO_rng (a := fun s => g (560 + 5 * l + s)) (b := smF w n g a b k) (fun s x y => by rw [← hA s x y]; exact (hAr s x y).1) (fun s x y => (sm s x y).2.2.1)
    have rV := farV_rng (a := fun s => g (560 + 5 * l + s)) (b := smF w n g a b k) (fun s x y => by rw [← hA s x y]; exact (hAr s x y).1) (fun s x y => (sm s x y).2.2.1)
    unfold farV at rV
    rw [eS, ← eM, hM] at rO rV
    rw [if_neg (by omega)] at rV
    have e2 : 2 * M * (10 * soT w n g a * soT w n g b) = 2 * (M * (10 * soT w n g a * soT w n g b)) := Int.mul_assoc _ _ _
    have nz : ¬ 2 * M * (10 * soT w n g a * soT w n g b) = 0 := by omega
    refine U_81_62 (by omega) l a b k (soT w n g a) (soT w n g b) (10 * soT w n g a * soT w n g b) M _ (4 + 1) w n g H ?_
    refine ⟨fun c1 => ?_, fun c1 => ?_⟩
    · skip
      refine ⟨?_, ?_⟩
      · first | omega | (unfold xJ; omega) | exact ⟨nz, by unfold xJ; omega⟩ | (unfold xI; omega) | (exfalso; omega)
      refine ⟨?_, ?_⟩
      · first | omega | (unfold xJ; omega) | exact ⟨nz, by unfold xJ; omega⟩ | (unfold xI; omega) | (exfalso; omega)
      refine ⟨?_, ?_⟩
      · first | omega | (unfold xJ; omega) | exact ⟨nz, by unfold xJ; omega⟩ | (unfold xI; omega) | (exfalso; omega)
      refine ⟨?_, ?_⟩
      · first | omega | (unfold xJ; omega) | exact ⟨nz, by unfold xJ; omega⟩ | (unfold xI; omega) | (exfalso; omega)
      exact xQr hQ (xl2i_id (by unfold xI; omega))
    · skip
      refine ⟨?_, ?_⟩
      · first | omega | (unfold xJ; omega) | exact ⟨nz, by unfold xJ; omega⟩ | (unfold xI; omega) | (exfalso; omega)
      refine ⟨?_, ?_⟩
      · first | omega | (unfold xJ; omega) | exact ⟨nz, by unfold xJ; omega⟩ | (unfold xI; omega) | (exfalso; omega)
      refine ⟨?_, ?_⟩
      · first | omega | (unfold xJ; omega) | exact ⟨nz, by unfold xJ; omega⟩ | (unfold xI; omega) | (exfalso; omega)
      refine ⟨?_, ?_⟩
      · first | omega | (unfold xJ; omega) | exact ⟨nz, by unfold xJ; omega⟩ | (unfold xI; omega) | (exfalso; omega)
      refine ⟨?_, ?_⟩
      · first | omega | (unfold xJ; omega) | exact ⟨nz, by unfold xJ; omega⟩ | (unfold xI; omega) | (exfalso; omega)
      refine ⟨?_, ?_⟩
      · first | omega | (unfold xJ; omega) | exact ⟨nz, by unfold xJ; omega⟩ | (unfold xI; omega) | (exfalso; omega)
      refine ⟨?_, ?_⟩
      · first | omega | (unfold xJ; omega) | exact ⟨nz, by unfold xJ; omega⟩ | (unfold xI; omega) | (exfalso; omega)
      refine ⟨?_, ?_⟩
      · first | omega | (unfold xJ; omega) | exact ⟨nz, by unfold xJ; omega⟩ | (unfold xI; omega) | (exfalso; omega)
      refine ⟨?_, ?_⟩
      · first | omega | (unfold xJ; omega) | exact ⟨nz, by unfold xJ; omega⟩ | (unfold xI; omega) | (exfalso; omega)
      refine ⟨?_, ?_⟩
      · first | omega | (unfold xJ; omega) | exact ⟨nz, by unfold xJ; omega⟩ | (unfold xI; omega) | (exfalso; omega)
      refine ⟨?_, ?_⟩
      · first | omega | (unfold xJ; omega) | exact ⟨nz, by unfold xJ; omega⟩ | (unfold xI; omega) | (exfalso; omega)
      refine ⟨?_, ?_⟩
      · first | omega | (unfold xJ; omega) | exact ⟨nz, by unfold xJ; omega⟩ | (unfold xI; omega) | (exfalso; omega)
      refine ⟨?_, ?_⟩
      · first | omega | (unfold xJ; omega) | exact ⟨nz, by unfold xJ; omega⟩ | (unfold xI; omega) | (exfalso; omega)
      refine ⟨?_, ?_⟩
      · first | omega | (unfold xJ; omega) | exact ⟨nz, by unfold xJ; omega⟩ | (unfold xI; omega) | (exfalso; omega)
      refine ⟨?_, ?_⟩
      · first | omega | (unfold xJ; omega) | exact ⟨nz, by unfold xJ; omega⟩ | (unfold xI; omega) | (exfalso; omega)
      refine ⟨?_, ?_⟩
      · first | omega | (unfold xJ; omega) | exact ⟨nz, by unfold xJ; omega⟩ | (unfold xI; omega) | (exfalso; omega)
      refine ⟨?_, ?_⟩
      · first | omega | (unfold xJ; omega) | exact ⟨nz, by unfold xJ; omega⟩ | (unfold xI; omega) | (exfalso; omega)
      refine ⟨?_, ?_⟩
      · first | omega | (unfold xJ; omega) | exact ⟨nz, by unfold xJ; omega⟩ | (unfold xI; omega) | (exfalso; omega)
      refine ⟨?_, ?_⟩
      · first | omega | (unfold xJ; omega) | exact ⟨nz, by unfold xJ; omega⟩ | (unfold xI; omega) | (exfalso; omega)
      refine ⟨?_, ?_⟩
      · first | omega | (unfold xJ; omega) | exact ⟨nz, by unfold xJ; omega⟩ | (unfold xI; omega) | (exfalso; omega)
      refine ⟨?_, ?_⟩
      · first | omega | (unfold xJ; omega) | exact ⟨nz, by unfold xJ; omega⟩ | (unfold xI; omega) | (exfalso; omega)
      exfalso
      omega
  refine U_81 (by omega) l a b k w n g H ?_
  rw [if_pos (by omega), hM, hTa, hTb]
  refine ⟨?_, ?_⟩
  · first | omega | (unfold xJ; omega) | (intro j x y; rw [hb1] at y; rw [hb2 j x y]; have := hg.lya j x y; omega) | (unfold xI; omega)
  refine ⟨?_, ?_⟩
  · first | omega | (unfold xJ; omega) | (intro j x y; rw [hb1] at y; rw [hb2 j x y]; have := hg.lya j x y; omega) | (unfold xI; omega)
  refine ⟨?_, ?_⟩
  · first | omega | (unfold xJ; omega) | (intro j x y; rw [hb1] at y; rw [hb2 j x y]; have := hg.lya j x y; omega) | (unfold xI; omega)
  refine ⟨?_, ?_⟩
  · first | omega | (unfold xJ; omega) | (intro j x y; rw [hb1] at y; rw [hb2 j x y]; have := hg.lya j x y; omega) | (unfold xI; omega)
  refine ⟨?_, ?_⟩
  · first | omega | (unfold xJ; omega) | (intro j x y; rw [hb1] at y; rw [hb2 j x y]; have := hg.lya j x y; omega) | (unfold xI; omega)
  refine ⟨?_, ?_⟩
  · first | omega | (unfold xJ; omega) | (intro j x y; rw [hb1] at y; rw [hb2 j x y]; have := hg.lya j x y; omega) | (unfold xI; omega)
  refine ⟨fun c1 => ?_, fun c1 => ?_⟩
  · skip
    first | exact start | (exfalso; omega)
  · skip
    refine ⟨fun c2 => ?_, fun c2 => ?_⟩
    · skip
      first | exact start | (exfalso; omega)
    · skip
      first | exact start | (exfalso; omega)

/-- the survey's row of what was parted -/
def paH (s : Int × Int × Int × Int) (h : XH) : Prop := h 44 0 = s.1 ∧ h 44 1 = s.2.1 ∧ h 44 2 = s.2.2.1 ∧ h 44 3 = s.2.2.2
/-- but for the rows of twins and of what was parted -/
def paI (H h : XH) : Prop := ∀ o, ¬ o = 43 → ¬ o = 44 → h o = H o
theorem paI_lk {w n : Int} {g : Int → Int} {H h : XH} (f : paI H h) (hk : lkA w n g H) : lkA w n g h := by
  unfold lkA
  rw [f 40 (by decide) (by decide), f 41 (by decide) (by decide), f 42 (by decide) (by decide), f 39 (by decide) (by decide)]
  exact hk
theorem paI_bt {g : Int → Int} {H h : XH} (f : paI H h) (hb : btA g H) : btA g h := by
  unfold btA
  rw [f 7 (by decide) (by decide), f 8 (by decide) (by decide)]
  exact hb

theorem U_82 {X : Int × (Int → Int)} {d : Nat} {Q : Int → XH → Prop} (hd : 0 ≤ d) (l a b : Int) (w n : Int) (g : Int → Int) (H : XH) (h : xq X d 82 Q 3 [(0, (2, 39)), (1, (2, 7)), (2, (0, l)), (3, (0, a)), (4, (0, b)), (5, (0, 1))] [] H) : xc X (d + 1) 82 [(2, 39), (2, 7), (0, l), (0, a), (0, b)] H Q := by
  refine ⟨rfl, ?_⟩
  show xq X d 82 Q 100000 [(0, (2, 39)), (1, (2, 7)), (2, (0, l)), (3, (0, a)), (4, (0, b))] [] H
  refine xq_run [3, 21] 300 ?_
  show xq X d 82 Q 3 [(0, (2, 39)), (1, (2, 7)), (2, (0, l)), (3, (0, a)), (4, (0, b)), (5, (0, 1))] [] H
  exact h
theorem U_82_3 {X : Int × (Int → Int)} {d : Nat} {Q : Int → XH → Prop} (hd : 5 ≤ d) (v2 v3 v4 v5 : Int) (w n : Int) (g : Int → Int) (H : XH) (h : ((9 < v5) → Q 0 H) ∧ (¬ (9 < v5) → (lkA w n g H) ∧ (btA g H) ∧ (0 ≤ v2 ∧ v2 < g 1) ∧ (0 ≤ v3 ∧ v3 < n) ∧ (0 ≤ v4 ∧ v4 < n) ∧ (1 ≤ v5 ∧ v5 ≤ 9) ∧ (0 < soT w n g v3) ∧ (0 < soT w n g v4) ∧ (((H 44 0 = (-1)) → (xI (v5 + 1)) ∧ xq X d 82 Q 3 [(0, (2, 39)), (1, (2, 7)), (2, (0, v2)), (3, (0, v3)), (4, (0, v4)), (5, (0, v5 + 1))] [] (xup (xup (xup (xup H 44 0 (smV w n g v2 v3 v4 v5)) 44 1 v3) 44 2 v4) 44 3 v5)) ∧ (¬ (H 44 0 = (-1)) → ((smV w n g v2 v3 v4 v5 < H 44 0) → (xI (v5 + 1)) ∧ xq X d 82 Q 3 [(0, (2, 39)), (1, (2, 7)), (2, (0, v2)), (3, (0, v3)), (4, (0, v4)), (5, (0, v5 + 1))] [] (xup (xup (xup (xup H 44 0 (smV w n g v2 v3 v4 v5)) 44 1 v3) 44 2 v4) 44 3 v5)) ∧ (¬ (smV w n g v2 v3 v4 v5 < H 44 0) → (xI (v5 + 1)) ∧ xq X d 82 Q 3 [(0, (2, 39)), (1, (2, 7)), (2, (0, v2)), (3, (0, v3)), (4, (0, v4)), (5, (0, v5 + 1))] [] H))))) : xq X d 82 Q 3 [(0, (2, 39)), (1, (2, 7)), (2, (0, v2)), (3, (0, v3)), (4, (0, v4)), (5, (0, v5))] [] H := by
  show xq X d 82 Q 3 [(0, (2, 39)), (1, (2, 7)), (2, (0, v2)), (3, (0, v3)), (4, (0, v4)), (5, (0, v5))] [] H
  refine xq_run [3, 21] 300 ?_
  show ((9 < v5) → xfR 2 0 ∧ xKZ = xKZ ∧ Q 0 H) ∧ (¬ (9 < v5) → xWM (xE X) xMC d 81 [(2, 39), (2, 7), (0, v2), (0, v3), (0, v4), (0, v5)] xKZ H _)
  refine ⟨fun k_ => ?_, fun k_ => ?_⟩
  · replace h := h.1 k_
    exact ⟨trivial, rfl, h⟩
  · replace h := h.2 k_
    refine xc_in (s_81 (by omega) w n g v2 v3 v4 v5 H (h.1) (h.2.1) (h.2.2.1) (h.2.2.2.1) (h.2.2.2.2.1) (h.2.2.2.2.2.1) (h.2.2.2.2.2.2.1) (h.2.2.2.2.2.2.2.1) ?_)
    replace h := h.2.2.2.2.2.2.2.2
    show xq X d 82 Q 21 [(0, (2, 39)), (1, (2, 7)), (2, (0, v2)), (3, (0, v3)), (4, (0, v4)), (5, (0, v5))] [(0, smV w n g v2 v3 v4 v5)] H
    refine xq_run [3, 21] 300 ?_
    show ((0 : Int) ≤ 0 ∧ (0 : Int) < 4) ∧ ((H 44 0 = (-1)) → ((0 : Int) ≤ 0 ∧ (0 : Int) < 4) ∧ ((0 : Int) ≤ 1 ∧ (1 : Int) < 4) ∧ ((0 : Int) ≤ 2 ∧ (2 : Int) < 4) ∧ ((0 : Int) ≤ 3 ∧ (3 : Int) < 4) ∧ (xI (v5 + 1)) ∧ xq X d 82 Q 3 [(0, (2, 39)), (1, (2, 7)), (2, (0, v2)), (3, (0, v3)), (4, (0, v4)), (5, (0, v5 + 1))] [] (xup (xup (xup (xup H 44 0 (smV w n g v2 v3 v4 v5)) 44 1 v3) 44 2 v4) 44 3 v5)) ∧ (¬ (H 44 0 = (-1)) → ((0 : Int) ≤ 0 ∧ (0 : Int) < 4) ∧ ((smV w n g v2 v3 v4 v5 < H 44 0) → ((0 : Int) ≤ 0 ∧ (0 : Int) < 4) ∧ ((0 : Int) ≤ 1 ∧ (1 : Int) < 4) ∧ ((0 : Int) ≤ 2 ∧ (2 : Int) < 4) ∧ ((0 : Int) ≤ 3 ∧ (3 : Int) < 4) ∧ (xI (v5 + 1)) ∧ xq X d 82 Q 3 [(0, (2, 39)), (1, (2, 7)), (2, (0, v2)), (3, (0, v3)), (4, (0, v4)), (5, (0, v5 + 1))] [] (xup (xup (xup (xup H 44 0 (smV w n g v2 v3 v4 v5)) 44 1 v3) 44 2 v4) 44 3 v5)) ∧ (¬ (smV w n g v2 v3 v4 v5 < H 44 0) → (xI (v5 + 1)) ∧ xq X d 82 Q 3 [(0, (2, 39)), (1, (2, 7)), (2, (0, v2)), (3, (0, v3)), (4, (0, v4)), (5, (0, v5 + 1))] [] H))
    refine ⟨⟨by decide, by decide⟩, ?_⟩
    refine ⟨fun k_ => ?_, fun k_ => ?_⟩
    · replace h := h.1 k_
      refine ⟨⟨by decide, by decide⟩, ?_⟩
      refine ⟨⟨by decide, by decide⟩, ?_⟩
      refine ⟨⟨by decide, by decide⟩, ?_⟩
      refine ⟨⟨by decide, by decide⟩, ?_⟩
      refine ⟨h.1, ?_⟩
      replace h := h.2
      exact h
    · replace h := h.2 k_
      refine ⟨⟨by decide, by decide⟩, ?_⟩
      refine ⟨fun k_ => ?_, fun k_ => ?_⟩
      · replace h := h.1 k_
        refine ⟨⟨by decide, by decide⟩, ?_⟩
        refine ⟨⟨by decide, by decide⟩, ?_⟩
        refine ⟨⟨by decide, by decide⟩, ?_⟩
        refine ⟨⟨by decide, by decide⟩, ?_⟩
        refine ⟨h.1, ?_⟩
        replace h := h.2
        exact h
      · replace h := h.2 k_
        refine ⟨h.1, ?_⟩
        replace h := h.2
        exact h

theorem s_82 {X : Int × (Int → Int)} {d : Nat} {Q : Int → XH → Prop} (hd : 6 ≤ d) (w n : Int) (g : Int → Int) (l a b : Int) (H : XH) (hk : lkA w n g H) (hb : btA g H) (pl : 0 ≤ l ∧ l < g 1) (pa : 0 ≤ a ∧ a < n) (pb : 0 ≤ b ∧ b < n) (ta : 0 < soT w n g a) (tb : 0 < soT w n g b) (hW : -1 ≤ H 44 0 ∧ H 44 0 ≤ 1000) (hQ : ∀ h1 : XH, (∀ o, ¬ o = 44 → h1 o = H o) ∧ paH (pdK (smV w n g l) a b 9 1 (H 44 0, H 44 1, H 44 2, H 44 3)) h1 → Q 0 h1) : xc X d 82 [(2, 39), (2, 7), (0, l), (0, a), (0, b)] H Q := by
  cases d with
  | zero => omega
  | succ d =>
  obtain ⟨hg, e6, e7, e8, hk2⟩ := id hk
  obtain ⟨S, hS⟩ : ∃ S, pdK (smV w n g l) a b 9 1 (H 44 0, H 44 1, H 44 2, H 44 3) = S := ⟨_, rfl⟩
  rw [hS] at hQ
  have key : ∀ (m : Nat) (k : Int) (s : Int × Int × Int × Int) (h : XH), k + m = 10 → 1 ≤ k → (-1 ≤ s.1 ∧ s.1 ≤ 1000) → (∀ o, ¬ o = 44 → h o = H o) → paH s h → pdK (smV w n g l) a b m k s = S → xq X d 82 Q 3 [(0, (2, 39)), (1, (2, 7)), (2, (0, l)), (3, (0, a)), (4, (0, b)), (5, (0, k))] [] h := by
    intro m
    induction m with
    | zero =>
      intro k s h hm h1 hs f hp hq
      unfold pdK at hq
      rw [hq] at hp
      refine U_82_3 (by omega) l a b k w n g h ?_
      refine ⟨fun c1 => ?_, fun c1 => ?_⟩
      · skip
        exact hQ h ⟨f, hp⟩
      · skip
        refine ⟨?_, ?_⟩
        · first | omega | (unfold xI; omega) | (exfalso; omega)
        refine ⟨?_, ?_⟩
        · first | omega | (unfold xI; omega) | (exfalso; omega)
        refine ⟨?_, ?_⟩
        · first | omega | (unfold xI; omega) | (exfalso; omega)
        refine ⟨?_, ?_⟩
        · first | omega | (unfold xI; omega) | (exfalso; omega)
        refine ⟨?_, ?_⟩
        · first | omega | (unfold xI; omega) | (exfalso; omega)
        refine ⟨?_, ?_⟩
        · first | omega | (unfold xI; omega) | (exfalso; omega)
        refine ⟨?_, ?_⟩
        · first | omega | (unfold xI; omega) | (exfalso; omega)
        refine ⟨?_, ?_⟩
        · first | omega | (unfold xI; omega) | (exfalso; omega)
        refine ⟨fun c2 => ?_, fun c2 => ?_⟩
        · skip
          refine ⟨?_, ?_⟩
          · first | omega | (unfold xI; omega) | (exfalso; omega)
          exfalso
          omega
        · skip
          refine ⟨fun c3 => ?_, fun c3 => ?_⟩
          · skip
            refine ⟨?_, ?_⟩
            · first | omega | (unfold xI; omega) | (exfalso; omega)
            exfalso
            omega
          · skip
            refine ⟨?_, ?_⟩
            · first | omega | (unfold xI; omega) | (exfalso; omega)
            exfalso
            omega
    | succ m ih =>
      intro k s h hm h1 hs f hp hq
      obtain ⟨p0, p1, p2, p3⟩ := id hp
      have fp : paI H h := fun o _ x => f o x
      have rV := smV_rng hg (l := l) (a := a) (b := b) (k := k) pl ⟨h1, by omega⟩
      have nw : (s.1 = -1 ∨ smV w n g l a b k < s.1) → xq X d 82 Q 3 [(0, (2, 39)), (1, (2, 7)), (2, (0, l)), (3, (0, a)), (4, (0, b)), (5, (0, k + 1))] [] (xup (xup (xup (xup h 44 0 (smV w n g l a b k)) 44 1 a) 44 2 b) 44 3 k) := fun q => by
        have e : pdU (smV w n g l) a b k s = (smV w n g l a b k, a, b, k) := if_pos q
        refine ih (k + 1) (smV w n g l a b k, a, b, k) _ (by omega) (by omega) (by dsimp only; omega) (fun o x => by rw [xup_ne x, xup_ne x, xup_ne x, xup_ne x]; exact f o x) ⟨rfl, rfl, rfl, rfl⟩ ?_
        unfold pdK at hq
        rw [e] at hq
        exact hq
      have ol : ¬ (s.1 = -1 ∨ smV w n g l a b k < s.1) → xq X d 82 Q 3 [(0, (2, 39)), (1, (2, 7)), (2, (0, l)), (3, (0, a)), (4, (0, b)), (5, (0, k + 1))] [] h := fun q => by
        have e : pdU (smV w n g l) a b k s = s := if_neg q
        refine ih (k + 1) s h (by omega) (by omega) hs f hp ?_
        unfold pdK at hq
        rw [e] at hq
        exact hq
      refine U_82_3 (by omega) l a b k w n g h ?_
      refine ⟨fun c1 => ?_, fun c1 => ?_⟩
      · skip
        first | (exfalso; omega) | exact nw (by omega) | exact ol (by omega)
      · skip
        refine ⟨?_, ?_⟩
        · first | omega | exact paI_lk fp hk | exact paI_bt fp hb | (unfold xI; omega) | (exfalso; omega)
        refine ⟨?_, ?_⟩
        · first | omega | exact paI_lk fp hk | exact paI_bt fp hb | (unfold xI; omega) | (exfalso; omega)
        refine ⟨?_, ?_⟩
        · first | omega | exact paI_lk fp hk | exact paI_bt fp hb | (unfold xI; omega) | (exfalso; omega)
        refine ⟨?_, ?_⟩
        · first | omega | exact paI_lk fp hk | exact paI_bt fp hb | (unfold xI; omega) | (exfalso; omega)
        refine ⟨?_, ?_⟩
        · first | omega | exact paI_lk fp hk | exact paI_bt fp hb | (unfold xI; omega) | (exfalso; omega)
        refine ⟨?_, ?_⟩
        · first | omega | exact paI_lk fp hk | exact paI_bt fp hb | (unfold xI; omega) | (exfalso; omega)
        refine ⟨?_, ?_⟩
        · first | omega | exact paI_lk fp hk | exact paI_bt fp hb | (unfold xI; omega) | (exfalso; omega)
        refine ⟨?_, ?_⟩
        · first | omega | exact paI_lk fp hk | exact paI_bt fp hb | (unfold xI; omega) | (exfalso; omega)
        refine ⟨fun c2 => ?_, fun c2 => ?_⟩
        · skip
          refine ⟨?_, ?_⟩
          · first | omega | exact paI_lk fp hk | exact paI_bt fp hb | (unfold xI; omega) | (exfalso; omega)
          first | (exfalso; omega) | exact nw (by omega) | exact ol (by omega)
        · skip
          refine ⟨fun c3 => ?_, fun c3 => ?_⟩
          · skip
            refine ⟨?_, ?_⟩
            · first | omega | exact paI_lk fp hk | exact paI_bt fp hb | (unfold xI; omega) | (exfalso; omega)
            first | (exfalso; omega) | exact nw (by omega) | exact ol (by omega)
          · skip
            refine ⟨?_, ?_⟩
            · first | omega | exact paI_lk fp hk | exact paI_bt fp hb | (unfold xI; omega) | (exfalso; omega)
            first | (exfalso; omega) | exact nw (by omega) | exact ol (by omega)
  refine U_82 (by omega) l a b w n g H ?_
  exact key 9 1 (H 44 0, H 44 1, H 44 2, H 44 3) H (by decide) (by decide) hW (fun _ _ => rfl) ⟨rfl, rfl, rfl, rfl⟩ hS

theorem U_83 {X : Int × (Int → Int)} {d : Nat} {Q : Int → XH → Prop} (hd : 0 ≤ d) (l : Int) (w n : Int) (g : Int → Int) (H : XH) (h : xq X d 83 Q 2 [(0, (2, 39)), (1, (2, 7)), (2, (0, l)), (3, (0, 0))] [] H) : xc X (d + 1) 83 [(2, 39), (2, 7), (0, l)] H Q := by
  refine ⟨rfl, ?_⟩
  show xq X d 83 Q 100000 [(0, (2, 39)), (1, (2, 7)), (2, (0, l))] [] H
  refine xq_run [2, 26, 44, 53, 89, 128] 300 ?_
  show xq X d 83 Q 2 [(0, (2, 39)), (1, (2, 7)), (2, (0, l)), (3, (0, 0))] [] H
  exact h
theorem U_83_2 {X : Int × (Int → Int)} {d : Nat} {Q : Int → XH → Prop} (hd : 0 ≤ d) (v2 v3 : Int) (w n : Int) (g : Int → Int) (H : XH) (h : ((4 ≤ v3) → xq X d 83 Q 26 [(0, (2, 39)), (1, (2, 7)), (2, (0, v2)), (3, (0, 0))] [] H) ∧ (¬ (4 ≤ v3) → ((0 : Int) ≤ v3 ∧ (v3 : Int) < 4) ∧ (xI (v3 + 1)) ∧ xq X d 83 Q 2 [(0, (2, 39)), (1, (2, 7)), (2, (0, v2)), (3, (0, v3 + 1))] [] (xup H 44 v3 (-1)))) : xq X d 83 Q 2 [(0, (2, 39)), (1, (2, 7)), (2, (0, v2)), (3, (0, v3))] [] H := by
  show xq X d 83 Q 2 [(0, (2, 39)), (1, (2, 7)), (2, (0, v2)), (3, (0, v3))] [] H
  refine xq_run [2, 26, 44, 53, 89, 128] 300 ?_
  show (1 ≤ xTy xKZ 44 ∧ xTy xKZ 44 ≤ 5) ∧ ((4 ≤ v3) → xq X d 83 Q 26 [(0, (2, 39)), (1, (2, 7)), (2, (0, v2)), (3, (0, 0))] [] H) ∧ (¬ (4 ≤ v3) → ((0 : Int) ≤ v3 ∧ (v3 : Int) < 4) ∧ (xI (v3 + 1)) ∧ xq X d 83 Q 2 [(0, (2, 39)), (1, (2, 7)), (2, (0, v2)), (3, (0, v3 + 1))] [] (xup H 44 v3 (-1)))
  refine ⟨⟨by decide, by decide⟩, ?_⟩
  refine ⟨fun k_ => ?_, fun k_ => ?_⟩
  · replace h := h.1 k_
    exact h
  · replace h := h.2 k_
    refine ⟨h.1, ?_⟩
    replace h := h.2
    refine ⟨h.1, ?_⟩
    replace h := h.2
    exact h
theorem U_83_26 {X : Int × (Int → Int)} {d : Nat} {Q : Int → XH → Prop} (hd : 2 ≤ d) (v2 v3 : Int) (w n : Int) (g : Int → Int) (H : XH) (h : ((H 39 6 ≤ v3) → xq X d 83 Q 53 [(0, (2, 39)), (1, (2, 7)), (2, (0, v2)), (3, (0, 0))] [] H) ∧ (¬ (H 39 6 ≤ v3) → (lkA w n g H) ∧ (0 ≤ v3 ∧ v3 < n) ∧ (∀ (J173 : Int), (twP w n g v3 J173 ∧ -1 ≤ J173) → ((0 : Int) ≤ v3 ∧ (v3 : Int) < 64) ∧ (xI (v3 + 1)) ∧ xq X d 83 Q 26 [(0, (2, 39)), (1, (2, 7)), (2, (0, v2)), (3, (0, v3 + 1))] [] (xup H 43 v3 J173)))) : xq X d 83 Q 26 [(0, (2, 39)), (1, (2, 7)), (2, (0, v2)), (3, (0, v3))] [] H := by
  show xq X d 83 Q 26 [(0, (2, 39)), (1, (2, 7)), (2, (0, v2)), (3, (0, v3))] [] H
  refine xq_run [2, 26, 44, 53, 89, 128] 300 ?_
  show ((H 39 6 ≤ v3) → xq X d 83 Q 53 [(0, (2, 39)), (1, (2, 7)), (2, (0, v2)), (3, (0, 0))] [] H) ∧ (¬ (H 39 6 ≤ v3) → xWM (xE X) xMC d 78 [(2, 39), (0, v3)] xKZ H _)
  refine ⟨fun k_ => ?_, fun k_ => ?_⟩
  · replace h := h.1 k_
    exact h
  · replace h := h.2 k_
    refine xc_in (s_78 (by omega) w n g v3 H (h.1) (h.2.1) ?_)
    intro J173 q_0
    replace h := h.2.2 J173 q_0
    show xq X d 83 Q 44 [(0, (2, 39)), (1, (2, 7)), (2, (0, v2)), (3, (0, v3))] [(0, J173), (0, v3), (2, 43)] H
    refine xq_run [2, 26, 44, 53, 89, 128] 300 ?_
    show ((0 : Int) ≤ v3 ∧ (v3 : Int) < 64) ∧ (xI (v3 + 1)) ∧ xq X d 83 Q 26 [(0, (2, 39)), (1, (2, 7)), (2, (0, v2)), (3, (0, v3 + 1))] [] (xup H 43 v3 J173)
    refine ⟨h.1, ?_⟩
    replace h := h.2
    refine ⟨h.1, ?_⟩
    replace h := h.2
    exact h
theorem U_83_53 {X : Int × (Int → Int)} {d : Nat} {Q : Int → XH → Prop} (hd : 0 ≤ d) (v2 v3 : Int) (w n : Int) (g : Int → Int) (H : XH) (h : ((H 39 6 ≤ v3) → Q 0 H) ∧ (¬ (H 39 6 ≤ v3) → ((0 : Int) ≤ v3 ∧ (v3 : Int) < 64) ∧ ((H 41 v3 < 1) → (xI (v3 + 1)) ∧ xq X d 83 Q 53 [(0, (2, 39)), (1, (2, 7)), (2, (0, v2)), (3, (0, v3 + 1))] [] H) ∧ (¬ (H 41 v3 < 1) → ((0 : Int) ≤ v3 ∧ (v3 : Int) < 64) ∧ ((H 43 v3 = (-1)) → (xI (v3 + 1)) ∧ xq X d 83 Q 89 [(0, (2, 39)), (1, (2, 7)), (2, (0, v2)), (3, (0, v3)), (4, (0, v3 + 1))] [] H) ∧ (¬ (H 43 v3 = (-1)) → (xI (v3 + 1)) ∧ xq X d 83 Q 53 [(0, (2, 39)), (1, (2, 7)), (2, (0, v2)), (3, (0, v3 + 1))] [] H)))) : xq X d 83 Q 53 [(0, (2, 39)), (1, (2, 7)), (2, (0, v2)), (3, (0, v3))] [] H := by
  show xq X d 83 Q 53 [(0, (2, 39)), (1, (2, 7)), (2, (0, v2)), (3, (0, v3))] [] H
  refine xq_run [2, 26, 44, 53, 89, 128] 300 ?_
  show ((H 39 6 ≤ v3) → xfR 2 0 ∧ xKZ = xKZ ∧ Q 0 H) ∧ (¬ (H 39 6 ≤ v3) → ((0 : Int) ≤ v3 ∧ (v3 : Int) < 64) ∧ ((H 41 v3 < 1) → (xI (v3 + 1)) ∧ xq X d 83 Q 53 [(0, (2, 39)), (1, (2, 7)), (2, (0, v2)), (3, (0, v3 + 1))] [] H) ∧ (¬ (H 41 v3 < 1) → ((0 : Int) ≤ v3 ∧ (v3 : Int) < 64) ∧ ((H 43 v3 = (-1)) → (xI (v3 + 1)) ∧ xq X d 83 Q 89 [(0, (2, 39)), (1, (2, 7)), (2, (0, v2)), (3, (0, v3)), (4, (0, v3 + 1))] [] H) ∧ (¬ (H 43 v3 = (-1)) → (xI (v3 + 1)) ∧ xq X d 83 Q 53 [(0, (2, 39)), (1, (2, 7)), (2, (0, v2)), (3, (0, v3 + 1))] [] H)))
  refine ⟨fun k_ => ?_, fun k_ => ?_⟩
  · replace h := h.1 k_
    exact ⟨trivial, rfl, h⟩
  · replace h := h.2 k_
    refine ⟨h.1, ?_⟩
    replace h := h.2
    refine ⟨fun k_ => ?_, fun k_ => ?_⟩
    · replace h := h.1 k_
      refine ⟨h.1, ?_⟩
      replace h := h.2
      exact h
    · replace h := h.2 k_
      refine ⟨h.1, ?_⟩
      replace h := h.2
      refine ⟨fun k_ => ?_, fun k_ => ?_⟩
      · replace h := h.1 k_
        refine ⟨h.1, ?_⟩
        replace h := h.2
        exact h
      · replace h := h.2 k_
        refine ⟨h.1, ?_⟩
        replace h := h.2
        exact h
theorem U_83_89 {X : Int × (Int → Int)} {d : Nat} {Q : Int → XH → Prop} (hd : 6 ≤ d) (v2 v3 v4 : Int) (w n : Int) (g : Int → Int) (H : XH) (h : ((H 39 6 ≤ v4) → (xI (v3 + 1)) ∧ xq X d 83 Q 53 [(0, (2, 39)), (1, (2, 7)), (2, (0, v2)), (3, (0, v3 + 1))] [] H) ∧ (¬ (H 39 6 ≤ v4) → ((0 : Int) ≤ v4 ∧ (v4 : Int) < 64) ∧ ((H 41 v4 ≤ 0) → (xI (v4 + 1)) ∧ xq X d 83 Q 89 [(0, (2, 39)), (1, (2, 7)), (2, (0, v2)), (3, (0, v3)), (4, (0, v4 + 1))] [] H) ∧ (¬ (H 41 v4 ≤ 0) → ((0 : Int) ≤ v4 ∧ (v4 : Int) < 64) ∧ ((v3 < H 43 v4) → (xI (v4 + 1)) ∧ xq X d 83 Q 89 [(0, (2, 39)), (1, (2, 7)), (2, (0, v2)), (3, (0, v3)), (4, (0, v4 + 1))] [] H) ∧ (¬ (v3 < H 43 v4) → (lkA w n g H) ∧ (btA g H) ∧ (0 ≤ v2 ∧ v2 < g 1) ∧ (0 ≤ v3 ∧ v3 < n) ∧ (0 ≤ v4 ∧ v4 < n) ∧ (0 < soT w n g v3) ∧ (0 < soT w n g v4) ∧ (-1 ≤ H 44 0 ∧ H 44 0 ≤ 1000) ∧ (∀ (h174 : XH), ((∀ o, ¬ o = 44 → h174 o = H o) ∧ paH (pdK (smV w n g v2) v3 v4 9 1 (H 44 0, H 44 1, H 44 2, H 44 3)) h174) → (xI (v4 + 1)) ∧ xq X d 83 Q 89 [(0, (2, 39)), (1, (2, 7)), (2, (0, v2)), (3, (0, v3)), (4, (0, v4 + 1))] [] h174))))) : xq X d 83 Q 89 [(0, (2, 39)), (1, (2, 7)), (2, (0, v2)), (3, (0, v3)), (4, (0, v4))] [] H := by
  show xq X d 83 Q 89 [(0, (2, 39)), (1, (2, 7)), (2, (0, v2)), (3, (0, v3)), (4, (0, v4))] [] H
  refine xq_run [2, 26, 44, 53, 89, 128] 300 ?_
  show ((H 39 6 ≤ v4) → (xI (v3 + 1)) ∧ xq X d 83 Q 53 [(0, (2, 39)), (1, (2, 7)), (2, (0, v2)), (3, (0, v3 + 1))] [] H) ∧ (¬ (H 39 6 ≤ v4) → ((0 : Int) ≤ v4 ∧ (v4 : Int) < 64) ∧ ((H 41 v4 ≤ 0) → xq X d 83 Q 128 [(0, (2, 39)), (1, (2, 7)), (2, (0, v2)), (3, (0, v3)), (4, (0, v4))] [] H) ∧ (¬ (H 41 v4 ≤ 0) → ((0 : Int) ≤ v4 ∧ (v4 : Int) < 64) ∧ ((v3 < H 43 v4) → xq X d 83 Q 128 [(0, (2, 39)), (1, (2, 7)), (2, (0, v2)), (3, (0, v3)), (4, (0, v4))] [] H) ∧ (¬ (v3 < H 43 v4) → xWM (xE X) xMC d 82 [(2, 39), (2, 7), (0, v2), (0, v3), (0, v4)] xKZ H _)))
  refine ⟨fun k_ => ?_, fun k_ => ?_⟩
  · replace h := h.1 k_
    refine ⟨h.1, ?_⟩
    replace h := h.2
    exact h
  · replace h := h.2 k_
    refine ⟨h.1, ?_⟩
    replace h := h.2
    refine ⟨fun k_ => ?_, fun k_ => ?_⟩
    · replace h := h.1 k_
      show xq X d 83 Q 128 [(0, (2, 39)), (1, (2, 7)), (2, (0, v2)), (3, (0, v3)), (4, (0, v4))] [] H
      refine xq_run [2, 26, 44, 53, 89, 128] 300 ?_
      show (xI (v4 + 1)) ∧ xq X d 83 Q 89 [(0, (2, 39)), (1, (2, 7)), (2, (0, v2)), (3, (0, v3)), (4, (0, v4 + 1))] [] H
      refine ⟨h.1, ?_⟩
      replace h := h.2
      exact h
    · replace h := h.2 k_
      refine ⟨h.1, ?_⟩
      replace h := h.2
      refine ⟨fun k_ => ?_, fun k_ => ?_⟩
      · replace h := h.1 k_
        show xq X d 83 Q 128 [(0, (2, 39)), (1, (2, 7)), (2, (0, v2)), (3, (0, v3)), (4, (0, v4))] [] H
        refine xq_run [2, 26, 44, 53, 89, 128] 300 ?_
        show (xI (v4 + 1)) ∧ xq X d 83 Q 89 [(0, (2, 39)), (1, (2, 7)), (2, (0, v2)), (3, (0, v3)), (4, (0, v4 + 1))] [] H
        refine ⟨h.1, ?_⟩
        replace h := h.2
        exact h
      · replace h := h.2 k_
        refine xc_in (s_82 (by omega) w n g v2 v3 v4 H (h.1) (h.2.1) (h.2.2.1) (h.2.2.2.1) (h.2.2.2.2.1) (h.2.2.2.2.2.1) (h.2.2.2.2.2.2.1) (h.2.2.2.2.2.2.2.1) ?_)
        intro h174 q_0
        replace h := h.2.2.2.2.2.2.2.2 h174 q_0
        show xq X d 83 Q 128 [(0, (2, 39)), (1, (2, 7)), (2, (0, v2)), (3, (0, v3)), (4, (0, v4))] [] h174
        refine xq_run [2, 26, 44, 53, 89, 128] 300 ?_
        show (xI (v4 + 1)) ∧ xq X d 83 Q 89 [(0, (2, 39)), (1, (2, 7)), (2, (0, v2)), (3, (0, v3)), (4, (0, v4 + 1))] [] h174
        refine ⟨h.1, ?_⟩
        replace h := h.2
        exact h

theorem s_83 {X : Int × (Int → Int)} {d : Nat} {Q : Int → XH → Prop} (hd : 7 ≤ d) (w n : Int) (g : Int → Int) (l : Int) (H : XH) (hk : lkA w n g H) (hb : btA g H) (pl : 0 ≤ l ∧ l < g 1) (hQ : ∀ h1 : XH, paI H h1 ∧ paH (pdO (smV w n g l) (soT w n g) n.toNat 0 (-1, -1, -1, -1)) h1 → Q 0 h1) : xc X d 83 [(2, 39), (2, 7), (0, l)] H Q := by
  cases d with
  | zero => omega
  | succ d =>
  obtain ⟨hg, e6, e7, e8, hk2⟩ := id hk
  have nn := hg.nn
  have ww := hg.ww
  have lyb := hg.lyb
  have bnd := hg.bnd
  obtain ⟨S, hS⟩ : ∃ S, pdO (smV w n g l) (soT w n g) n.toNat 0 (-1, -1, -1, -1) = S := ⟨_, rfl⟩
  rw [hS] at hQ
  have hV : ∀ a b k, 1 ≤ k → k ≤ 9 → 0 ≤ smV w n g l a b k ∧ smV w n g l a b k ≤ 1000 := fun a b k x y => smV_rng hg pl ⟨x, y⟩
  have keyO : ∀ (m : Nat) (a : Int) (s : Int × Int × Int × Int) (h : XH), a + m = n → 0 ≤ a → pdW s → paI H h → (∀ e, 0 ≤ e → e < n → twP w n g e (h 43 e)) → paH s h → pdJ (smV w n g l) (soT w n g) n a (a + 1) s → pdO (smV w n g l) (soT w n g) m a s = S → xq X d 83 Q 53 [(0, (2, 39)), (1, (2, 7)), (2, (0, l)), (3, (0, a))] [] h := by
    intro m
    induction m with
    | zero =>
      intro a s h ha a0 hW f ht hp hJ hq
      have f39 := f 39 (by decide) (by decide)
      unfold pdO at hq
      rw [hq] at hp
      refine U_83_53 (by omega) l a w n g h ?_
      rw [f39]
      refine ⟨fun c1 => ?_, fun c1 => ?_⟩
      · skip
        exact hQ h ⟨f, hp⟩
      · skip
        refine ⟨?_, ?_⟩
        · first | omega | (unfold xI; omega) | (exfalso; omega)
        refine ⟨fun c2 => ?_, fun c2 => ?_⟩
        · skip
          refine ⟨?_, ?_⟩
          · first | omega | (unfold xI; omega) | (exfalso; omega)
          exfalso
          omega
        · skip
          refine ⟨?_, ?_⟩
          · first | omega | (unfold xI; omega) | (exfalso; omega)
          refine ⟨fun c3 => ?_, fun c3 => ?_⟩
          · skip
            refine ⟨?_, ?_⟩
            · first | omega | (unfold xI; omega) | (exfalso; omega)
            exfalso
            omega
          · skip
            refine ⟨?_, ?_⟩
            · first | omega | (unfold xI; omega) | (exfalso; omega)
            exfalso
            omega
    | succ m ih =>
      intro a s h ha a0 hW f ht hp hJ hq
      have f39 := f 39 (by decide) (by decide)
      have f41 := f 41 (by decide) (by decide)
      have Ta := (hk2 a a0 (by omega)).1
      unfold pdO at hq
      -- a row that leaves all as it is
      have stay : pdI (smV w n g l) (soT w n g) a m (a + 1) s = s → xq X d 83 Q 53 [(0, (2, 39)), (1, (2, 7)), (2, (0, l)), (3, (0, a + 1))] [] h := fun e => by
        rw [e] at hq
        refine ih (a + 1) s h (by omega) (by omega) hW f ht hp ?_ hq
        intro x y k x0 xy yn q tx ty k1 k9
        by_cases hx : x = a
        · have z := e
          -- behind the row no pair of it is nearer
          have le : ∀ (m' : Nat) (b : Int) (s' : Int × Int × Int × Int), b + m' = n → a < b → pdJ (smV w n g l) (soT w n g) n a b s' → pdJ (smV w n g l) (soT w n g) n a n (pdI (smV w n g l) (soT w n g) a m' b s') := by
            intro m'
            induction m' with
            | zero =>
              intro b s' hb' _ hj
              have e2 : b = n := by omega
              rw [e2] at hj
              exact hj
            | succ m' ihm =>
              intro b s' hb' ab hj
              exact ihm (b + 1) _ (by omega) (by omega) (pdJ_step (fun k x y => (hV a b k x y).1) hj)
          have w1 := le m (a + 1) s (by omega) (by omega) hJ
          rw [e] at w1
          exact w1 x y k x0 xy yn (Or.inr ⟨hx, yn⟩) tx ty k1 k9
        · exact hJ x y k x0 xy yn (by omega) tx ty k1 k9
      have keyI : 0 < soT w n g a → ∀ (m' : Nat) (b : Int) (s' : Int × Int × Int × Int) (h' : XH), b + m' = n → a < b → pdW s' → paI H h' → (∀ e, 0 ≤ e → e < n → twP w n g e (h' 43 e)) → paH s' h' → pdJ (smV w n g l) (soT w n g) n a b s' → pdI (smV w n g l) (soT w n g) a m' b s' = pdI (smV w n g l) (soT w n g) a m (a + 1) s → xq X d 83 Q 89 [(0, (2, 39)), (1, (2, 7)), (2, (0, l)), (3, (0, a)), (4, (0, b))] [] h' := by
        intro pTa m'
        induction m' with
        | zero =>
          intro b s' h' hb' ab hW' f' ht' hp' hJ' hq'
          have g39 := f' 39 (by decide) (by decide)
          rw [show pdI (smV w n g l) (soT w n g) a 0 b s' = s' from rfl] at hq'
          rw [← hq'] at hq
          refine U_83_89 (by omega) l a b w n g h' ?_
          rw [g39]
          refine ⟨fun c1 => ?_, fun c1 => ?_⟩
          · skip
            refine ⟨?_, ?_⟩
            · first | omega | (unfold xI; omega) | (exfalso; omega)
            refine ih (a + 1) s' h' (by omega) (by omega) hW' f' ht' hp' ?_ hq
            exact pdJ_next (by omega) hJ'
          · skip
            refine ⟨?_, ?_⟩
            · first | omega | (unfold xI; omega) | (exfalso; omega)
            refine ⟨fun c2 => ?_, fun c2 => ?_⟩
            · skip
              refine ⟨?_, ?_⟩
              · first | omega | (unfold xI; omega) | (exfalso; omega)
              exfalso
              omega
            · skip
              refine ⟨?_, ?_⟩
              · first | omega | (unfold xI; omega) | (exfalso; omega)
              refine ⟨fun c3 => ?_, fun c3 => ?_⟩
              · skip
                refine ⟨?_, ?_⟩
                · first | omega | (unfold xI; omega) | (exfalso; omega)
                exfalso
                omega
              · skip
                refine ⟨?_, ?_⟩
                · first | omega | (unfold xI; omega) | (exfalso; omega)
                refine ⟨?_, ?_⟩
                · first | omega | (unfold xI; omega) | (exfalso; omega)
                refine ⟨?_, ?_⟩
                · first | omega | (unfold xI; omega) | (exfalso; omega)
                refine ⟨?_, ?_⟩
                · first | omega | (unfold xI; omega) | (exfalso; omega)
                refine ⟨?_, ?_⟩
                · first | omega | (unfold xI; omega) | (exfalso; omega)
                refine ⟨?_, ?_⟩
                · first | omega | (unfold xI; omega) | (exfalso; omega)
                refine ⟨?_, ?_⟩
                · first | omega | (unfold xI; omega) | (exfalso; omega)
                refine ⟨?_, ?_⟩
                · first | omega | (unfold xI; omega) | (exfalso; omega)
                intro h177 c4
                refine ⟨?_, ?_⟩
                · first | omega | (unfold xI; omega) | (exfalso; omega)
                exfalso
                omega
        | succ m' ihm =>
          intro b s' h' hb' ab hW' f' ht' hp' hJ' hq'
          have g39 := f' 39 (by decide) (by decide)
          have g41 := f' 41 (by decide) (by decide)
          have Tb := (hk2 b (by omega) (by omega)).1
          have tb := ht' b (by omega) (by omega)
          rw [show pdI (smV w n g l) (soT w n g) a (m' + 1) b s' = pdI (smV w n g l) (soT w n g) a m' (b + 1) (if 0 < soT w n g a ∧ 0 < soT w n g b then pdK (smV w n g l) a b 9 1 s' else s') from rfl] at hq'
          have nj := pdJ_step (fun k x y => (hV a b k x y).1) hJ'
          have w1 := pdW_1 hW'
          have same : (if 0 < soT w n g a ∧ 0 < soT w n g b then pdK (smV w n g l) a b 9 1 s' else s') = s' → xq X d 83 Q 89 [(0, (2, 39)), (1, (2, 7)), (2, (0, l)), (3, (0, a)), (4, (0, b + 1))] [] h' := fun e => by
            rw [e] at nj hq'
            exact ihm (b + 1) s' h' (by omega) (by omega) hW' f' ht' hp' nj hq'
          refine U_83_89 (by omega) l a b w n g h' ?_
          rw [g39, g41]
          refine ⟨fun c1 => ?_, fun c1 => ?_⟩
          · skip
            refine ⟨?_, ?_⟩
            · first | omega | exact paI_lk f' hk | exact paI_bt f' hb | (rw [hp'.1]; omega) | (unfold xI; omega) | (exfalso; omega)
            exfalso
            omega
          · skip
            refine ⟨?_, ?_⟩
            · first | omega | exact paI_lk f' hk | exact paI_bt f' hb | (rw [hp'.1]; omega) | (unfold xI; omega) | (exfalso; omega)
            refine ⟨fun c2 => ?_, fun c2 => ?_⟩
            · skip
              refine ⟨?_, ?_⟩
              · first | omega | exact paI_lk f' hk | exact paI_bt f' hb | (rw [hp'.1]; omega) | (unfold xI; omega) | (exfalso; omega)
              exact same (if_neg (by omega))
            · skip
              refine ⟨?_, ?_⟩
              · first | omega | exact paI_lk f' hk | exact paI_bt f' hb | (rw [hp'.1]; omega) | (unfold xI; omega) | (exfalso; omega)
              refine ⟨fun c3 => ?_, fun c3 => ?_⟩
              · skip
                refine ⟨?_, ?_⟩
                · first | omega | exact paI_lk f' hk | exact paI_bt f' hb | (rw [hp'.1]; omega) | (unfold xI; omega) | (exfalso; omega)
                refine same ?_
                split
                · next qq =>
                  refine pdK_id 9 1 s' (fun j x y => ?_)
                  rcases tb with ⟨z, -⟩ | ⟨z, z2, -⟩
                  · exfalso
                    omega
                  · have zz := hJ' a (h' 43 b) j a0 (by omega) (by omega) (Or.inr ⟨rfl, by omega⟩) qq.1 (by rw [twS_T z2]; exact qq.2) x (by omega)
                    rw [twS_b z2] at zz
                    exact zz
                · rfl
              · skip
                refine ⟨?_, ?_⟩
                · first | omega | exact paI_lk f' hk | exact paI_bt f' hb | (rw [hp'.1]; omega) | (unfold xI; omega) | (exfalso; omega)
                refine ⟨?_, ?_⟩
                · first | omega | exact paI_lk f' hk | exact paI_bt f' hb | (rw [hp'.1]; omega) | (unfold xI; omega) | (exfalso; omega)
                refine ⟨?_, ?_⟩
                · first | omega | exact paI_lk f' hk | exact paI_bt f' hb | (rw [hp'.1]; omega) | (unfold xI; omega) | (exfalso; omega)
                refine ⟨?_, ?_⟩
                · first | omega | exact paI_lk f' hk | exact paI_bt f' hb | (rw [hp'.1]; omega) | (unfold xI; omega) | (exfalso; omega)
                refine ⟨?_, ?_⟩
                · first | omega | exact paI_lk f' hk | exact paI_bt f' hb | (rw [hp'.1]; omega) | (unfold xI; omega) | (exfalso; omega)
                refine ⟨?_, ?_⟩
                · first | omega | exact paI_lk f' hk | exact paI_bt f' hb | (rw [hp'.1]; omega) | (unfold xI; omega) | (exfalso; omega)
                refine ⟨?_, ?_⟩
                · first | omega | exact paI_lk f' hk | exact paI_bt f' hb | (rw [hp'.1]; omega) | (unfold xI; omega) | (exfalso; omega)
                refine ⟨?_, ?_⟩
                · first | omega | exact paI_lk f' hk | exact paI_bt f' hb | (rw [hp'.1]; omega) | (unfold xI; omega) | (exfalso; omega)
                intro h179 c4
                have uu := c4
                refine ⟨?_, ?_⟩
                · first | omega | exact paI_lk f' hk | exact paI_bt f' hb | (rw [hp'.1]; omega) | (unfold xI; omega) | (exfalso; omega)
                obtain ⟨u1, u2⟩ := uu
                obtain ⟨q0, q1, q2, q3⟩ := hp'
                rw [if_pos ⟨by omega, by omega⟩] at nj hq'
                rw [q0, q1, q2, q3] at u2
                refine ihm (b + 1) _ _ (by omega) (by omega) (pdK_W (fun k x y => hV a b k x y) (by omega) (by omega) 9 1 s' (by decide) (by decide) hW') (fun o x y => by rw [u1 o y]; exact f' o x y) (fun e x y => by rw [u1 43 (by decide)]; exact ht' e x y) u2 nj hq'
      refine U_83_53 (by omega) l a w n g h ?_
      rw [f39, f41]
      refine ⟨fun c1 => ?_, fun c1 => ?_⟩
      · skip
        exfalso
        omega
      · skip
        refine ⟨?_, ?_⟩
        · first | omega | (unfold xI; omega) | (exfalso; omega)
        refine ⟨fun c2 => ?_, fun c2 => ?_⟩
        · skip
          refine ⟨?_, ?_⟩
          · first | omega | (unfold xI; omega) | (exfalso; omega)
          exact stay (pdI_id m (a + 1) s (fun y k _ _ q => by omega))
        · skip
          refine ⟨?_, ?_⟩
          · first | omega | (unfold xI; omega) | (exfalso; omega)
          refine ⟨fun c3 => ?_, fun c3 => ?_⟩
          · skip
            refine ⟨?_, ?_⟩
            · first | omega | (unfold xI; omega) | (exfalso; omega)
            exact keyI (by omega) m (a + 1) s h (by omega) (by omega) hW f ht hp hJ rfl
          · skip
            refine ⟨?_, ?_⟩
            · first | omega | (unfold xI; omega) | (exfalso; omega)
            refine stay (pdI_id m (a + 1) s (fun y k y1 y2 q1 q2 k1 k9 => ?_))
            rcases ht a a0 (by omega) with ⟨z, -⟩ | ⟨z, z2, -⟩
            · exact absurd z (by assumption)
            · have zz := hJ (h 43 a) y k z.1 (by omega) (by omega) (Or.inl z.2) (by rw [twS_T z2]; exact q1) q2 k1 k9
              rw [twS_a z2] at zz
              exact zz
  have keyT : ∀ (m : Nat) (c : Int) (h : XH), c + m = n → 0 ≤ c → paI H h → (∀ e, 0 ≤ e → e < c → twP w n g e (h 43 e)) → paH (-1, -1, -1, -1) h → xq X d 83 Q 26 [(0, (2, 39)), (1, (2, 7)), (2, (0, l)), (3, (0, c))] [] h := by
    intro m
    induction m with
    | zero =>
      intro c h hc c0 f ht hp
      have f39 := f 39 (by decide) (by decide)
      refine U_83_26 (by omega) l c w n g h ?_
      rw [f39]
      refine ⟨fun c1 => ?_, fun c1 => ?_⟩
      · skip
        refine keyO n.toNat 0 (-1, -1, -1, -1) h (by omega) (by decide) (Or.inl rfl) f (fun e x y => ht e x (by omega)) hp (fun x y k x0 xy yn q => by omega) hS
      · skip
        refine ⟨?_, ?_⟩
        · first | omega | exact paI_lk f hk | (unfold xI; omega) | (exfalso; omega)
        refine ⟨?_, ?_⟩
        · first | omega | exact paI_lk f hk | (unfold xI; omega) | (exfalso; omega)
        intro J181 c2
        refine ⟨?_, ?_⟩
        · first | omega | exact paI_lk f hk | (unfold xI; omega) | (exfalso; omega)
        refine ⟨?_, ?_⟩
        · first | omega | exact paI_lk f hk | (unfold xI; omega) | (exfalso; omega)
        exfalso
        omega
    | succ m ih =>
      intro c h hc c0 f ht hp
      have f39 := f 39 (by decide) (by decide)
      refine U_83_26 (by omega) l c w n g h ?_
      rw [f39]
      refine ⟨fun c1 => ?_, fun c1 => ?_⟩
      · skip
        exfalso
        omega
      · skip
        refine ⟨?_, ?_⟩
        · first | omega | exact paI_lk f hk | (unfold xI; omega) | (exfalso; omega)
        refine ⟨?_, ?_⟩
        · first | omega | exact paI_lk f hk | (unfold xI; omega) | (exfalso; omega)
        intro J182 c2
        have tw := c2
        refine ⟨?_, ?_⟩
        · first | omega | exact paI_lk f hk | (unfold xI; omega) | (exfalso; omega)
        refine ⟨?_, ?_⟩
        · first | omega | exact paI_lk f hk | (unfold xI; omega) | (exfalso; omega)
        refine ih (c + 1) _ (by omega) (by omega) (fun o x y => by rw [xup_ne x]; exact f o x y) (fun e x y => ?_) hp
        by_cases q : e = c
        · rw [q, xup_self]
          exact tw.1
        · rw [xup_k q]
          exact ht e x (by omega)
  have keyF : ∀ (m : Nat) (i : Int) (h : XH), i + m = 4 → 0 ≤ i → paI H h → (∀ j, 0 ≤ j → j < i → h 44 j = -1) → xq X d 83 Q 2 [(0, (2, 39)), (1, (2, 7)), (2, (0, l)), (3, (0, i))] [] h := by
    intro m
    induction m with
    | zero =>
      intro i h hi i0 f hj
      refine U_83_2 (by omega) l i w n g h ?_
      refine ⟨fun c1 => ?_, fun c1 => ?_⟩
      · skip
        exact keyT n.toNat 0 h (by omega) (by decide) f (fun e x y => by omega) ⟨hj 0 (by decide) (by omega), hj 1 (by decide) (by omega), hj 2 (by decide) (by omega), hj 3 (by decide) (by omega)⟩
      · skip
        refine ⟨?_, ?_⟩
        · first | omega | (unfold xI; omega) | (exfalso; omega)
        refine ⟨?_, ?_⟩
        · first | omega | (unfold xI; omega) | (exfalso; omega)
        exfalso
        omega
    | succ m ih =>
      intro i h hi i0 f hj
      refine U_83_2 (by omega) l i w n g h ?_
      refine ⟨fun c1 => ?_, fun c1 => ?_⟩
      · skip
        exfalso
        omega
      · skip
        refine ⟨?_, ?_⟩
        · first | omega | (unfold xI; omega) | (exfalso; omega)
        refine ⟨?_, ?_⟩
        · first | omega | (unfold xI; omega) | (exfalso; omega)
        refine ih (i + 1) _ (by omega) (by omega) (fun o x y => by rw [xup_ne y]; exact f o x y) (fun j x y => ?_)
        by_cases q : j = i
        · rw [q, xup_self]
        · rw [xup_k q]
          exact hj j x (by omega)
  refine U_83 (by omega) l w n g H ?_
  exact keyF 4 0 H (by decide) (by decide) (fun _ _ _ => rfl) (fun j x y => by omega)

theorem U_84 {X : Int × (Int → Int)} {d : Nat} {Q : Int → XH → Prop} (hd : 7 ≤ d) (l i : Int) (w n : Int) (g : Int → Int) (H : XH) (h : ((((0 ≤ l ∧ l < H 7 1)) → ((((0 ≤ i ∧ i ≤ 3)) → (InvS H) ∧ (∀ (h183 : XH), (frC H h183 ∧ lkOk (H 67 0) (H 67 1) (H 68) (h183 40) (h183 41) (h183 42) (h183 39)) → (lkA w n g h183) ∧ (btA g h183) ∧ (0 ≤ l ∧ l < g 1) ∧ (∀ (h184 : XH), (paI h183 h184 ∧ paH (pdO (smV w n g l) (soT w n g) n.toNat 0 (-1, -1, -1, -1)) h184) → ((0 : Int) ≤ i ∧ (i : Int) < 4) ∧ Q (h184 44 i) h184))) ∧ (¬ ((0 ≤ i ∧ i ≤ 3)) → Q (-1) H))) ∧ (¬ ((0 ≤ l ∧ l < H 7 1)) → Q (-1) H))) : xc X (d + 1) 84 [(2, 0), (0, l), (0, i)] H Q := by
  refine ⟨rfl, ?_⟩
  show xq X d 84 Q 100000 [(0, (2, 0)), (1, (0, l)), (2, (0, i))] [] H
  refine xq_run [11, 20, 36, 51] 300 ?_
  show xWM (xE X) xMC d 49 [(2, 7), (0, l)] xKZ H _
  refine xc_in (s_49_o7 (by omega) l H  ?_)
  replace h := h
  show xq X d 84 Q 11 [(0, (2, 0)), (1, (0, l)), (2, (0, i))] [(0, xb (0 ≤ l ∧ l < H 7 1))] H
  refine xq_run [11, 20, 36, 51] 300 ?_
  show ((xb (0 ≤ l ∧ l < H 7 1) = 0) → xfR 0 (-1) ∧ xKZ = xKZ ∧ Q (-1) H) ∧ (¬ (xb (0 ≤ l ∧ l < H 7 1) = 0) → xWM (xE X) xMC d 19 [(0, i), (0, 0), (0, 3)] xKZ H _)
  refine ⟨fun k_ => ?_, fun k_ => ?_⟩
  · replace h := h.2 (xbe_0.mp k_)
    exact ⟨trivial, rfl, h⟩
  · replace h := h.1 (xbe_1.mp k_)
    refine xc_in (s_19 (by omega) i 0 3 H  ?_)
    replace h := h
    show xq X d 84 Q 20 [(0, (2, 0)), (1, (0, l)), (2, (0, i))] [(0, xb (0 ≤ i ∧ i ≤ 3))] H
    refine xq_run [11, 20, 36, 51] 300 ?_
    show ((¬ xb (0 ≤ i ∧ i ≤ 3) = 0) → xWM (xE X) xMC d 60 [(2, 39), (2, 1)] xKZ H _) ∧ (¬ (¬ xb (0 ≤ i ∧ i ≤ 3) = 0) → xfR 0 (-1) ∧ xKZ = xKZ ∧ Q (-1) H)
    refine ⟨fun k_ => ?_, fun k_ => ?_⟩
    · replace h := h.1 (xbe_1.mp k_)
      refine xc_in (s_60 (by omega) H (h.1) ?_)
      intro h183 q_0
      replace h := h.2 h183 q_0
      show xq X d 84 Q 36 [(0, (2, 0)), (1, (0, l)), (2, (0, i))] [] h183
      refine xq_run [11, 20, 36, 51] 300 ?_
      show xWM (xE X) xMC d 83 [(2, 39), (2, 7), (0, l)] xKZ h183 _
      refine xc_in (s_83 (by omega) w n g l h183 (h.1) (h.2.1) (h.2.2.1) ?_)
      intro h184 q_0
      replace h := h.2.2.2 h184 q_0
      show xq X d 84 Q 51 [(0, (2, 0)), (1, (0, l)), (2, (0, i))] [] h184
      refine xq_run [11, 20, 36, 51] 300 ?_
      show ((0 : Int) ≤ i ∧ (i : Int) < 4) ∧ xfR 0 (h184 44 i) ∧ xKZ = xKZ ∧ Q (h184 44 i) h184
      refine ⟨h.1, ?_⟩
      replace h := h.2
      exact ⟨trivial, rfl, h⟩
    · replace h := h.2 (xbe_n.mp k_)
      exact ⟨trivial, rfl, h⟩

theorem s_84 {X : Int × (Int → Int)} {d : Nat} {Q : Int → XH → Prop} (hd : 12 ≤ d) (l i : Int) (H : XH) (hi : InvS H) (hQ : ∀ h1 : XH, frC H h1 → Q (vPart (H 67 0) (H 67 1) (H 68) l i) h1) : xc X d 84 [(2, 0), (0, l), (0, i)] H Q := by
  cases d with
  | zero => omega
  | succ d =>
  have hg := hi.1
  have hs := hi.2
  have nn := hg.nn
  have ww := hg.ww
  have l2 := hs.l2
  have hc := hs.c
  have lyb := hg.lyb
  have bnd := hg.bnd
  unfold vPart at hQ
  refine U_84 (by omega) l i (H 67 0) (H 67 1) (H 68) H ?_
  refine ⟨fun c1 => ?_, fun c1 => ?_⟩
  · skip
    refine ⟨fun c2 => ?_, fun c2 => ?_⟩
    · skip
      refine ⟨?_, ?_⟩
      · first | omega | exact hi | exact lk | exact bt | (unfold xI; omega)
      intro h185 c3
      have lk : lkA (H 67 0) (H 67 1) (H 68) h185 := And.intro hg c3.2
      have fr := c3.1
      have bt : btA (H 68) h185 := ⟨by rw [fr 7 (by decide) (by decide)]; exact hs.c, fun k x y => by rw [fr 8 (by decide) (by decide)]; exact hs.am k x y⟩
      refine ⟨?_, ?_⟩
      · first | omega | exact hi | exact lk | exact bt | (unfold xI; omega)
      refine ⟨?_, ?_⟩
      · first | omega | exact hi | exact lk | exact bt | (unfold xI; omega)
      refine ⟨?_, ?_⟩
      · first | omega | exact hi | exact lk | exact bt | (unfold xI; omega)
      intro h186 c4
      have uu := c4
      refine ⟨?_, ?_⟩
      · first | omega | exact hi | exact lk | exact bt | (unfold xI; omega)
      have k := hQ _ (frC_trans fr (fun o x y => uu.1 o (by omega) (by omega)))
      rw [if_pos (by omega)] at k
      obtain ⟨q0, q1, q2, q3⟩ := uu.2
      rcases (show i = 0 ∨ i = 1 ∨ i = 2 ∨ i = 3 by omega) with e | e | e | e <;> subst e
      · rw [if_pos (by decide), ← q0] at k
        exact k
      · rw [if_neg (by decide), if_pos (by decide), ← q1] at k
        exact k
      · rw [if_neg (by decide), if_neg (by decide), if_pos (by decide), ← q2] at k
        exact k
      · rw [if_neg (by decide), if_neg (by decide), if_neg (by decide), ← q3] at k
        exact k
    · skip
      have k := hQ _ (frC_refl H)
      rw [if_neg (by omega)] at k
      exact k
  · skip
    have k := hQ _ (frC_refl H)
    rw [if_neg (by omega)] at k
    exact k

/-- the model's soil, all else as it was -/
theorem s_43h {X : Int × (Int → Int)} {d : Nat} {Q : Int → XH → Prop} (hd : 4 ≤ d) (c : Int) (H : XH) (hg : GOk (H 67 0) (H 67 1) (H 68)) (pc : 0 ≤ c ∧ c < H 67 1) (hQ : ∀ h1 : XH, (frM H h1 ∧ h1 67 14 = soT (H 67 0) (H 67 1) (H 68) c ∧ (∀ s, 0 ≤ s → s < 5 → h1 76 s = soF (H 67 0) (H 67 1) (H 68) c s) ∧ (∀ o, ¬ o = 67 → ¬ o = 76 → h1 o = H o) ∧ ∀ k, ¬ k = 14 → h1 67 k = H 67 k) → Q (xb (¬ soT (H 67 0) (H 67 1) (H 68) c < 1)) h1) : xc X d 43 [(2, 67), (0, c)] H Q := by
  have nn := hg.nn
  have ww := hg.ww
  refine s_43 hd c H (by omega) (by omega) hg.dgb hg.ogr hg.amb pc (srcE_64 nn.2 (fun e a b => hg.ogr e a (by omega)) hg.ogE pc.1 pc.2) ?_
  have e : xb (¬ nrS (H 67 0) (H 67 1) (fun e => H 68 (160 + e)) (srcS (H 67 1) (fun e => H 68 (160 + e)) (fun e => H 68 (90 + e)) 64 c) = -1) = xb (¬ soT (H 67 0) (H 67 1) (H 68) c < 1) := by
    exact xb_congr (not_congr (soT_no hg pc).symm)
  rw [e]
  refine hQ _ ⟨frM_set (frM_67 (frM_refl H) (by decide)) (by decide), ?_, fun s a b => ?_, fun o a b => by rw [xset_o b, xup_ne a], fun k a => by rw [xset_o (by decide), xup_k a]⟩
  · rw [xset_o (by decide), xup_self]
    rfl
  · rw [xset_at, if_pos ⟨a, b⟩]
    rfl

theorem U_85 {X : Int × (Int → Int)} {d : Nat} {Q : Int → XH → Prop} (hd : 0 ≤ d) (H : XH) (h : xq X d 85 Q 2 [(0, (2, 67)), (1, (0, 0))] [] H) : xc X (d + 1) 85 [(2, 67)] H Q := by
  refine ⟨rfl, ?_⟩
  show xq X d 85 Q 100000 [(0, (2, 67))] [] H
  refine xq_run [2, 15, 18] 300 ?_
  show xq X d 85 Q 2 [(0, (2, 67)), (1, (0, 0))] [] H
  exact h
theorem U_85_2 {X : Int × (Int → Int)} {d : Nat} {Q : Int → XH → Prop} (hd : 4 ≤ d) (v1 : Int) (H : XH) (h : ((H 67 1 ≤ v1) → Q 0 H) ∧ (¬ (H 67 1 ≤ v1) → (GOk (H 67 0) (H 67 1) (H 68)) ∧ (0 ≤ v1 ∧ v1 < H 67 1) ∧ (∀ (h187 : XH), (frM H h187 ∧ h187 67 14 = soT (H 67 0) (H 67 1) (H 68) v1 ∧ (∀ s, 0 ≤ s → s < 5 → h187 76 s = soF (H 67 0) (H 67 1) (H 68) v1 s) ∧ (∀ o, ¬ o = 67 → ¬ o = 76 → h187 o = H o) ∧ ∀ k, ¬ k = 14 → h187 67 k = H 67 k) → xq X d 85 Q 18 [(0, (2, 67)), (1, (0, v1)), (2, (0, xb (¬ soT (H 67 0) (H 67 1) (H 68) v1 < 1))), (3, (0, 0))] [] h187))) : xq X d 85 Q 2 [(0, (2, 67)), (1, (0, v1))] [] H := by
  show xq X d 85 Q 2 [(0, (2, 67)), (1, (0, v1))] [] H
  refine xq_run [2, 15, 18] 300 ?_
  show ((H 67 1 ≤ v1) → xfR 2 0 ∧ xKZ = xKZ ∧ Q 0 H) ∧ (¬ (H 67 1 ≤ v1) → xWM (xE X) xMC d 43 [(2, 67), (0, v1)] xKZ H _)
  refine ⟨fun k_ => ?_, fun k_ => ?_⟩
  · replace h := h.1 k_
    exact ⟨trivial, rfl, h⟩
  · replace h := h.2 k_
    refine xc_in (s_43h (by omega) v1 H (h.1) (h.2.1) ?_)
    intro h187 q_0
    replace h := h.2.2 h187 q_0
    show xq X d 85 Q 15 [(0, (2, 67)), (1, (0, v1))] [(0, xb (¬ soT (H 67 0) (H 67 1) (H 68) v1 < 1))] h187
    refine xq_run [2, 15, 18] 300 ?_
    show xq X d 85 Q 18 [(0, (2, 67)), (1, (0, v1)), (2, (0, xb (¬ soT (H 67 0) (H 67 1) (H 68) v1 < 1))), (3, (0, 0))] [] h187
    exact h
theorem U_85_18 {X : Int × (Int → Int)} {d : Nat} {Q : Int → XH → Prop} (hd : 0 ≤ d) (v1 v2 v3 : Int) (H : XH) (h : ((5 ≤ v3) → (xI (6 * v1)) ∧ (xI ((6 * v1) + 5)) ∧ ((v2 = 0) → ((0 : Int) ≤ (6 * v1) + 5 ∧ ((6 * v1) + 5 : Int) < 384) ∧ (xI (v1 + 1)) ∧ xq X d 85 Q 2 [(0, (2, 67)), (1, (0, v1 + 1))] [] (xup H 79 ((6 * v1) + 5) 0)) ∧ (¬ (v2 = 0) → ((0 : Int) ≤ (6 * v1) + 5 ∧ ((6 * v1) + 5 : Int) < 384) ∧ (xI (v1 + 1)) ∧ xq X d 85 Q 2 [(0, (2, 67)), (1, (0, v1 + 1))] [] (xup H 79 ((6 * v1) + 5) (H 67 14)))) ∧ (¬ (5 ≤ v3) → (xI (6 * v1)) ∧ (xI ((6 * v1) + v3)) ∧ ((v2 = 0) → ((0 : Int) ≤ (6 * v1) + v3 ∧ ((6 * v1) + v3 : Int) < 384) ∧ (xI (v3 + 1)) ∧ xq X d 85 Q 18 [(0, (2, 67)), (1, (0, v1)), (2, (0, v2)), (3, (0, v3 + 1))] [] (xup H 79 ((6 * v1) + v3) 0)) ∧ (¬ (v2 = 0) → ((0 : Int) ≤ v3 ∧ (v3 : Int) < 5) ∧ ((0 : Int) ≤ (6 * v1) + v3 ∧ ((6 * v1) + v3 : Int) < 384) ∧ (xI (v3 + 1)) ∧ xq X d 85 Q 18 [(0, (2, 67)), (1, (0, v1)), (2, (0, v2)), (3, (0, v3 + 1))] [] (xup H 79 ((6 * v1) + v3) (H 76 v3))))) : xq X d 85 Q 18 [(0, (2, 67)), (1, (0, v1)), (2, (0, v2)), (3, (0, v3))] [] H := by
  show xq X d 85 Q 18 [(0, (2, 67)), (1, (0, v1)), (2, (0, v2)), (3, (0, v3))] [] H
  refine xq_run [2, 15, 18] 300 ?_
  show ((5 ≤ v3) → (xI (6 * v1)) ∧ (xI ((6 * v1) + 5)) ∧ ((v2 = 0) → ((0 : Int) ≤ (6 * v1) + 5 ∧ ((6 * v1) + 5 : Int) < 384) ∧ (xI (v1 + 1)) ∧ xq X d 85 Q 2 [(0, (2, 67)), (1, (0, v1 + 1))] [] (xup H 79 ((6 * v1) + 5) 0)) ∧ (¬ (v2 = 0) → ((0 : Int) ≤ (6 * v1) + 5 ∧ ((6 * v1) + 5 : Int) < 384) ∧ (xI (v1 + 1)) ∧ xq X d 85 Q 2 [(0, (2, 67)), (1, (0, v1 + 1))] [] (xup H 79 ((6 * v1) + 5) (H 67 14)))) ∧ (¬ (5 ≤ v3) → (xI (6 * v1)) ∧ (xI ((6 * v1) + v3)) ∧ ((v2 = 0) → ((0 : Int) ≤ (6 * v1) + v3 ∧ ((6 * v1) + v3 : Int) < 384) ∧ (xI (v3 + 1)) ∧ xq X d 85 Q 18 [(0, (2, 67)), (1, (0, v1)), (2, (0, v2)), (3, (0, v3 + 1))] [] (xup H 79 ((6 * v1) + v3) 0)) ∧ (¬ (v2 = 0) → ((0 : Int) ≤ v3 ∧ (v3 : Int) < 5) ∧ ((0 : Int) ≤ (6 * v1) + v3 ∧ ((6 * v1) + v3 : Int) < 384) ∧ (xI (v3 + 1)) ∧ xq X d 85 Q 18 [(0, (2, 67)), (1, (0, v1)), (2, (0, v2)), (3, (0, v3 + 1))] [] (xup H 79 ((6 * v1) + v3) (H 76 v3))))
  refine ⟨fun k_ => ?_, fun k_ => ?_⟩
  · replace h := h.1 k_
    refine ⟨h.1, ?_⟩
    replace h := h.2
    refine ⟨h.1, ?_⟩
    replace h := h.2
    refine ⟨fun k_ => ?_, fun k_ => ?_⟩
    · replace h := h.1 k_
      refine ⟨h.1, ?_⟩
      replace h := h.2
      refine ⟨h.1, ?_⟩
      replace h := h.2
      exact h
    · replace h := h.2 k_
      refine ⟨h.1, ?_⟩
      replace h := h.2
      refine ⟨h.1, ?_⟩
      replace h := h.2
      exact h
  · replace h := h.2 k_
    refine ⟨h.1, ?_⟩
    replace h := h.2
    refine ⟨h.1, ?_⟩
    replace h := h.2
    refine ⟨fun k_ => ?_, fun k_ => ?_⟩
    · replace h := h.1 k_
      refine ⟨h.1, ?_⟩
      replace h := h.2
      refine ⟨h.1, ?_⟩
      replace h := h.2
      exact h
    · replace h := h.2 k_
      refine ⟨h.1, ?_⟩
      replace h := h.2
      refine ⟨h.1, ?_⟩
      replace h := h.2
      refine ⟨h.1, ?_⟩
      replace h := h.2
      exact h

/-- the model's row of soils -/
def slO (w n : Int) (g : Int → Int) (e : Int) (R : Int → Int) : Prop := (∀ s, 0 ≤ s → s < 5 → 0 < soT w n g e → R (6 * e + s) = soF w n g e s) ∧ R (6 * e + 5) = (if soT w n g e < 1 then 0 else soT w n g e)
theorem s_85 {X : Int × (Int → Int)} {d : Nat} {Q : Int → XH → Prop} (hd : 6 ≤ d) (H : XH) (hg : GOk (H 67 0) (H 67 1) (H 68)) (hQ : ∀ h1 : XH, frM H h1 ∧ (∀ e, 0 ≤ e → e < H 67 1 → slO (H 67 0) (H 67 1) (H 68) e (h1 79)) → Q 0 h1) : xc X d 85 [(2, 67)] H Q := by
  cases d with
  | zero => omega
  | succ d =>
  have nn := hg.nn
  have ww := hg.ww
  have lyb := hg.lyb
  have bnd := hg.bnd
  have keyO : ∀ (m : Nat) (c : Int) (h : XH), c + m = H 67 1 → 0 ≤ c → frM H h → (∀ e, 0 ≤ e → e < c → slO (H 67 0) (H 67 1) (H 68) e (h 79)) → xq X d 85 Q 2 [(0, (2, 67)), (1, (0, c))] [] h := by
    intro m
    induction m with
    | zero =>
      intro c h hc c0 f he
      have a1 := f.2 1 (by decide)
      refine U_85_2 (by omega) c h ?_
      rw [a1]
      refine ⟨fun c1 => ?_, fun c1 => ?_⟩
      · skip
        exact hQ h ⟨f, fun e x y => he e x (by omega)⟩
      · skip
        refine ⟨?_, ?_⟩
        · first | omega | (unfold xI; omega) | (exfalso; omega)
        refine ⟨?_, ?_⟩
        · first | omega | (unfold xI; omega) | (exfalso; omega)
        intro h188 c2
        exfalso
        omega
    | succ m ih =>
      intro c h hc c0 f he
      have a0 := f.2 0 (by decide)
      have a1 := f.2 1 (by decide)
      have a8 := frM_o f 68 (by decide) (by decide)
      have rT := soT_rng hg c
      have keyI : ∀ (v : Int) (t : Int → Int) (h2 : XH), frM H h2 → h2 67 14 = soT (H 67 0) (H 67 1) (H 68) c → (∀ s, 0 ≤ s → s < 5 → h2 76 s = soF (H 67 0) (H 67 1) (H 68) c s) → h2 79 = t → (v = 0 ↔ soT (H 67 0) (H 67 1) (H 68) c < 1) → (∀ e, 0 ≤ e → e < c → slO (H 67 0) (H 67 1) (H 68) e t) → ∀ (m' : Nat) (s : Int) (h' : XH), s + m' = 5 → 0 ≤ s → frM h2 h' → h' 67 14 = h2 67 14 → h' 76 = h2 76 → (∀ k, k < 6 * c → h' 79 k = t k) → (0 < soT (H 67 0) (H 67 1) (H 68) c → ∀ j, 0 ≤ j → j < s → h' 79 (6 * c + j) = soF (H 67 0) (H 67 1) (H 68) c j) → xq X d 85 Q 18 [(0, (2, 67)), (1, (0, c)), (2, (0, v)), (3, (0, s))] [] h' := by
        intro v t h2 f2 h14 h76 h79 hv ht m'
        induction m' with
        | zero =>
          intro s h' hs s0 f' k14 k76 k79 kj
          have fin : ∀ x, x = (if soT (H 67 0) (H 67 1) (H 68) c < 1 then 0 else soT (H 67 0) (H 67 1) (H 68) c) → xq X d 85 Q 2 [(0, (2, 67)), (1, (0, c + 1))] [] (xup h' 79 (6 * c + 5) x) := fun x hx => by
            refine ih (c + 1) _ (by omega) (by omega) (frM_up (frM_trans f2 f') (by decide)) (fun e x1 y1 => ?_)
            by_cases q : e = c
            · rw [q]
              refine ⟨fun j x2 y2 z2 => ?_, ?_⟩
              · rw [xup_k (by omega)]
                exact kj z2 j x2 (by omega)
              · rw [xup_self]
                exact hx
            · obtain ⟨z1, z2⟩ := ht e x1 (by omega)
              refine ⟨fun j x2 y2 z3 => ?_, ?_⟩
              · rw [xup_k (by omega), k79 _ (by omega)]
                exact z1 j x2 y2 z3
              · rw [xup_k (by omega), k79 _ (by omega)]
                exact z2
          refine U_85_18 (by omega) c v s h' ?_
          refine ⟨fun c1 => ?_, fun c1 => ?_⟩
          · skip
            refine ⟨?_, ?_⟩
            · first | omega | (unfold xI; omega) | (exfalso; omega)
            refine ⟨?_, ?_⟩
            · first | omega | (unfold xI; omega) | (exfalso; omega)
            refine ⟨fun c2 => ?_, fun c2 => ?_⟩
            · skip
              refine ⟨?_, ?_⟩
              · first | omega | (unfold xI; omega) | (exfalso; omega)
              refine ⟨?_, ?_⟩
              · first | omega | (unfold xI; omega) | (exfalso; omega)
              exact fin 0 (by rw [if_pos (hv.mp (by omega))])
            · skip
              refine ⟨?_, ?_⟩
              · first | omega | (unfold xI; omega) | (exfalso; omega)
              refine ⟨?_, ?_⟩
              · first | omega | (unfold xI; omega) | (exfalso; omega)
              exact fin _ (by rw [k14, h14, if_neg (fun q => absurd (hv.mpr q) (by assumption))])
          · skip
            refine ⟨?_, ?_⟩
            · first | omega | (unfold xI; omega) | (exfalso; omega)
            refine ⟨?_, ?_⟩
            · first | omega | (unfold xI; omega) | (exfalso; omega)
            refine ⟨fun c3 => ?_, fun c3 => ?_⟩
            · skip
              refine ⟨?_, ?_⟩
              · first | omega | (unfold xI; omega) | (exfalso; omega)
              refine ⟨?_, ?_⟩
              · first | omega | (unfold xI; omega) | (exfalso; omega)
              exfalso
              omega
            · skip
              refine ⟨?_, ?_⟩
              · first | omega | (unfold xI; omega) | (exfalso; omega)
              refine ⟨?_, ?_⟩
              · first | omega | (unfold xI; omega) | (exfalso; omega)
              refine ⟨?_, ?_⟩
              · first | omega | (unfold xI; omega) | (exfalso; omega)
              exfalso
              omega
        | succ m' ihm =>
          intro s h' hs s0 f' k14 k76 k79 kj
          have nx : ∀ x, (0 < soT (H 67 0) (H 67 1) (H 68) c → x = soF (H 67 0) (H 67 1) (H 68) c s) → xq X d 85 Q 18 [(0, (2, 67)), (1, (0, c)), (2, (0, v)), (3, (0, s + 1))] [] (xup h' 79 (6 * c + s) x) := fun x hx => by
            refine ihm (s + 1) _ (by omega) (by omega) (frM_up f' (by decide)) k14 k76 (fun k z => ?_) (fun z j x1 y1 => ?_)
            · rw [xup_k (by omega)]
              exact k79 k z
            · by_cases q : j = s
              · rw [q, xup_self]
                exact hx z
              · rw [xup_k (by omega)]
                exact kj z j x1 (by omega)
          refine U_85_18 (by omega) c v s h' ?_
          refine ⟨fun c1 => ?_, fun c1 => ?_⟩
          · skip
            refine ⟨?_, ?_⟩
            · first | omega | (unfold xI; omega) | (exfalso; omega)
            refine ⟨?_, ?_⟩
            · first | omega | (unfold xI; omega) | (exfalso; omega)
            refine ⟨fun c2 => ?_, fun c2 => ?_⟩
            · skip
              refine ⟨?_, ?_⟩
              · first | omega | (unfold xI; omega) | (exfalso; omega)
              refine ⟨?_, ?_⟩
              · first | omega | (unfold xI; omega) | (exfalso; omega)
              exfalso
              omega
            · skip
              refine ⟨?_, ?_⟩
              · first | omega | (unfold xI; omega) | (exfalso; omega)
              refine ⟨?_, ?_⟩
              · first | omega | (unfold xI; omega) | (exfalso; omega)
              exfalso
              omega
          · skip
            refine ⟨?_, ?_⟩
            · first | omega | (unfold xI; omega) | (exfalso; omega)
            refine ⟨?_, ?_⟩
            · first | omega | (unfold xI; omega) | (exfalso; omega)
            refine ⟨fun c3 => ?_, fun c3 => ?_⟩
            · skip
              refine ⟨?_, ?_⟩
              · first | omega | (unfold xI; omega) | (exfalso; omega)
              refine ⟨?_, ?_⟩
              · first | omega | (unfold xI; omega) | (exfalso; omega)
              exact nx 0 (fun z => by have := hv.mp (by assumption); omega)
            · skip
              refine ⟨?_, ?_⟩
              · first | omega | (unfold xI; omega) | (exfalso; omega)
              refine ⟨?_, ?_⟩
              · first | omega | (unfold xI; omega) | (exfalso; omega)
              refine ⟨?_, ?_⟩
              · first | omega | (unfold xI; omega) | (exfalso; omega)
              exact nx _ (fun z => by rw [k76]; exact h76 s s0 (by omega))
      refine U_85_2 (by omega) c h ?_
      rw [a0, a1, a8]
      refine ⟨fun c1 => ?_, fun c1 => ?_⟩
      · skip
        exfalso
        omega
      · skip
        refine ⟨?_, ?_⟩
        · first | omega | exact hg | (unfold xI; omega) | (exfalso; omega)
        refine ⟨?_, ?_⟩
        · first | omega | exact hg | (unfold xI; omega) | (exfalso; omega)
        intro h191 c2
        have uu := c2
        obtain ⟨u0, u1, u2, u3, u4⟩ := uu
        exact keyI _ (h191 79) h191 (frM_trans f u0) u1 u2 rfl (by rw [xbe_0]; omega) (fun e x y => by rw [u3 79 (by decide) (by decide)]; exact he e x y) 5 0 h191 (by decide) (by decide) (frM_refl _) rfl rfl (fun _ _ => rfl) (fun _ j x y => by omega)
  refine U_85 (by omega) H ?_
  exact keyO (H 67 1).toNat 0 H (by omega) (by decide) (frM_refl H) (fun e x y => by omega)

set_option maxRecDepth 4000 in
theorem U_86 {X : Int × (Int → Int)} {d : Nat} {Q : Int → XH → Prop} (hd : 6 ≤ d) (l i : Int) (H : XH) (h : (0 ≤ H 68 1 ∧ H 68 1 ≤ 8) ∧ ((((0 ≤ l ∧ l < H 68 1)) → ((((0 ≤ i ∧ i ≤ 3)) → (GOk (H 67 0) (H 67 1) (H 68)) ∧ (∀ (h192 : XH), (frM H h192 ∧ ∀ e, 0 ≤ e → e < H 67 1 → slO (H 67 0) (H 67 1) (H 68) e (h192 79)) → (0 ≤ l ∧ l < 8) ∧ (∀ (h193 : XH), (frM h192 h193 ∧ (∀ s, 0 ≤ s → s < 5 → h193 77 s = h192 68 (560 + 5 * l + s)) ∧ ∀ o, ¬ o = 77 → h193 o = h192 o) → xq X d 86 Q 36 [(0, (2, 67)), (2, (0, i)), (3, (0, (-1))), (4, (0, 0)), (5, (0, 0))] [] h193))) ∧ (¬ ((0 ≤ i ∧ i ≤ 3)) → Q (-1) H))) ∧ (¬ ((0 ≤ l ∧ l < H 68 1)) → Q (-1) H))) : xc X (d + 1) 86 [(2, 67), (0, l), (0, i)] H Q := by
  refine ⟨rfl, ?_⟩
  show xq X d 86 Q 100000 [(0, (2, 67)), (1, (0, l)), (2, (0, i))] [] H
  refine xq_run [5, 14, 23, 28, 36, 51, 63, 107, 194] 300 ?_
  show xWM (xE X) xMC d 63 [(2, 67), (0, l)] xKZ H _
  refine xc_in (s_63 (by omega) l H (h.1) ?_)
  replace h := h.2
  show xq X d 86 Q 5 [(0, (2, 67)), (1, (0, l)), (2, (0, i))] [(0, xb (0 ≤ l ∧ l < H 68 1))] H
  refine xq_run [5, 14, 23, 28, 36, 51, 63, 107, 194] 300 ?_
  show ((xb (0 ≤ l ∧ l < H 68 1) = 0) → xfR 0 (-1) ∧ xKZ = xKZ ∧ Q (-1) H) ∧ (¬ (xb (0 ≤ l ∧ l < H 68 1) = 0) → xWM (xE X) xMC d 23 [(0, i), (0, 0), (0, 3)] xKZ H _)
  refine ⟨fun k_ => ?_, fun k_ => ?_⟩
  · replace h := h.2 (xbe_0.mp k_)
    exact ⟨trivial, rfl, h⟩
  · replace h := h.1 (xbe_1.mp k_)
    refine xc_in (s_23 (by omega) i 0 3 H  ?_)
    replace h := h
    show xq X d 86 Q 14 [(0, (2, 67)), (1, (0, l)), (2, (0, i))] [(0, xb (0 ≤ i ∧ i ≤ 3))] H
    refine xq_run [5, 14, 23, 28, 36, 51, 63, 107, 194] 300 ?_
    show ((¬ xb (0 ≤ i ∧ i ≤ 3) = 0) → xWM (xE X) xMC d 85 [(2, 67)] xKZ H _) ∧ (¬ (¬ xb (0 ≤ i ∧ i ≤ 3) = 0) → xfR 0 (-1) ∧ xKZ = xKZ ∧ Q (-1) H)
    refine ⟨fun k_ => ?_, fun k_ => ?_⟩
    · replace h := h.1 (xbe_1.mp k_)
      refine xc_in (s_85 (by omega) H (h.1) ?_)
      intro h192 q_0
      replace h := h.2 h192 q_0
      show xq X d 86 Q 23 [(0, (2, 67)), (1, (0, l)), (2, (0, i))] [] h192
      refine xq_run [5, 14, 23, 28, 36, 51, 63, 107, 194] 300 ?_
      show xWM (xE X) xMC d 64 [(2, 67), (0, l)] xKZ h192 _
      refine xc_in (s_64b (by omega) l h192 (h.1) ?_)
      intro h193 q_0
      replace h := h.2 h193 q_0
      show xq X d 86 Q 28 [(0, (2, 67)), (1, (0, l)), (2, (0, i))] [] h193
      refine xq_run [5, 14, 23, 28, 36, 51, 63, 107, 194] 300 ?_
      show xq X d 86 Q 36 [(0, (2, 67)), (2, (0, i)), (3, (0, (-1))), (4, (0, 0)), (5, (0, 0))] [] h193
      exact h
    · replace h := h.2 (xbe_n.mp k_)
      exact ⟨trivial, rfl, h⟩
theorem U_86_36 {X : Int × (Int → Int)} {d : Nat} {Q : Int → XH → Prop} (hd : 0 ≤ d) (v2 v3 v4 v5 : Int) (H : XH) (h : ((H 67 1 ≤ v5) → ((¬ v3 = (-1)) → ((¬ v2 = 0) → ((¬ v2 = 1) → ((¬ v2 = 2) → (¬ (10 : Int) = 0 ∧ xI (Int.tdiv v3 10)) ∧ Q (Int.tmod v3 10) H) ∧ (¬ (¬ v2 = 2) → (¬ (10 : Int) = 0 ∧ xI (Int.tdiv v3 10)) ∧ (¬ (64 : Int) = 0 ∧ xI (Int.tdiv (Int.tdiv v3 10) 64)) ∧ Q (Int.tmod (Int.tdiv v3 10) 64) H)) ∧ (¬ (¬ v2 = 1) → (¬ (640 : Int) = 0 ∧ xI (Int.tdiv v3 640)) ∧ Q (Int.tdiv v3 640) H)) ∧ (¬ (¬ v2 = 0) → Q v4 H)) ∧ (¬ (¬ v3 = (-1)) → Q (-1) H)) ∧ (¬ (H 67 1 ≤ v5) → (xI (v5 + 1)) ∧ xq X d 86 Q 51 [(0, (2, 67)), (2, (0, v2)), (3, (0, v3)), (4, (0, v4)), (5, (0, v5)), (6, (0, v5 + 1))] [] H)) : xq X d 86 Q 36 [(0, (2, 67)), (2, (0, v2)), (3, (0, v3)), (4, (0, v4)), (5, (0, v5))] [] H := by
  show xq X d 86 Q 36 [(0, (2, 67)), (2, (0, v2)), (3, (0, v3)), (4, (0, v4)), (5, (0, v5))] [] H
  refine xq_run [5, 14, 23, 28, 36, 51, 63, 107, 194] 300 ?_
  show ((H 67 1 ≤ v5) → ((¬ v3 = (-1)) → ((¬ v2 = 0) → ((¬ v2 = 1) → ((¬ v2 = 2) → (¬ (10 : Int) = 0 ∧ xI (Int.tdiv v3 10)) ∧ xfR 0 (Int.tmod v3 10) ∧ xKZ = xKZ ∧ Q (Int.tmod v3 10) H) ∧ (¬ (¬ v2 = 2) → (¬ (10 : Int) = 0 ∧ xI (Int.tdiv v3 10)) ∧ (¬ (64 : Int) = 0 ∧ xI (Int.tdiv (Int.tdiv v3 10) 64)) ∧ xfR 0 (Int.tmod (Int.tdiv v3 10) 64) ∧ xKZ = xKZ ∧ Q (Int.tmod (Int.tdiv v3 10) 64) H)) ∧ (¬ (¬ v2 = 1) → (¬ (640 : Int) = 0 ∧ xI (Int.tdiv v3 640)) ∧ xfR 0 (Int.tdiv v3 640) ∧ xKZ = xKZ ∧ Q (Int.tdiv v3 640) H)) ∧ (¬ (¬ v2 = 0) → xfR 0 v4 ∧ xKZ = xKZ ∧ Q v4 H)) ∧ (¬ (¬ v3 = (-1)) → xfR 0 (-1) ∧ xKZ = xKZ ∧ Q (-1) H)) ∧ (¬ (H 67 1 ≤ v5) → (xI (v5 + 1)) ∧ xq X d 86 Q 51 [(0, (2, 67)), (2, (0, v2)), (3, (0, v3)), (4, (0, v4)), (5, (0, v5)), (6, (0, v5 + 1))] [] H)
  refine ⟨fun k_ => ?_, fun k_ => ?_⟩
  · replace h := h.1 k_
    refine ⟨fun k_ => ?_, fun k_ => ?_⟩
    · replace h := h.1 k_
      refine ⟨fun k_ => ?_, fun k_ => ?_⟩
      · replace h := h.1 k_
        refine ⟨fun k_ => ?_, fun k_ => ?_⟩
        · replace h := h.1 k_
          refine ⟨fun k_ => ?_, fun k_ => ?_⟩
          · replace h := h.1 k_
            refine ⟨h.1, ?_⟩
            replace h := h.2
            exact ⟨trivial, rfl, h⟩
          · replace h := h.2 k_
            refine ⟨h.1, ?_⟩
            replace h := h.2
            refine ⟨h.1, ?_⟩
            replace h := h.2
            exact ⟨trivial, rfl, h⟩
        · replace h := h.2 k_
          refine ⟨h.1, ?_⟩
          replace h := h.2
          exact ⟨trivial, rfl, h⟩
      · replace h := h.2 k_
        exact ⟨trivial, rfl, h⟩
    · replace h := h.2 k_
      exact ⟨trivial, rfl, h⟩
  · replace h := h.2 k_
    refine ⟨h.1, ?_⟩
    replace h := h.2
    exact h
theorem U_86_51 {X : Int × (Int → Int)} {d : Nat} {Q : Int → XH → Prop} (hd : 0 ≤ d) (v2 v3 v4 v5 v6 : Int) (H : XH) (h : ((H 67 1 ≤ v6) → (xI (v5 + 1)) ∧ xq X d 86 Q 36 [(0, (2, 67)), (2, (0, v2)), (3, (0, v3)), (4, (0, v4)), (5, (0, v5 + 1))] [] H) ∧ (¬ (H 67 1 ≤ v6) → xq X d 86 Q 63 [(0, (2, 67)), (2, (0, v2)), (3, (0, v3)), (4, (0, v4)), (5, (0, v5)), (6, (0, v6)), (7, (0, 1))] [] H)) : xq X d 86 Q 51 [(0, (2, 67)), (2, (0, v2)), (3, (0, v3)), (4, (0, v4)), (5, (0, v5)), (6, (0, v6))] [] H := by
  show xq X d 86 Q 51 [(0, (2, 67)), (2, (0, v2)), (3, (0, v3)), (4, (0, v4)), (5, (0, v5)), (6, (0, v6))] [] H
  refine xq_run [5, 14, 23, 28, 36, 51, 63, 107, 194] 300 ?_
  show ((H 67 1 ≤ v6) → (xI (v5 + 1)) ∧ xq X d 86 Q 36 [(0, (2, 67)), (2, (0, v2)), (3, (0, v3)), (4, (0, v4)), (5, (0, v5 + 1))] [] H) ∧ (¬ (H 67 1 ≤ v6) → xq X d 86 Q 63 [(0, (2, 67)), (2, (0, v2)), (3, (0, v3)), (4, (0, v4)), (5, (0, v5)), (6, (0, v6)), (7, (0, 1))] [] H)
  refine ⟨fun k_ => ?_, fun k_ => ?_⟩
  · replace h := h.1 k_
    refine ⟨h.1, ?_⟩
    replace h := h.2
    exact h
  · replace h := h.2 k_
    exact h
theorem U_86_63 {X : Int × (Int → Int)} {d : Nat} {Q : Int → XH → Prop} (hd : 0 ≤ d) (v2 v3 v4 v5 v6 v7 : Int) (H : XH) (h : ((10 ≤ v7) → (xI (v6 + 1)) ∧ xq X d 86 Q 51 [(0, (2, 67)), (2, (0, v2)), (3, (0, v3)), (4, (0, v4)), (5, (0, v5)), (6, (0, v6 + 1))] [] H) ∧ (¬ (10 ≤ v7) → (xI (6 * v5)) ∧ (xI ((6 * v5) + 5)) ∧ ((0 : Int) ≤ (6 * v5) + 5 ∧ ((6 * v5) + 5 : Int) < 384) ∧ ((H 79 ((6 * v5) + 5) ≤ 0) → (xI (v6 + 1)) ∧ xq X d 86 Q 51 [(0, (2, 67)), (2, (0, v2)), (3, (0, v3)), (4, (0, v4)), (5, (0, v5)), (6, (0, v6 + 1))] [] H) ∧ (¬ (H 79 ((6 * v5) + 5) ≤ 0) → (xI (6 * v6)) ∧ (xI ((6 * v6) + 5)) ∧ ((0 : Int) ≤ (6 * v6) + 5 ∧ ((6 * v6) + 5 : Int) < 384) ∧ ((H 79 ((6 * v6) + 5) ≤ 0) → (xI (v6 + 1)) ∧ xq X d 86 Q 51 [(0, (2, 67)), (2, (0, v2)), (3, (0, v3)), (4, (0, v4)), (5, (0, v5)), (6, (0, v6 + 1))] [] H) ∧ (¬ (H 79 ((6 * v6) + 5) ≤ 0) → xq X d 86 Q 107 [(0, (2, 67)), (2, (0, v2)), (3, (0, v3)), (4, (0, v4)), (5, (0, v5)), (6, (0, v6)), (7, (0, v7)), (8, (0, 0))] [] H)))) : xq X d 86 Q 63 [(0, (2, 67)), (2, (0, v2)), (3, (0, v3)), (4, (0, v4)), (5, (0, v5)), (6, (0, v6)), (7, (0, v7))] [] H := by
  show xq X d 86 Q 63 [(0, (2, 67)), (2, (0, v2)), (3, (0, v3)), (4, (0, v4)), (5, (0, v5)), (6, (0, v6)), (7, (0, v7))] [] H
  refine xq_run [5, 14, 23, 28, 36, 51, 63, 107, 194] 300 ?_
  show ((10 ≤ v7) → (xI (v6 + 1)) ∧ xq X d 86 Q 51 [(0, (2, 67)), (2, (0, v2)), (3, (0, v3)), (4, (0, v4)), (5, (0, v5)), (6, (0, v6 + 1))] [] H) ∧ (¬ (10 ≤ v7) → (xI (6 * v5)) ∧ (xI ((6 * v5) + 5)) ∧ ((0 : Int) ≤ (6 * v5) + 5 ∧ ((6 * v5) + 5 : Int) < 384) ∧ ((xcmp (H 79 ((6 * v5) + 5)) 0 ≤ 0) → (xI (v6 + 1)) ∧ xq X d 86 Q 51 [(0, (2, 67)), (2, (0, v2)), (3, (0, v3)), (4, (0, v4)), (5, (0, v5)), (6, (0, v6 + 1))] [] H) ∧ (¬ (xcmp (H 79 ((6 * v5) + 5)) 0 ≤ 0) → (xI (6 * v6)) ∧ (xI ((6 * v6) + 5)) ∧ ((0 : Int) ≤ (6 * v6) + 5 ∧ ((6 * v6) + 5 : Int) < 384) ∧ ((xcmp (H 79 ((6 * v6) + 5)) 0 ≤ 0) → (xI (v6 + 1)) ∧ xq X d 86 Q 51 [(0, (2, 67)), (2, (0, v2)), (3, (0, v3)), (4, (0, v4)), (5, (0, v5)), (6, (0, v6 + 1))] [] H) ∧ (¬ (xcmp (H 79 ((6 * v6) + 5)) 0 ≤ 0) → xq X d 86 Q 107 [(0, (2, 67)), (2, (0, v2)), (3, (0, v3)), (4, (0, v4)), (5, (0, v5)), (6, (0, v6)), (7, (0, v7)), (8, (0, 0))] [] H)))
  refine ⟨fun k_ => ?_, fun k_ => ?_⟩
  · replace h := h.1 k_
    refine ⟨h.1, ?_⟩
    replace h := h.2
    exact h
  · replace h := h.2 k_
    refine ⟨h.1, ?_⟩
    replace h := h.2
    refine ⟨h.1, ?_⟩
    replace h := h.2
    refine ⟨h.1, ?_⟩
    replace h := h.2
    refine ⟨fun k_ => ?_, fun k_ => ?_⟩
    · replace h := h.1 (xcmp_le.mp k_)
      refine ⟨h.1, ?_⟩
      replace h := h.2
      exact h
    · replace h := h.2 (fun q => k_ (xcmp_le.mpr q))
      refine ⟨h.1, ?_⟩
      replace h := h.2
      refine ⟨h.1, ?_⟩
      replace h := h.2
      refine ⟨h.1, ?_⟩
      replace h := h.2
      refine ⟨fun k_ => ?_, fun k_ => ?_⟩
      · replace h := h.1 (xcmp_le.mp k_)
        refine ⟨h.1, ?_⟩
        replace h := h.2
        exact h
      · replace h := h.2 (fun q => k_ (xcmp_le.mpr q))
        exact h
theorem U_86_107 {X : Int × (Int → Int)} {d : Nat} {Q : Int → XH → Prop} (hd : 1 ≤ d) (v2 v3 v4 v5 v6 v7 v8 : Int) (H : XH) (h : ((5 ≤ v8) → (∀ s, 0 ≤ s → s < 5 → 0 ≤ H 77 s ∧ H 77 s ≤ 1000) ∧ (∀ s, 0 ≤ s → s < 5 → 0 ≤ H 78 s ∧ H 78 s ≤ 20000000) ∧ (1 ≤ sum5 (H 77) 0) ∧ (1 ≤ sum5 (H 78) 0) ∧ (((v3 = (-1)) → (xI (v5 * 64)) ∧ (xI ((v5 * 64) + v6)) ∧ (xI (((v5 * 64) + v6) * 10)) ∧ (xI ((((v5 * 64) + v6) * 10) + v7)) ∧ (xI (v7 + 1)) ∧ xq X d 86 Q 63 [(0, (2, 67)), (2, (0, v2)), (3, (0, (((v5 * 64) + v6) * 10) + v7)), (4, (0, farV (H 77) (H 78))), (5, (0, v5)), (6, (0, v6)), (7, (0, v7 + 1))] [] H) ∧ (¬ (v3 = (-1)) → ((v4 ≤ farV (H 77) (H 78)) → (xI (v7 + 1)) ∧ xq X d 86 Q 63 [(0, (2, 67)), (2, (0, v2)), (3, (0, v3)), (4, (0, v4)), (5, (0, v5)), (6, (0, v6)), (7, (0, v7 + 1))] [] H) ∧ (¬ (v4 ≤ farV (H 77) (H 78)) → (xI (v5 * 64)) ∧ (xI ((v5 * 64) + v6)) ∧ (xI (((v5 * 64) + v6) * 10)) ∧ (xI ((((v5 * 64) + v6) * 10) + v7)) ∧ (xI (v7 + 1)) ∧ xq X d 86 Q 63 [(0, (2, 67)), (2, (0, v2)), (3, (0, (((v5 * 64) + v6) * 10) + v7)), (4, (0, farV (H 77) (H 78))), (5, (0, v5)), (6, (0, v6)), (7, (0, v7 + 1))] [] H)))) ∧ (¬ (5 ≤ v8) → (xI (6 * v5)) ∧ (xI ((6 * v5) + v8)) ∧ ((0 : Int) ≤ (6 * v5) + v8 ∧ ((6 * v5) + v8 : Int) < 384) ∧ (xJ (v7 * (H 79 ((6 * v5) + v8)))) ∧ (xI (6 * v6)) ∧ (xI ((6 * v6) + 5)) ∧ ((0 : Int) ≤ (6 * v6) + 5 ∧ ((6 * v6) + 5 : Int) < 384) ∧ (xJ ((v7 * (H 79 ((6 * v5) + v8))) * (H 79 ((6 * v6) + 5)))) ∧ (xI (10 - v7)) ∧ (xI (6 * v6)) ∧ (xI ((6 * v6) + v8)) ∧ ((0 : Int) ≤ (6 * v6) + v8 ∧ ((6 * v6) + v8 : Int) < 384) ∧ (xJ ((10 - v7) * (H 79 ((6 * v6) + v8)))) ∧ (xI (6 * v5)) ∧ (xI ((6 * v5) + 5)) ∧ ((0 : Int) ≤ (6 * v5) + 5 ∧ ((6 * v5) + 5 : Int) < 384) ∧ (xJ (((10 - v7) * (H 79 ((6 * v6) + v8))) * (H 79 ((6 * v5) + 5)))) ∧ (xJ (((v7 * (H 79 ((6 * v5) + v8))) * (H 79 ((6 * v6) + 5))) + (((10 - v7) * (H 79 ((6 * v6) + v8))) * (H 79 ((6 * v5) + 5))))) ∧ ((0 : Int) ≤ v8 ∧ (v8 : Int) < 5) ∧ (xI (v8 + 1)) ∧ xq X d 86 Q 107 [(0, (2, 67)), (2, (0, v2)), (3, (0, v3)), (4, (0, v4)), (5, (0, v5)), (6, (0, v6)), (7, (0, v7)), (8, (0, v8 + 1))] [] (xup H 78 v8 (((v7 * (H 79 ((6 * v5) + v8))) * (H 79 ((6 * v6) + 5))) + (((10 - v7) * (H 79 ((6 * v6) + v8))) * (H 79 ((6 * v5) + 5))))))) : xq X d 86 Q 107 [(0, (2, 67)), (2, (0, v2)), (3, (0, v3)), (4, (0, v4)), (5, (0, v5)), (6, (0, v6)), (7, (0, v7)), (8, (0, v8))] [] H := by
  show xq X d 86 Q 107 [(0, (2, 67)), (2, (0, v2)), (3, (0, v3)), (4, (0, v4)), (5, (0, v5)), (6, (0, v6)), (7, (0, v7)), (8, (0, v8))] [] H
  refine xq_run [5, 14, 23, 28, 36, 51, 63, 107, 194] 300 ?_
  show ((5 ≤ v8) → xWM (xE X) xMC d 65 [(2, 67)] xKZ H _) ∧ (¬ (5 ≤ v8) → (xI (6 * v5)) ∧ (xI ((6 * v5) + v8)) ∧ ((0 : Int) ≤ (6 * v5) + v8 ∧ ((6 * v5) + v8 : Int) < 384) ∧ (xJ (v7 * (H 79 ((6 * v5) + v8)))) ∧ (xI (6 * v6)) ∧ (xI ((6 * v6) + 5)) ∧ ((0 : Int) ≤ (6 * v6) + 5 ∧ ((6 * v6) + 5 : Int) < 384) ∧ (xJ ((v7 * (H 79 ((6 * v5) + v8))) * (H 79 ((6 * v6) + 5)))) ∧ (xI (10 - v7)) ∧ (xI (6 * v6)) ∧ (xI ((6 * v6) + v8)) ∧ ((0 : Int) ≤ (6 * v6) + v8 ∧ ((6 * v6) + v8 : Int) < 384) ∧ (xJ ((10 - v7) * (H 79 ((6 * v6) + v8)))) ∧ (xI (6 * v5)) ∧ (xI ((6 * v5) + 5)) ∧ ((0 : Int) ≤ (6 * v5) + 5 ∧ ((6 * v5) + 5 : Int) < 384) ∧ (xJ (((10 - v7) * (H 79 ((6 * v6) + v8))) * (H 79 ((6 * v5) + 5)))) ∧ (xJ (((v7 * (H 79 ((6 * v5) + v8))) * (H 79 ((6 * v6) + 5))) + (((10 - v7) * (H 79 ((6 * v6) + v8))) * (H 79 ((6 * v5) + 5))))) ∧ ((0 : Int) ≤ v8 ∧ (v8 : Int) < 5) ∧ (xI (v8 + 1)) ∧ xq X d 86 Q 107 [(0, (2, 67)), (2, (0, v2)), (3, (0, v3)), (4, (0, v4)), (5, (0, v5)), (6, (0, v6)), (7, (0, v7)), (8, (0, v8 + 1))] [] (xup H 78 v8 (((v7 * (H 79 ((6 * v5) + v8))) * (H 79 ((6 * v6) + 5))) + (((10 - v7) * (H 79 ((6 * v6) + v8))) * (H 79 ((6 * v5) + 5))))))
  refine ⟨fun k_ => ?_, fun k_ => ?_⟩
  · replace h := h.1 k_
    refine xc_in (s_65 (by omega) H (h.1) (h.2.1) (h.2.2.1) (h.2.2.2.1) ?_)
    replace h := h.2.2.2.2
    show xq X d 86 Q 194 [(0, (2, 67)), (2, (0, v2)), (3, (0, v3)), (4, (0, v4)), (5, (0, v5)), (6, (0, v6)), (7, (0, v7)), (8, (0, v8))] [(0, farV (H 77) (H 78))] H
    refine xq_run [5, 14, 23, 28, 36, 51, 63, 107, 194] 300 ?_
    show ((v3 = (-1)) → (xI (v5 * 64)) ∧ (xI ((v5 * 64) + v6)) ∧ (xI (((v5 * 64) + v6) * 10)) ∧ (xI ((((v5 * 64) + v6) * 10) + v7)) ∧ (xI (v7 + 1)) ∧ xq X d 86 Q 63 [(0, (2, 67)), (2, (0, v2)), (3, (0, (((v5 * 64) + v6) * 10) + v7)), (4, (0, farV (H 77) (H 78))), (5, (0, v5)), (6, (0, v6)), (7, (0, v7 + 1))] [] H) ∧ (¬ (v3 = (-1)) → ((v4 ≤ farV (H 77) (H 78)) → (xI (v7 + 1)) ∧ xq X d 86 Q 63 [(0, (2, 67)), (2, (0, v2)), (3, (0, v3)), (4, (0, v4)), (5, (0, v5)), (6, (0, v6)), (7, (0, v7 + 1))] [] H) ∧ (¬ (v4 ≤ farV (H 77) (H 78)) → (xI (v5 * 64)) ∧ (xI ((v5 * 64) + v6)) ∧ (xI (((v5 * 64) + v6) * 10)) ∧ (xI ((((v5 * 64) + v6) * 10) + v7)) ∧ (xI (v7 + 1)) ∧ xq X d 86 Q 63 [(0, (2, 67)), (2, (0, v2)), (3, (0, (((v5 * 64) + v6) * 10) + v7)), (4, (0, farV (H 77) (H 78))), (5, (0, v5)), (6, (0, v6)), (7, (0, v7 + 1))] [] H))
    refine ⟨fun k_ => ?_, fun k_ => ?_⟩
    · replace h := h.1 k_
      refine ⟨h.1, ?_⟩
      replace h := h.2
      refine ⟨h.1, ?_⟩
      replace h := h.2
      refine ⟨h.1, ?_⟩
      replace h := h.2
      refine ⟨h.1, ?_⟩
      replace h := h.2
      refine ⟨h.1, ?_⟩
      replace h := h.2
      exact h
    · replace h := h.2 k_
      refine ⟨fun k_ => ?_, fun k_ => ?_⟩
      · replace h := h.1 k_
        refine ⟨h.1, ?_⟩
        replace h := h.2
        exact h
      · replace h := h.2 k_
        refine ⟨h.1, ?_⟩
        replace h := h.2
        refine ⟨h.1, ?_⟩
        replace h := h.2
        refine ⟨h.1, ?_⟩
        replace h := h.2
        refine ⟨h.1, ?_⟩
        replace h := h.2
        refine ⟨h.1, ?_⟩
        replace h := h.2
        exact h
  · replace h := h.2 k_
    refine ⟨h.1, ?_⟩
    replace h := h.2
    refine ⟨h.1, ?_⟩
    replace h := h.2
    refine ⟨h.1, ?_⟩
    replace h := h.2
    refine ⟨h.1, ?_⟩
    replace h := h.2
    refine ⟨h.1, ?_⟩
    replace h := h.2
    refine ⟨h.1, ?_⟩
    replace h := h.2
    refine ⟨h.1, ?_⟩
    replace h := h.2
    refine ⟨h.1, ?_⟩
    replace h := h.2
    refine ⟨h.1, ?_⟩
    replace h := h.2
    refine ⟨h.1, ?_⟩
    replace h := h.2
    refine ⟨h.1, ?_⟩
    replace h := h.2
    refine ⟨h.1, ?_⟩
    replace h := h.2
    refine ⟨h.1, ?_⟩
    replace h := h.2
    refine ⟨h.1, ?_⟩
    replace h := h.2
    refine ⟨h.1, ?_⟩
    replace h := h.2
    refine ⟨h.1, ?_⟩
    replace h := h.2
    refine ⟨h.1, ?_⟩
    replace h := h.2
    refine ⟨h.1, ?_⟩
    replace h := h.2
    refine ⟨h.1, ?_⟩
    replace h := h.2
    refine ⟨h.1, ?_⟩
    replace h := h.2
    exact h

/-- the model's state of the search -/
def pmS (s : Int × Int × Int × Int) (v t : Int) : Prop := (s = (-1, -1, -1, -1) ∧ v = -1) ∨ (((0 ≤ s.1 ∧ s.1 ≤ 1000) ∧ (0 ≤ s.2.1 ∧ s.2.1 < 64) ∧ (0 ≤ s.2.2.1 ∧ s.2.2.1 < 64) ∧ 1 ≤ s.2.2.2 ∧ s.2.2.2 ≤ 9) ∧ v = (s.2.1 * 64 + s.2.2.1) * 10 + s.2.2.2 ∧ t = s.1)

theorem s_86 {X : Int × (Int → Int)} {d : Nat} {Q : Int → XH → Prop} (hd : 12 ≤ d) (l i : Int) (H : XH) (hg : GOk (H 67 0) (H 67 1) (H 68)) (hQ : ∀ h1 : XH, frM H h1 → Q (vPart (H 67 0) (H 67 1) (H 68) l i) h1) : xc X d 86 [(2, 67), (0, l), (0, i)] H Q := by
  cases d with
  | zero => omega
  | succ d =>
  have nn := hg.nn
  have ww := hg.ww
  have lyb := hg.lyb
  have bnd := hg.bnd
  have no : ¬ ((0 ≤ l ∧ l < H 68 1) ∧ (0 ≤ i ∧ i ≤ 3)) → Q (-1) H := fun q => by
    have k := hQ _ (frM_refl H)
    unfold vPart at k
    rw [if_neg q] at k
    exact k
  have main : (0 ≤ l ∧ l < H 68 1) → (0 ≤ i ∧ i ≤ 3) → ∀ h0 : XH, frM H h0 → (∀ e, 0 ≤ e → e < H 67 1 → slO (H 67 0) (H 67 1) (H 68) e (h0 79)) → (∀ s, 0 ≤ s → s < 5 → h0 77 s = H 68 (560 + 5 * l + s)) → xq X d 86 Q 36 [(0, (2, 67)), (2, (0, i)), (3, (0, (-1))), (4, (0, 0)), (5, (0, 0))] [] h0 := by
    intro pl pi h0 f0 s79 s77
    unfold vPart at hQ
    rw [if_pos ⟨pl, pi⟩] at hQ
    obtain ⟨V, hV⟩ : ∃ V, smV (H 67 0) (H 67 1) (H 68) l = V := ⟨_, rfl⟩
    obtain ⟨T, hT⟩ : ∃ T, soT (H 67 0) (H 67 1) (H 68) = T := ⟨_, rfl⟩
    rw [hV, hT] at hQ
    obtain ⟨S, hS⟩ : ∃ S, pdO V T (H 67 1).toNat 0 (-1, -1, -1, -1) = S := ⟨_, rfl⟩
    rw [hS] at hQ
    have rV : ∀ a b k, 1 ≤ k → k ≤ 9 → 0 ≤ V a b k ∧ V a b k ≤ 1000 := fun a b k x y => by
      rw [← hV]
      exact smV_rng hg pl ⟨x, y⟩
    have rT : ∀ c, 0 ≤ T c ∧ T c ≤ 2880 := fun c => by
      rw [← hT]
      exact soT_rng hg c
    -- all but the row of the other's amounts stays
    have L77 : ∀ s, 0 ≤ s → s < 5 → 0 ≤ h0 77 s ∧ h0 77 s ≤ 99 := fun s x y => by
      have z := hg.lya (5 * l + s) (by omega) (by omega)
      rw [s77 s x y]
      rw [← Int.add_assoc] at z
      exact z
    have L77s : 1 ≤ sum5 (h0 77) 0 := by
      have z := hg.lys l pl.1 pl.2
      rw [sum5_0, s77 0 (by decide) (by decide), s77 1 (by decide) (by decide), s77 2 (by decide) (by decide), s77 3 (by decide) (by decide), s77 4 (by decide) (by decide)]
      unfold sum5 at z
      dsimp only at z
      simp only [← Int.add_assoc] at z
      rw [Int.add_zero]
      omega
    have hf : ∀ h : XH, (∀ o, ¬ o = 78 → h o = h0 o) → frM H h := fun h q => frM_trans f0 ⟨fun o x y => q o (by omega), fun k _ => by rw [q 67 (by decide)]⟩
    have b1 := f0.2 1 (by decide)
    have s79T : ∀ e, 0 ≤ e → e < H 67 1 → (h0 79 (6 * e + 5) ≤ 0 ↔ ¬ 0 < T e) ∧ (0 < T e → h0 79 (6 * e + 5) = T e) := fun e x y => by
      have z := (s79 e x y).2
      have r := rT e
      rw [hT] at z
      rw [z]
      split <;> omega
    have keyK : ∀ (a b : Int), 0 ≤ a → a < b → b < H 67 1 → 0 < T a → 0 < T b → ∀ (R : Int × Int × Int × Int), (∀ (v t : Int) (h : XH), (∀ o, ¬ o = 78 → h o = h0 o) → pmS R v t → xq X d 86 Q 51 [(0, (2, 67)), (2, (0, i)), (3, (0, v)), (4, (0, t)), (5, (0, a)), (6, (0, b + 1))] [] h) → ∀ (m : Nat) (k : Int) (s : Int × Int × Int × Int) (v t : Int) (h : XH), k + m = 10 → 1 ≤ k → (∀ o, ¬ o = 78 → h o = h0 o) → pmS s v t → pdK V a b m k s = R → xq X d 86 Q 63 [(0, (2, 67)), (2, (0, i)), (3, (0, v)), (4, (0, t)), (5, (0, a)), (6, (0, b)), (7, (0, k))] [] h := by
      intro a b a0 ab bn ta tb R nx m
      have sa := s79T a a0 (by omega)
      have sb := s79T b (by omega) bn
      induction m with
      | zero =>
        intro k s v t h hk k1 f hp hq
        unfold pdK at hq
        rw [hq] at hp
        refine U_86_63 (by omega) i v t a b k h ?_
        refine ⟨fun e1 => ?_, fun e1 => ?_⟩
        · skip
          refine ⟨?_, ?_⟩
          · first | omega | (unfold xI; omega) | (exfalso; omega)
          exact nx v t h f hp
        · skip
          refine ⟨?_, ?_⟩
          · first | omega | (unfold xI; omega) | (exfalso; omega)
          refine ⟨?_, ?_⟩
          · first | omega | (unfold xI; omega) | (exfalso; omega)
          refine ⟨?_, ?_⟩
          · first | omega | (unfold xI; omega) | (exfalso; omega)
          refine ⟨fun e2 => ?_, fun e2 => ?_⟩
          · skip
            refine ⟨?_, ?_⟩
            · first | omega | (unfold xI; omega) | (exfalso; omega)
            exfalso
            omega
          · skip
            refine ⟨?_, ?_⟩
            · first | omega | (unfold xI; omega) | (exfalso; omega)
            refine ⟨?_, ?_⟩
            · first | omega | (unfold xI; omega) | (exfalso; omega)
            refine ⟨?_, ?_⟩
            · first | omega | (unfold xI; omega) | (exfalso; omega)
            refine ⟨fun e3 => ?_, fun e3 => ?_⟩
            · skip
              refine ⟨?_, ?_⟩
              · first | omega | (unfold xI; omega) | (exfalso; omega)
              exfalso
              omega
            · skip
              exfalso
              omega
      | succ m ih =>
        intro k s v t h hk k1 f hp hq
        have f79 := f 79 (by decide)
        have f77 := f 77 (by decide)
        unfold pdK at hq
        have rVk := rV a b k k1 (by omega)
        have yes : (s.1 = -1 ∨ V a b k < s.1) → ∀ h' : XH, (∀ o, ¬ o = 78 → h' o = h0 o) → xq X d 86 Q 63 [(0, (2, 67)), (2, (0, i)), (3, (0, (a * 64 + b) * 10 + k)), (4, (0, V a b k)), (5, (0, a)), (6, (0, b)), (7, (0, k + 1))] [] h' := fun q h' f' => by
          have e : pdU V a b k s = (V a b k, a, b, k) := if_pos q
          rw [e] at hq
          exact ih (k + 1) _ _ _ h' (by omega) (by omega) f' (Or.inr ⟨⟨rVk, ⟨a0, by dsimp only; omega⟩, ⟨by dsimp only; omega, by dsimp only; omega⟩, k1, by dsimp only; omega⟩, rfl, rfl⟩) hq
        have nay : ¬ (s.1 = -1 ∨ V a b k < s.1) → ∀ h' : XH, (∀ o, ¬ o = 78 → h' o = h0 o) → xq X d 86 Q 63 [(0, (2, 67)), (2, (0, i)), (3, (0, v)), (4, (0, t)), (5, (0, a)), (6, (0, b)), (7, (0, k + 1))] [] h' := fun q h' f' => by
          have e : pdU V a b k s = s := if_neg q
          rw [e] at hq
          exact ih (k + 1) s v t h' (by omega) (by omega) f' hp hq
        have p1 : (v = -1 ↔ s.1 = -1) ∧ (¬ v = -1 → t = s.1) := by
          rcases hp with ⟨z1, z2⟩ | ⟨z1, z2, z3⟩
          · rw [z1, z2]
            exact ⟨⟨fun _ => rfl, fun _ => rfl⟩, fun q => absurd rfl q⟩
          · exact ⟨⟨fun q => by omega, fun q => by omega⟩, fun _ => z3⟩
        have keyS : ∀ (m' : Nat) (s5 : Int) (h' : XH), s5 + m' = 5 → 0 ≤ s5 → (∀ o, ¬ o = 78 → h' o = h0 o) → (∀ j, 0 ≤ j → j < s5 → h' 78 j = smF (H 67 0) (H 67 1) (H 68) a b k j) → xq X d 86 Q 107 [(0, (2, 67)), (2, (0, i)), (3, (0, v)), (4, (0, t)), (5, (0, a)), (6, (0, b)), (7, (0, k)), (8, (0, s5))] [] h' := by
          intro m'
          have sm := fun s x y => smF_rng hg (a := a) (b := b) (k := k) (s := s) ⟨k1, by omega⟩ ⟨x, y⟩
          have eS := smF_sum (H 67 0) (H 67 1) (H 68) a b k
          rw [hT] at eS
          have pT10 : 1 ≤ 10 * T a * T b := by
            have := Int.mul_le_mul (a := 1) (b := 1) (c := 10 * T a) (d := T b) (by omega) (by omega) (by omega) (by omega)
            omega
          induction m' with
          | zero =>
            intro s5 h' h5 s50 f' hj
            have g77 := f' 77 (by decide)
            have e78 : ∀ j, 0 ≤ j → j < 5 → h' 78 j = smF (H 67 0) (H 67 1) (H 68) a b k j := fun j x y => hj j x (by omega)
            have eV : farV (h0 77) (h' 78) = V a b k := by
              rw [← hV]
              exact farV_congr (fun j x y => s77 j x y) (fun j x y => e78 j x y)
            refine U_86_107 (by omega) i v t a b k s5 h' ?_
            rw [g77, eV]
            refine ⟨fun e1 => ?_, fun e1 => ?_⟩
            · skip
              refine ⟨?_, ?_⟩
              · first | omega | (intro j x y; have := L77 j x y; omega) | (intro j x y; rw [e78 j x y]; have := (sm j x y).2.2; omega) | (rw [sum5_0, e78 0 (by decide) (by decide), e78 1 (by decide) (by decide), e78 2 (by decide) (by decide), e78 3 (by decide) (by decide), e78 4 (by decide) (by decide), ← sum5_0, eS]; exact pT10) | (unfold xI; omega) | (exfalso; omega)
              refine ⟨?_, ?_⟩
              · first | omega | (intro j x y; have := L77 j x y; omega) | (intro j x y; rw [e78 j x y]; have := (sm j x y).2.2; omega) | (rw [sum5_0, e78 0 (by decide) (by decide), e78 1 (by decide) (by decide), e78 2 (by decide) (by decide), e78 3 (by decide) (by decide), e78 4 (by decide) (by decide), ← sum5_0, eS]; exact pT10) | (unfold xI; omega) | (exfalso; omega)
              refine ⟨?_, ?_⟩
              · first | omega | (intro j x y; have := L77 j x y; omega) | (intro j x y; rw [e78 j x y]; have := (sm j x y).2.2; omega) | (rw [sum5_0, e78 0 (by decide) (by decide), e78 1 (by decide) (by decide), e78 2 (by decide) (by decide), e78 3 (by decide) (by decide), e78 4 (by decide) (by decide), ← sum5_0, eS]; exact pT10) | (unfold xI; omega) | (exfalso; omega)
              refine ⟨?_, ?_⟩
              · first | omega | (intro j x y; have := L77 j x y; omega) | (intro j x y; rw [e78 j x y]; have := (sm j x y).2.2; omega) | (rw [sum5_0, e78 0 (by decide) (by decide), e78 1 (by decide) (by decide), e78 2 (by decide) (by decide), e78 3 (by decide) (by decide), e78 4 (by decide) (by decide), ← sum5_0, eS]; exact pT10) | (unfold xI; omega) | (exfalso; omega)
              refine ⟨fun e2 => ?_, fun e2 => ?_⟩
              · skip
                refine ⟨?_, ?_⟩
                · first | omega | (intro j x y; have := L77 j x y; omega) | (intro j x y; rw [e78 j x y]; have := (sm j x y).2.2; omega) | (rw [sum5_0, e78 0 (by decide) (by decide), e78 1 (by decide) (by decide), e78 2 (by decide) (by decide), e78 3 (by decide) (by decide), e78 4 (by decide) (by decide), ← sum5_0, eS]; exact pT10) | (unfold xI; omega) | (exfalso; omega)
                refine ⟨?_, ?_⟩
                · first | omega | (intro j x y; have := L77 j x y; omega) | (intro j x y; rw [e78 j x y]; have := (sm j x y).2.2; omega) | (rw [sum5_0, e78 0 (by decide) (by decide), e78 1 (by decide) (by decide), e78 2 (by decide) (by decide), e78 3 (by decide) (by decide), e78 4 (by decide) (by decide), ← sum5_0, eS]; exact pT10) | (unfold xI; omega) | (exfalso; omega)
                refine ⟨?_, ?_⟩
                · first | omega | (intro j x y; have := L77 j x y; omega) | (intro j x y; rw [e78 j x y]; have := (sm j x y).2.2; omega) | (rw [sum5_0, e78 0 (by decide) (by decide), e78 1 (by decide) (by decide), e78 2 (by decide) (by decide), e78 3 (by decide) (by decide), e78 4 (by decide) (by decide), ← sum5_0, eS]; exact pT10) | (unfold xI; omega) | (exfalso; omega)
                refine ⟨?_, ?_⟩
                · first | omega | (intro j x y; have := L77 j x y; omega) | (intro j x y; rw [e78 j x y]; have := (sm j x y).2.2; omega) | (rw [sum5_0, e78 0 (by decide) (by decide), e78 1 (by decide) (by decide), e78 2 (by decide) (by decide), e78 3 (by decide) (by decide), e78 4 (by decide) (by decide), ← sum5_0, eS]; exact pT10) | (unfold xI; omega) | (exfalso; omega)
                refine ⟨?_, ?_⟩
                · first | omega | (intro j x y; have := L77 j x y; omega) | (intro j x y; rw [e78 j x y]; have := (sm j x y).2.2; omega) | (rw [sum5_0, e78 0 (by decide) (by decide), e78 1 (by decide) (by decide), e78 2 (by decide) (by decide), e78 3 (by decide) (by decide), e78 4 (by decide) (by decide), ← sum5_0, eS]; exact pT10) | (unfold xI; omega) | (exfalso; omega)
                first | (exfalso; omega) | exact yes (by omega) h' f' | exact nay (by omega) h' f'
              · skip
                refine ⟨fun e3 => ?_, fun e3 => ?_⟩
                · skip
                  refine ⟨?_, ?_⟩
                  · first | omega | (intro j x y; have := L77 j x y; omega) | (intro j x y; rw [e78 j x y]; have := (sm j x y).2.2; omega) | (rw [sum5_0, e78 0 (by decide) (by decide), e78 1 (by decide) (by decide), e78 2 (by decide) (by decide), e78 3 (by decide) (by decide), e78 4 (by decide) (by decide), ← sum5_0, eS]; exact pT10) | (unfold xI; omega) | (exfalso; omega)
                  first | (exfalso; omega) | exact yes (by omega) h' f' | exact nay (by omega) h' f'
                · skip
                  refine ⟨?_, ?_⟩
                  · first | omega | (intro j x y; have := L77 j x y; omega) | (intro j x y; rw [e78 j x y]; have := (sm j x y).2.2; omega) | (rw [sum5_0, e78 0 (by decide) (by decide), e78 1 (by decide) (by decide), e78 2 (by decide) (by decide), e78 3 (by decide) (by decide), e78 4 (by decide) (by decide), ← sum5_0, eS]; exact pT10) | (unfold xI; omega) | (exfalso; omega)
                  refine ⟨?_, ?_⟩
                  · first | omega | (intro j x y; have := L77 j x y; omega) | (intro j x y; rw [e78 j x y]; have := (sm j x y).2.2; omega) | (rw [sum5_0, e78 0 (by decide) (by decide), e78 1 (by decide) (by decide), e78 2 (by decide) (by decide), e78 3 (by decide) (by decide), e78 4 (by decide) (by decide), ← sum5_0, eS]; exact pT10) | (unfold xI; omega) | (exfalso; omega)
                  refine ⟨?_, ?_⟩
                  · first | omega | (intro j x y; have := L77 j x y; omega) | (intro j x y; rw [e78 j x y]; have := (sm j x y).2.2; omega) | (rw [sum5_0, e78 0 (by decide) (by decide), e78 1 (by decide) (by decide), e78 2 (by decide) (by decide), e78 3 (by decide) (by decide), e78 4 (by decide) (by decide), ← sum5_0, eS]; exact pT10) | (unfold xI; omega) | (exfalso; omega)
                  refine ⟨?_, ?_⟩
                  · first | omega | (intro j x y; have := L77 j x y; omega) | (intro j x y; rw [e78 j x y]; have := (sm j x y).2.2; omega) | (rw [sum5_0, e78 0 (by decide) (by decide), e78 1 (by decide) (by decide), e78 2 (by decide) (by decide), e78 3 (by decide) (by decide), e78 4 (by decide) (by decide), ← sum5_0, eS]; exact pT10) | (unfold xI; omega) | (exfalso; omega)
                  refine ⟨?_, ?_⟩
                  · first | omega | (intro j x y; have := L77 j x y; omega) | (intro j x y; rw [e78 j x y]; have := (sm j x y).2.2; omega) | (rw [sum5_0, e78 0 (by decide) (by decide), e78 1 (by decide) (by decide), e78 2 (by decide) (by decide), e78 3 (by decide) (by decide), e78 4 (by decide) (by decide), ← sum5_0, eS]; exact pT10) | (unfold xI; omega) | (exfalso; omega)
                  first | (exfalso; omega) | exact yes (by omega) h' f' | exact nay (by omega) h' f'
            · skip
              refine ⟨?_, ?_⟩
              · first | omega | (intro j x y; have := L77 j x y; omega) | (intro j x y; rw [e78 j x y]; have := (sm j x y).2.2; omega) | (rw [sum5_0, e78 0 (by decide) (by decide), e78 1 (by decide) (by decide), e78 2 (by decide) (by decide), e78 3 (by decide) (by decide), e78 4 (by decide) (by decide), ← sum5_0, eS]; exact pT10) | (unfold xI; omega) | (exfalso; omega)
              refine ⟨?_, ?_⟩
              · first | omega | (intro j x y; have := L77 j x y; omega) | (intro j x y; rw [e78 j x y]; have := (sm j x y).2.2; omega) | (rw [sum5_0, e78 0 (by decide) (by decide), e78 1 (by decide) (by decide), e78 2 (by decide) (by decide), e78 3 (by decide) (by decide), e78 4 (by decide) (by decide), ← sum5_0, eS]; exact pT10) | (unfold xI; omega) | (exfalso; omega)
              refine ⟨?_, ?_⟩
              · first | omega | (intro j x y; have := L77 j x y; omega) | (intro j x y; rw [e78 j x y]; have := (sm j x y).2.2; omega) | (rw [sum5_0, e78 0 (by decide) (by decide), e78 1 (by decide) (by decide), e78 2 (by decide) (by decide), e78 3 (by decide) (by decide), e78 4 (by decide) (by decide), ← sum5_0, eS]; exact pT10) | (unfold xI; omega) | (exfalso; omega)
              refine ⟨?_, ?_⟩
              · first | omega | (intro j x y; have := L77 j x y; omega) | (intro j x y; rw [e78 j x y]; have := (sm j x y).2.2; omega) | (rw [sum5_0, e78 0 (by decide) (by decide), e78 1 (by decide) (by decide), e78 2 (by decide) (by decide), e78 3 (by decide) (by decide), e78 4 (by decide) (by decide), ← sum5_0, eS]; exact pT10) | (unfold xI; omega) | (exfalso; omega)
              refine ⟨?_, ?_⟩
              · first | omega | (intro j x y; have := L77 j x y; omega) | (intro j x y; rw [e78 j x y]; have := (sm j x y).2.2; omega) | (rw [sum5_0, e78 0 (by decide) (by decide), e78 1 (by decide) (by decide), e78 2 (by decide) (by decide), e78 3 (by decide) (by decide), e78 4 (by decide) (by decide), ← sum5_0, eS]; exact pT10) | (unfold xI; omega) | (exfalso; omega)
              refine ⟨?_, ?_⟩
              · first | omega | (intro j x y; have := L77 j x y; omega) | (intro j x y; rw [e78 j x y]; have := (sm j x y).2.2; omega) | (rw [sum5_0, e78 0 (by decide) (by decide), e78 1 (by decide) (by decide), e78 2 (by decide) (by decide), e78 3 (by decide) (by decide), e78 4 (by decide) (by decide), ← sum5_0, eS]; exact pT10) | (unfold xI; omega) | (exfalso; omega)
              refine ⟨?_, ?_⟩
              · first | omega | (intro j x y; have := L77 j x y; omega) | (intro j x y; rw [e78 j x y]; have := (sm j x y).2.2; omega) | (rw [sum5_0, e78 0 (by decide) (by decide), e78 1 (by decide) (by decide), e78 2 (by decide) (by decide), e78 3 (by decide) (by decide), e78 4 (by decide) (by decide), ← sum5_0, eS]; exact pT10) | (unfold xI; omega) | (exfalso; omega)
              refine ⟨?_, ?_⟩
              · first | omega | (intro j x y; have := L77 j x y; omega) | (intro j x y; rw [e78 j x y]; have := (sm j x y).2.2; omega) | (rw [sum5_0, e78 0 (by decide) (by decide), e78 1 (by decide) (by decide), e78 2 (by decide) (by decide), e78 3 (by decide) (by decide), e78 4 (by decide) (by decide), ← sum5_0, eS]; exact pT10) | (unfold xI; omega) | (exfalso; omega)
              refine ⟨?_, ?_⟩
              · first | omega | (intro j x y; have := L77 j x y; omega) | (intro j x y; rw [e78 j x y]; have := (sm j x y).2.2; omega) | (rw [sum5_0, e78 0 (by decide) (by decide), e78 1 (by decide) (by decide), e78 2 (by decide) (by decide), e78 3 (by decide) (by decide), e78 4 (by decide) (by decide), ← sum5_0, eS]; exact pT10) | (unfold xI; omega) | (exfalso; omega)
              refine ⟨?_, ?_⟩
              · first | omega | (intro j x y; have := L77 j x y; omega) | (intro j x y; rw [e78 j x y]; have := (sm j x y).2.2; omega) | (rw [sum5_0, e78 0 (by decide) (by decide), e78 1 (by decide) (by decide), e78 2 (by decide) (by decide), e78 3 (by decide) (by decide), e78 4 (by decide) (by decide), ← sum5_0, eS]; exact pT10) | (unfold xI; omega) | (exfalso; omega)
              refine ⟨?_, ?_⟩
              · first | omega | (intro j x y; have := L77 j x y; omega) | (intro j x y; rw [e78 j x y]; have := (sm j x y).2.2; omega) | (rw [sum5_0, e78 0 (by decide) (by decide), e78 1 (by decide) (by decide), e78 2 (by decide) (by decide), e78 3 (by decide) (by decide), e78 4 (by decide) (by decide), ← sum5_0, eS]; exact pT10) | (unfold xI; omega) | (exfalso; omega)
              refine ⟨?_, ?_⟩
              · first | omega | (intro j x y; have := L77 j x y; omega) | (intro j x y; rw [e78 j x y]; have := (sm j x y).2.2; omega) | (rw [sum5_0, e78 0 (by decide) (by decide), e78 1 (by decide) (by decide), e78 2 (by decide) (by decide), e78 3 (by decide) (by decide), e78 4 (by decide) (by decide), ← sum5_0, eS]; exact pT10) | (unfold xI; omega) | (exfalso; omega)
              refine ⟨?_, ?_⟩
              · first | omega | (intro j x y; have := L77 j x y; omega) | (intro j x y; rw [e78 j x y]; have := (sm j x y).2.2; omega) | (rw [sum5_0, e78 0 (by decide) (by decide), e78 1 (by decide) (by decide), e78 2 (by decide) (by decide), e78 3 (by decide) (by decide), e78 4 (by decide) (by decide), ← sum5_0, eS]; exact pT10) | (unfold xI; omega) | (exfalso; omega)
              refine ⟨?_, ?_⟩
              · first | omega | (intro j x y; have := L77 j x y; omega) | (intro j x y; rw [e78 j x y]; have := (sm j x y).2.2; omega) | (rw [sum5_0, e78 0 (by decide) (by decide), e78 1 (by decide) (by decide), e78 2 (by decide) (by decide), e78 3 (by decide) (by decide), e78 4 (by decide) (by decide), ← sum5_0, eS]; exact pT10) | (unfold xI; omega) | (exfalso; omega)
              refine ⟨?_, ?_⟩
              · first | omega | (intro j x y; have := L77 j x y; omega) | (intro j x y; rw [e78 j x y]; have := (sm j x y).2.2; omega) | (rw [sum5_0, e78 0 (by decide) (by decide), e78 1 (by decide) (by decide), e78 2 (by decide) (by decide), e78 3 (by decide) (by decide), e78 4 (by decide) (by decide), ← sum5_0, eS]; exact pT10) | (unfold xI; omega) | (exfalso; omega)
              refine ⟨?_, ?_⟩
              · first | omega | (intro j x y; have := L77 j x y; omega) | (intro j x y; rw [e78 j x y]; have := (sm j x y).2.2; omega) | (rw [sum5_0, e78 0 (by decide) (by decide), e78 1 (by decide) (by decide), e78 2 (by decide) (by decide), e78 3 (by decide) (by decide), e78 4 (by decide) (by decide), ← sum5_0, eS]; exact pT10) | (unfold xI; omega) | (exfalso; omega)
              refine ⟨?_, ?_⟩
              · first | omega | (intro j x y; have := L77 j x y; omega) | (intro j x y; rw [e78 j x y]; have := (sm j x y).2.2; omega) | (rw [sum5_0, e78 0 (by decide) (by decide), e78 1 (by decide) (by decide), e78 2 (by decide) (by decide), e78 3 (by decide) (by decide), e78 4 (by decide) (by decide), ← sum5_0, eS]; exact pT10) | (unfold xI; omega) | (exfalso; omega)
              refine ⟨?_, ?_⟩
              · first | omega | (intro j x y; have := L77 j x y; omega) | (intro j x y; rw [e78 j x y]; have := (sm j x y).2.2; omega) | (rw [sum5_0, e78 0 (by decide) (by decide), e78 1 (by decide) (by decide), e78 2 (by decide) (by decide), e78 3 (by decide) (by decide), e78 4 (by decide) (by decide), ← sum5_0, eS]; exact pT10) | (unfold xI; omega) | (exfalso; omega)
              refine ⟨?_, ?_⟩
              · first | omega | (intro j x y; have := L77 j x y; omega) | (intro j x y; rw [e78 j x y]; have := (sm j x y).2.2; omega) | (rw [sum5_0, e78 0 (by decide) (by decide), e78 1 (by decide) (by decide), e78 2 (by decide) (by decide), e78 3 (by decide) (by decide), e78 4 (by decide) (by decide), ← sum5_0, eS]; exact pT10) | (unfold xI; omega) | (exfalso; omega)
              refine ⟨?_, ?_⟩
              · first | omega | (intro j x y; have := L77 j x y; omega) | (intro j x y; rw [e78 j x y]; have := (sm j x y).2.2; omega) | (rw [sum5_0, e78 0 (by decide) (by decide), e78 1 (by decide) (by decide), e78 2 (by decide) (by decide), e78 3 (by decide) (by decide), e78 4 (by decide) (by decide), ← sum5_0, eS]; exact pT10) | (unfold xI; omega) | (exfalso; omega)
              first | (exfalso; omega) | exact yes (by omega) h' f' | exact nay (by omega) h' f'
          | succ m' ihs =>
            intro s5 h' h5 s50 f' hj
            have g79 := f' 79 (by decide)
            have xa := (s79 a a0 (by omega)).1 s5 s50 (by omega) (by rw [hT]; exact ta)
            have xb_ := (s79 b (by omega) bn).1 s5 s50 (by omega) (by rw [hT]; exact tb)
            have ya := sa.2 ta
            have yb := sb.2 tb
            have sms := sm s5 s50 (by omega)
            unfold smF at sms
            rw [hT] at sms
            have nx2 : ∀ x, x = smF (H 67 0) (H 67 1) (H 68) a b k s5 → xq X d 86 Q 107 [(0, (2, 67)), (2, (0, i)), (3, (0, v)), (4, (0, t)), (5, (0, a)), (6, (0, b)), (7, (0, k)), (8, (0, s5 + 1))] [] (xup h' 78 s5 x) := fun x hx => by
              refine ihs (s5 + 1) _ (by omega) (by omega) (fun o q => by rw [xup_ne q]; exact f' o q) (fun j x1 y1 => ?_)
              by_cases q : j = s5
              · rw [q, xup_self]
                exact hx
              · rw [xup_k q]
                exact hj j x1 (by omega)
            refine U_86_107 (by omega) i v t a b k s5 h' ?_
            rw [g79, xa, xb_, ya, yb]
            refine ⟨fun e1 => ?_, fun e1 => ?_⟩
            · skip
              refine ⟨?_, ?_⟩
              · first | omega | (unfold xJ; omega) | (unfold xI; omega) | (exfalso; omega)
              refine ⟨?_, ?_⟩
              · first | omega | (unfold xJ; omega) | (unfold xI; omega) | (exfalso; omega)
              refine ⟨?_, ?_⟩
              · first | omega | (unfold xJ; omega) | (unfold xI; omega) | (exfalso; omega)
              refine ⟨?_, ?_⟩
              · first | omega | (unfold xJ; omega) | (unfold xI; omega) | (exfalso; omega)
              refine ⟨fun e2 => ?_, fun e2 => ?_⟩
              · skip
                refine ⟨?_, ?_⟩
                · first | omega | (unfold xJ; omega) | (unfold xI; omega) | (exfalso; omega)
                refine ⟨?_, ?_⟩
                · first | omega | (unfold xJ; omega) | (unfold xI; omega) | (exfalso; omega)
                refine ⟨?_, ?_⟩
                · first | omega | (unfold xJ; omega) | (unfold xI; omega) | (exfalso; omega)
                refine ⟨?_, ?_⟩
                · first | omega | (unfold xJ; omega) | (unfold xI; omega) | (exfalso; omega)
                refine ⟨?_, ?_⟩
                · first | omega | (unfold xJ; omega) | (unfold xI; omega) | (exfalso; omega)
                exfalso
                omega
              · skip
                refine ⟨fun e3 => ?_, fun e3 => ?_⟩
                · skip
                  refine ⟨?_, ?_⟩
                  · first | omega | (unfold xJ; omega) | (unfold xI; omega) | (exfalso; omega)
                  exfalso
                  omega
                · skip
                  refine ⟨?_, ?_⟩
                  · first | omega | (unfold xJ; omega) | (unfold xI; omega) | (exfalso; omega)
                  refine ⟨?_, ?_⟩
                  · first | omega | (unfold xJ; omega) | (unfold xI; omega) | (exfalso; omega)
                  refine ⟨?_, ?_⟩
                  · first | omega | (unfold xJ; omega) | (unfold xI; omega) | (exfalso; omega)
                  refine ⟨?_, ?_⟩
                  · first | omega | (unfold xJ; omega) | (unfold xI; omega) | (exfalso; omega)
                  refine ⟨?_, ?_⟩
                  · first | omega | (unfold xJ; omega) | (unfold xI; omega) | (exfalso; omega)
                  exfalso
                  omega
            · skip
              refine ⟨?_, ?_⟩
              · first | omega | (unfold xJ; omega) | (unfold xI; omega) | (exfalso; omega)
              refine ⟨?_, ?_⟩
              · first | omega | (unfold xJ; omega) | (unfold xI; omega) | (exfalso; omega)
              refine ⟨?_, ?_⟩
              · first | omega | (unfold xJ; omega) | (unfold xI; omega) | (exfalso; omega)
              refine ⟨?_, ?_⟩
              · first | omega | (unfold xJ; omega) | (unfold xI; omega) | (exfalso; omega)
              refine ⟨?_, ?_⟩
              · first | omega | (unfold xJ; omega) | (unfold xI; omega) | (exfalso; omega)
              refine ⟨?_, ?_⟩
              · first | omega | (unfold xJ; omega) | (unfold xI; omega) | (exfalso; omega)
              refine ⟨?_, ?_⟩
              · first | omega | (unfold xJ; omega) | (unfold xI; omega) | (exfalso; omega)
              refine ⟨?_, ?_⟩
              · first | omega | (unfold xJ; omega) | (unfold xI; omega) | (exfalso; omega)
              refine ⟨?_, ?_⟩
              · first | omega | (unfold xJ; omega) | (unfold xI; omega) | (exfalso; omega)
              refine ⟨?_, ?_⟩
              · first | omega | (unfold xJ; omega) | (unfold xI; omega) | (exfalso; omega)
              refine ⟨?_, ?_⟩
              · first | omega | (unfold xJ; omega) | (unfold xI; omega) | (exfalso; omega)
              refine ⟨?_, ?_⟩
              · first | omega | (unfold xJ; omega) | (unfold xI; omega) | (exfalso; omega)
              refine ⟨?_, ?_⟩
              · first | omega | (unfold xJ; omega) | (unfold xI; omega) | (exfalso; omega)
              refine ⟨?_, ?_⟩
              · first | omega | (unfold xJ; omega) | (unfold xI; omega) | (exfalso; omega)
              refine ⟨?_, ?_⟩
              · first | omega | (unfold xJ; omega) | (unfold xI; omega) | (exfalso; omega)
              refine ⟨?_, ?_⟩
              · first | omega | (unfold xJ; omega) | (unfold xI; omega) | (exfalso; omega)
              refine ⟨?_, ?_⟩
              · first | omega | (unfold xJ; omega) | (unfold xI; omega) | (exfalso; omega)
              refine ⟨?_, ?_⟩
              · first | omega | (unfold xJ; omega) | (unfold xI; omega) | (exfalso; omega)
              refine ⟨?_, ?_⟩
              · first | omega | (unfold xJ; omega) | (unfold xI; omega) | (exfalso; omega)
              refine ⟨?_, ?_⟩
              · first | omega | (unfold xJ; omega) | (unfold xI; omega) | (exfalso; omega)
              exact nx2 _ (by unfold smF; rw [hT])
        refine U_86_63 (by omega) i v t a b k h ?_
        rw [f79]
        refine ⟨fun e1 => ?_, fun e1 => ?_⟩
        · skip
          refine ⟨?_, ?_⟩
          · first | omega | (unfold xI; omega) | (exfalso; omega)
          exfalso
          omega
        · skip
          refine ⟨?_, ?_⟩
          · first | omega | (unfold xI; omega) | (exfalso; omega)
          refine ⟨?_, ?_⟩
          · first | omega | (unfold xI; omega) | (exfalso; omega)
          refine ⟨?_, ?_⟩
          · first | omega | (unfold xI; omega) | (exfalso; omega)
          refine ⟨fun e2 => ?_, fun e2 => ?_⟩
          · skip
            refine ⟨?_, ?_⟩
            · first | omega | (unfold xI; omega) | (exfalso; omega)
            exfalso
            omega
          · skip
            refine ⟨?_, ?_⟩
            · first | omega | (unfold xI; omega) | (exfalso; omega)
            refine ⟨?_, ?_⟩
            · first | omega | (unfold xI; omega) | (exfalso; omega)
            refine ⟨?_, ?_⟩
            · first | omega | (unfold xI; omega) | (exfalso; omega)
            refine ⟨fun e3 => ?_, fun e3 => ?_⟩
            · skip
              refine ⟨?_, ?_⟩
              · first | omega | (unfold xI; omega) | (exfalso; omega)
              exfalso
              omega
            · skip
              exact keyS 5 0 h (by decide) (by decide) f (fun j x y => by omega)
    have keyI : ∀ (a : Int), 0 ≤ a → a < H 67 1 → ∀ (R : Int × Int × Int × Int), (∀ (v t : Int) (h : XH), (∀ o, ¬ o = 78 → h o = h0 o) → pmS R v t → xq X d 86 Q 36 [(0, (2, 67)), (2, (0, i)), (3, (0, v)), (4, (0, t)), (5, (0, a + 1))] [] h) → ∀ (m : Nat) (b : Int) (s : Int × Int × Int × Int) (v t : Int) (h : XH), b + m = H 67 1 → a < b → (∀ o, ¬ o = 78 → h o = h0 o) → pmS s v t → pdI V T a m b s = R → xq X d 86 Q 51 [(0, (2, 67)), (2, (0, i)), (3, (0, v)), (4, (0, t)), (5, (0, a)), (6, (0, b))] [] h := by
      intro a a0 an R nx m
      have sa := s79T a a0 an
      induction m with
      | zero =>
        intro b s v t h hb ab f hp hq
        have f67 := f 67 (by decide)
        unfold pdI at hq
        rw [hq] at hp
        refine U_86_51 (by omega) i v t a b h ?_
        rw [f67, b1]
        refine ⟨fun e1 => ?_, fun e1 => ?_⟩
        · skip
          refine ⟨?_, ?_⟩
          · first | omega | (unfold xI; omega) | (exfalso; omega)
          exact nx v t h f hp
        · skip
          exfalso
          omega
      | succ m ih =>
        intro b s v t h hb ab f hp hq
        have f67 := f 67 (by decide)
        have f79 := f 79 (by decide)
        have sb := s79T b (by omega) (by omega)
        unfold pdI at hq
        refine U_86_51 (by omega) i v t a b h ?_
        rw [f67, b1]
        have go : xq X d 86 Q 63 [(0, (2, 67)), (2, (0, i)), (3, (0, v)), (4, (0, t)), (5, (0, a)), (6, (0, b)), (7, (0, 1))] [] h := by
          by_cases q : 0 < T a ∧ 0 < T b
          · rw [if_pos q] at hq
            exact keyK a b a0 ab (by omega) q.1 q.2 (pdK V a b 9 1 s) (fun v' t' h' f' hp' => ih (b + 1) _ v' t' h' (by omega) (by omega) f' hp' hq) 9 1 s v t h (by decide) (by decide) f hp rfl
          · rw [if_neg q] at hq
            have nb : xq X d 86 Q 51 [(0, (2, 67)), (2, (0, i)), (3, (0, v)), (4, (0, t)), (5, (0, a)), (6, (0, b + 1))] [] h := ih (b + 1) s v t h (by omega) (by omega) f hp hq
            refine U_86_63 (by omega) i v t a b 1 h ?_
            rw [f79]
            refine ⟨fun e1 => ?_, fun e1 => ?_⟩
            · skip
              refine ⟨?_, ?_⟩
              · first | omega | (unfold xI; omega) | (exfalso; omega)
              first | exact nb | (exfalso; omega)
            · skip
              refine ⟨?_, ?_⟩
              · first | omega | (unfold xI; omega) | (exfalso; omega)
              refine ⟨?_, ?_⟩
              · first | omega | (unfold xI; omega) | (exfalso; omega)
              refine ⟨?_, ?_⟩
              · first | omega | (unfold xI; omega) | (exfalso; omega)
              refine ⟨fun e2 => ?_, fun e2 => ?_⟩
              · skip
                refine ⟨?_, ?_⟩
                · first | omega | (unfold xI; omega) | (exfalso; omega)
                first | exact nb | (exfalso; omega)
              · skip
                refine ⟨?_, ?_⟩
                · first | omega | (unfold xI; omega) | (exfalso; omega)
                refine ⟨?_, ?_⟩
                · first | omega | (unfold xI; omega) | (exfalso; omega)
                refine ⟨?_, ?_⟩
                · first | omega | (unfold xI; omega) | (exfalso; omega)
                refine ⟨fun e3 => ?_, fun e3 => ?_⟩
                · skip
                  refine ⟨?_, ?_⟩
                  · first | omega | (unfold xI; omega) | (exfalso; omega)
                  first | exact nb | (exfalso; omega)
                · skip
                  first | exact nb | (exfalso; omega)
        refine ⟨fun e1 => ?_, fun e1 => ?_⟩
        · skip
          refine ⟨?_, ?_⟩
          · first | omega | (unfold xI; omega) | (exfalso; omega)
          exfalso
          omega
        · skip
          exact go
    have keyO : ∀ (m : Nat) (a : Int) (s : Int × Int × Int × Int) (v t : Int) (h : XH), a + m = H 67 1 → 0 ≤ a → (∀ o, ¬ o = 78 → h o = h0 o) → pmS s v t → pdO V T m a s = S → xq X d 86 Q 36 [(0, (2, 67)), (2, (0, i)), (3, (0, v)), (4, (0, t)), (5, (0, a))] [] h := by
      intro m
      induction m with
      | zero =>
        intro a s v t h ha a0 f hp hq
        have f67 := f 67 (by decide)
        have k := hQ h (hf h f)
        unfold pdO at hq
        rw [hq] at hp
        have fin : (v = -1 → Q (-1) h) ∧ (¬ v = -1 → (i = 0 → Q t h) ∧ (i = 1 → Q (v.tdiv 640) h) ∧ (i = 2 → Q ((v.tdiv 10).tmod 64) h) ∧ (i = 3 → Q (v.tmod 10) h)) := by
          rcases hp with ⟨z1, z2⟩ | ⟨z1, z2, z3⟩
          · rw [z1] at k
            dsimp only at k
            refine ⟨fun _ => ?_, fun q => absurd z2 q⟩
            repeat' split at k
            all_goals exact k
          · have v0 : 0 ≤ v := by omega
            have v10 : 0 ≤ v.tdiv 10 := by
              rw [Int.tdiv_eq_ediv_of_nonneg v0]
              omega
            refine ⟨fun q => by omega, fun _ => ⟨fun q => ?_, fun q => ?_, fun q => ?_, fun q => ?_⟩⟩
            · rw [if_pos q] at k
              rw [z3]
              exact k
            · rw [if_neg (by omega), if_pos q] at k
              rw [Int.tdiv_eq_ediv_of_nonneg v0, show v / 640 = S.2.1 by omega]
              exact k
            · rw [if_neg (by omega), if_neg (by omega), if_pos q] at k
              rw [Int.tmod_eq_emod_of_nonneg v10, Int.tdiv_eq_ediv_of_nonneg v0, show v / 10 % 64 = S.2.2.1 by omega]
              exact k
            · rw [if_neg (by omega), if_neg (by omega), if_neg (by omega)] at k
              rw [Int.tmod_eq_emod_of_nonneg v0, show v % 10 = S.2.2.2 by omega]
              exact k
        have vb : -1 ≤ v ∧ v < 100000 := by
          rcases hp with ⟨z1, z2⟩ | ⟨z1, z2, z3⟩ <;> omega
        have dvb : ∀ x y : Int, (x = 640 ∨ x = 10 ∨ x = 64) → xI y → ¬ x = 0 ∧ xI (y.tdiv x) := fun x y hx hy => by
          refine ⟨by omega, ?_⟩
          unfold xI at hy ⊢
          by_cases q : 0 ≤ y
          · rw [Int.tdiv_eq_ediv_of_nonneg q]
            rcases hx with e | e | e <;> subst e <;> omega
          · have e : y.tdiv x = -((-y).tdiv x) := by rw [Int.neg_tdiv, Int.neg_neg]
            rw [e, Int.tdiv_eq_ediv_of_nonneg (by omega)]
            rcases hx with e | e | e <;> subst e <;> omega
        have xv : xI v := by unfold xI; omega
        refine U_86_36 (by omega) i v t a h ?_
        rw [f67, b1]
        refine ⟨fun e1 => ?_, fun e1 => ?_⟩
        · skip
          refine ⟨fun e2 => ?_, fun e2 => ?_⟩
          · skip
            refine ⟨fun e3 => ?_, fun e3 => ?_⟩
            · skip
              refine ⟨fun e4 => ?_, fun e4 => ?_⟩
              · skip
                refine ⟨fun e5 => ?_, fun e5 => ?_⟩
                · skip
                  refine ⟨?_, ?_⟩
                  · first | omega | (exact dvb _ _ (by decide) xv) | (exact dvb _ _ (by decide) (dvb _ _ (by decide) xv).2) | (unfold xI; omega) | (exfalso; omega)
                  first | (exfalso; omega) | exact fin.1 (by omega) | exact (fin.2 (by omega)).1 (by omega) | exact (fin.2 (by omega)).2.1 (by omega) | exact (fin.2 (by omega)).2.2.1 (by omega) | exact (fin.2 (by omega)).2.2.2 (by omega) | (rw [show v = -1 by omega]; exact fin.1 (by omega))
                · skip
                  refine ⟨?_, ?_⟩
                  · first | omega | (exact dvb _ _ (by decide) xv) | (exact dvb _ _ (by decide) (dvb _ _ (by decide) xv).2) | (unfold xI; omega) | (exfalso; omega)
                  refine ⟨?_, ?_⟩
                  · first | omega | (exact dvb _ _ (by decide) xv) | (exact dvb _ _ (by decide) (dvb _ _ (by decide) xv).2) | (unfold xI; omega) | (exfalso; omega)
                  first | (exfalso; omega) | exact fin.1 (by omega) | exact (fin.2 (by omega)).1 (by omega) | exact (fin.2 (by omega)).2.1 (by omega) | exact (fin.2 (by omega)).2.2.1 (by omega) | exact (fin.2 (by omega)).2.2.2 (by omega) | (rw [show v = -1 by omega]; exact fin.1 (by omega))
              · skip
                refine ⟨?_, ?_⟩
                · first | omega | (exact dvb _ _ (by decide) xv) | (exact dvb _ _ (by decide) (dvb _ _ (by decide) xv).2) | (unfold xI; omega) | (exfalso; omega)
                first | (exfalso; omega) | exact fin.1 (by omega) | exact (fin.2 (by omega)).1 (by omega) | exact (fin.2 (by omega)).2.1 (by omega) | exact (fin.2 (by omega)).2.2.1 (by omega) | exact (fin.2 (by omega)).2.2.2 (by omega) | (rw [show v = -1 by omega]; exact fin.1 (by omega))
            · skip
              first | (exfalso; omega) | exact fin.1 (by omega) | exact (fin.2 (by omega)).1 (by omega) | exact (fin.2 (by omega)).2.1 (by omega) | exact (fin.2 (by omega)).2.2.1 (by omega) | exact (fin.2 (by omega)).2.2.2 (by omega) | (rw [show v = -1 by omega]; exact fin.1 (by omega))
          · skip
            first | (exfalso; omega) | exact fin.1 (by omega) | exact (fin.2 (by omega)).1 (by omega) | exact (fin.2 (by omega)).2.1 (by omega) | exact (fin.2 (by omega)).2.2.1 (by omega) | exact (fin.2 (by omega)).2.2.2 (by omega) | (rw [show v = -1 by omega]; exact fin.1 (by omega))
        · skip
          refine ⟨?_, ?_⟩
          · first | omega | (exact dvb _ _ (by decide) xv) | (exact dvb _ _ (by decide) (dvb _ _ (by decide) xv).2) | (unfold xI; omega) | (exfalso; omega)
          first | (exfalso; omega) | exact fin.1 (by omega) | exact (fin.2 (by omega)).1 (by omega) | exact (fin.2 (by omega)).2.1 (by omega) | exact (fin.2 (by omega)).2.2.1 (by omega) | exact (fin.2 (by omega)).2.2.2 (by omega) | (rw [show v = -1 by omega]; exact fin.1 (by omega))
      | succ m ih =>
        intro a s v t h ha a0 f hp hq
        have f67 := f 67 (by decide)
        unfold pdO at hq
        refine U_86_36 (by omega) i v t a h ?_
        rw [f67, b1]
        refine ⟨fun e1 => ?_, fun e1 => ?_⟩
        · skip
          refine ⟨fun e2 => ?_, fun e2 => ?_⟩
          · skip
            refine ⟨fun e3 => ?_, fun e3 => ?_⟩
            · skip
              refine ⟨fun e4 => ?_, fun e4 => ?_⟩
              · skip
                refine ⟨fun e5 => ?_, fun e5 => ?_⟩
                · skip
                  refine ⟨?_, ?_⟩
                  · first | omega | (unfold xI; omega) | (exfalso; omega)
                  exfalso
                  omega
                · skip
                  refine ⟨?_, ?_⟩
                  · first | omega | (unfold xI; omega) | (exfalso; omega)
                  refine ⟨?_, ?_⟩
                  · first | omega | (unfold xI; omega) | (exfalso; omega)
                  exfalso
                  omega
              · skip
                refine ⟨?_, ?_⟩
                · first | omega | (unfold xI; omega) | (exfalso; omega)
                exfalso
                omega
            · skip
              exfalso
              omega
          · skip
            exfalso
            omega
        · skip
          refine ⟨?_, ?_⟩
          · first | omega | (unfold xI; omega) | (exfalso; omega)
          exact keyI a a0 (by omega) _ (fun v' t' h' f' hp' => ih (a + 1) _ v' t' h' (by omega) (by omega) f' hp' hq) m (a + 1) s v t h (by omega) (by omega) f hp rfl
    exact keyO (H 67 1).toNat 0 (-1, -1, -1, -1) (-1) 0 h0 (by omega) (by decide) (fun _ _ => rfl) (Or.inl ⟨rfl, rfl⟩) hS
  refine U_86 (by omega) l i H ?_
  refine ⟨?_, ?_⟩
  · first | omega | exact hg | (unfold xI; omega)
  refine ⟨fun c1 => ?_, fun c1 => ?_⟩
  · skip
    refine ⟨fun c2 => ?_, fun c2 => ?_⟩
    · skip
      refine ⟨?_, ?_⟩
      · first | omega | exact hg | (unfold xI; omega)
      intro h212 c3
      have uu := c3
      refine ⟨?_, ?_⟩
      · first | omega | exact hg | (unfold xI; omega)
      intro h213 c4
      have ww2 := c4
      exact main (by omega) (by omega) _ (frM_trans uu.1 ww2.1) (fun e x y => by rw [ww2.2.2 79 (by decide)]; exact uu.2 e x y) (fun s x y => by rw [ww2.2.1 s x y, frM_o uu.1 68 (by decide) (by decide)])
    · skip
      exact no (by omega)
  · skip
    exact no (by omega)

theorem p_parted {X : Int × (Int → Int)} {d : Nat} (hd : 12 ≤ d) (l i : Int) (H : XH) (hi : InvS H) : xc X d 84 [(2, 0), (0, l), (0, i)] H (fun r H1 => xc X d 86 [(2, 67), (0, l), (0, i)] H1 (qOk H r)) :=
  s_84 (by omega) l i H hi (fun h1 f => s_86 (by omega) l i h1 (frC_S f hi).1 (fun h2 f' => ⟨by rw [f 67 (by decide) (by decide), f 68 (by decide) (by decide)], frQ_CM f f'⟩))
