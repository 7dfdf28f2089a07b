/-! THE PURE LAYER 69: held: the table, the class -/
/-- the least cost of what is left: p walked layers, q of the boot -/
def hcV (F : Int → Int → Int) (n m a b : Int) : Nat → Nat → Int
  | 0, q => (q : Int) * b
  | p + 1, 0 => ((p + 1 : Nat) : Int) * a
  | p + 1, q + 1 => min (F (n - ((p + 1 : Nat) : Int)) (m - ((q + 1 : Nat) : Int)) + hcV F n m a b p q) (min (hcV F n m a b p (q + 1) + a) (hcV F n m a b (p + 1) q + b))
theorem hcV_0 (F : Int → Int → Int) (n m a b : Int) (q : Nat) : hcV F n m a b 0 q = (q : Int) * b := by rw [hcV]
theorem hcV_1 (F : Int → Int → Int) (n m a b : Int) (p : Nat) : hcV F n m a b (p + 1) 0 = ((p + 1 : Nat) : Int) * a := by rw [hcV]
theorem hcV_2 (F : Int → Int → Int) (n m a b : Int) (p q : Nat) : hcV F n m a b (p + 1) (q + 1) = min (F (n - ((p + 1 : Nat) : Int)) (m - ((q + 1 : Nat) : Int)) + hcV F n m a b p q) (min (hcV F n m a b p (q + 1) + a) (hcV F n m a b (p + 1) q + b)) := by rw [hcV]
def csV (F : Int → Int → Int) (n m a b i j : Int) : Int := hcV F n m a b (n - i).toNat (m - j).toNat
theorem csV_n {F : Int → Int → Int} {n m a b i j : Int} (h : n ≤ i) (hj : j ≤ m) : csV F n m a b i j = (m - j) * b := by
  unfold csV
  rw [show (n - i).toNat = 0 by omega, hcV_0]
  rw [show (((m - j).toNat : Nat) : Int) = m - j by omega]
theorem csV_m {F : Int → Int → Int} {n m a b i j : Int} (h : i < n) (hj : m ≤ j) : csV F n m a b i j = (n - i) * a := by
  unfold csV
  obtain ⟨p, hp⟩ : ∃ p, (n - i).toNat = p + 1 := ⟨(n - i).toNat - 1, by omega⟩
  rw [hp, show (m - j).toNat = 0 by omega]
  rw [hcV_1]
  rw [show ((p + 1 : Nat) : Int) = n - i by omega]
theorem csV_s {F : Int → Int → Int} {n m a b i j : Int} (h : i < n) (hj : j < m) : csV F n m a b i j = min (F i j + csV F n m a b (i + 1) (j + 1)) (min (csV F n m a b (i + 1) j + a) (csV F n m a b i (j + 1) + b)) := by
  unfold csV
  obtain ⟨p, hp⟩ : ∃ p, (n - i).toNat = p + 1 := ⟨(n - i).toNat - 1, by omega⟩
  obtain ⟨q, hq⟩ : ∃ q, (m - j).toNat = q + 1 := ⟨(m - j).toNat - 1, by omega⟩
  rw [hp, hq, show (n - (i + 1)).toNat = p by omega, show (m - (j + 1)).toNat = q by omega]
  rw [hcV_2]
  rw [show n - ((p + 1 : Nat) : Int) = i by omega, show m - ((q + 1 : Nat) : Int) = j by omega]
theorem hcV_rng {F : Int → Int → Int} {n m a b : Int} (ha : 0 ≤ a ∧ a ≤ 1000) (hb : 0 ≤ b ∧ b ≤ 1000) (hF : ∀ i j, 0 ≤ i → i < n → 0 ≤ j → j < m → 0 ≤ F i j ∧ F i j ≤ 1000) : ∀ (p q : Nat), (p : Int) ≤ n → (q : Int) ≤ m → 0 ≤ hcV F n m a b p q ∧ hcV F n m a b p q ≤ 1000 * ((p : Int) + q)
  | 0, q, _, _ => by
    have h0 := Int.mul_nonneg (Int.natCast_nonneg q) hb.1
    have h1 := Int.mul_le_mul_of_nonneg_left hb.2 (Int.natCast_nonneg q)
    rw [hcV_0]
    omega
  | p + 1, 0, _, _ => by
    have h0 := Int.mul_nonneg (Int.natCast_nonneg (p + 1)) ha.1
    have h1 := Int.mul_le_mul_of_nonneg_left ha.2 (Int.natCast_nonneg (p + 1))
    rw [hcV_1]
    omega
  | p + 1, q + 1, hp, hq => by
    have i1 := hcV_rng ha hb hF p q (by omega) (by omega)
    have i2 := hcV_rng ha hb hF p (q + 1) (by omega) hq
    have i3 := hcV_rng ha hb hF (p + 1) q hp (by omega)
    have f := hF (n - ((p + 1 : Nat) : Int)) (m - ((q + 1 : Nat) : Int)) (by omega) (by omega) (by omega) (by omega)
    rw [hcV_2]
    omega
theorem csV_rng {F : Int → Int → Int} {n m a b i j : Int} (ha : 0 ≤ a ∧ a ≤ 1000) (hb : 0 ≤ b ∧ b ≤ 1000) (hF : ∀ i j, 0 ≤ i → i < n → 0 ≤ j → j < m → 0 ≤ F i j ∧ F i j ≤ 1000) (hn : 0 ≤ n ∧ n ≤ 8) (hm : 0 ≤ m ∧ m ≤ 8) (hi : 0 ≤ i) (hj : 0 ≤ j) : 0 ≤ csV F n m a b i j ∧ csV F n m a b i j ≤ 16000 := by
  have z := hcV_rng ha hb hF (n - i).toNat (m - j).toNat (by omega) (by omega)
  unfold csV
  omega
/-- how far layer i of f is from layer j of y -/
def lfV (f y : Int → Int) (i j : Int) : Int := farV (fun s => f (5 * i + s)) (fun s => y (5 * j + s))
theorem lfV_rng {n m : Int} {f y : Int → Int} (hf : rgF n f) (hy : rgF m y) : ∀ i j, 0 ≤ i → i < n → 0 ≤ j → j < m → 0 ≤ lfV f y i j ∧ lfV f y i j ≤ 1000 := fun i j a b c e => farV_rng (a := fun s => f (5 * i + s)) (b := fun s => y (5 * j + s)) (fun s p q => (hf _ (by omega) (by omega)).1) (fun s p q => (hy _ (by omega) (by omega)).1)
/-- the walker's layers are n, f, the boot's m, y -/
def hCo (n m : Int) (f y : Int → Int) (h : XH) : Prop := h 59 1 = n ∧ (∀ k, 0 ≤ k → k < 5 * n → h 60 k = f k) ∧ h 7 1 = m ∧ ∀ k, 0 ≤ k → k < 5 * m → h 8 k = y k
/-- the numbers are well said -/
def hcI (n m a b : Int) (f y : Int → Int) : Prop := (0 ≤ n ∧ n ≤ 8) ∧ (0 ≤ m ∧ m ≤ 8) ∧ (0 ≤ a ∧ a ≤ 1000) ∧ (0 ≤ b ∧ b ≤ 1000) ∧ rgF n f ∧ rgF m y
theorem hcI_rng {n m a b : Int} {f y : Int → Int} (I : hcI n m a b f y) (i j : Int) (hi : 0 ≤ i) (hj : 0 ≤ j) : 0 ≤ csV (lfV f y) n m a b i j ∧ csV (lfV f y) n m a b i j ≤ 16000 := csV_rng I.2.2.1 I.2.2.2.1 (lfV_rng I.2.2.2.2.1 I.2.2.2.2.2) I.1 I.2.1 hi hj
theorem hCo_fr {n m : Int} {f y : Int → Int} {h h1 : XH} (K : hCo n m f y h) (a : h1 59 = h 59) (b : h1 60 = h 60) (c : h1 7 = h 7) (e : h1 8 = h 8) : hCo n m f y h1 := ⟨by rw [a]; exact K.1, by rw [b]; exact K.2.1, by rw [c]; exact K.2.2.1, by rw [e]; exact K.2.2.2⟩
theorem mul_8 {x a : Int} (hx : 0 ≤ x ∧ x ≤ 8) (ha : 0 ≤ a ∧ a ≤ 1000) : 0 ≤ x * a ∧ x * a ≤ 8000 := by
  have h0 := Int.mul_nonneg hx.1 ha.1
  have h1 : x * a ≤ 8 * 1000 := Int.mul_le_mul hx.2 ha.2 ha.1 (by decide)
  omega

theorem U_232 {X : Int × (Int → Int)} {d : Nat} {Q : Int → XH → Prop} (hd : 3 ≤ d) (i j : Int) (H : XH) (h : (xI (i * 5)) ∧ (xI (j * 5)) ∧ ((0 : Int) ≤ i * 5 ∧ (i * 5) + 5 ≤ 40) ∧ ((0 : Int) ≤ j * 5 ∧ (j * 5) + 5 ≤ 40) ∧ (∀ s, 0 ≤ s → s < 5 → 0 ≤ H 60 ((i * 5) + s) ∧ H 60 ((i * 5) + s) ≤ 1000) ∧ (∀ s, 0 ≤ s → s < 5 → 0 ≤ H 8 ((j * 5) + s) ∧ H 8 ((j * 5) + s) ≤ 1000) ∧ ((xI (i + 1)) ∧ (xI ((i + 1) * 9)) ∧ (xI (((i + 1) * 9) + j)) ∧ (xI ((((i + 1) * 9) + j) + 1)) ∧ ((0 : Int) ≤ (((i + 1) * 9) + j) + 1 ∧ ((((i + 1) * 9) + j) + 1 : Int) < 81) ∧ (xI ((farV (fun s => H 60 ((i * 5) + s)) (fun s => H 8 ((j * 5) + s))) + (H 66 ((((i + 1) * 9) + j) + 1)))) ∧ Q ((farV (fun s => H 60 ((i * 5) + s)) (fun s => H 8 ((j * 5) + s))) + (H 66 ((((i + 1) * 9) + j) + 1))) H)) : xc X (d + 1) 232 [(2, 64), (2, 59), (2, 7), (0, i), (0, j)] H Q := by
  refine ⟨rfl, ?_⟩
  show xq X d 232 Q 100000 [(0, (2, 64)), (1, (2, 59)), (2, (2, 7)), (3, (0, i)), (4, (0, j))] [] H
  refine xq_run [18] 300 ?_
  show (xI (i * 5)) ∧ (xI (j * 5)) ∧ xWM (xE X) xMC d 59 [(2, 60), (0, i * 5), (2, 8), (0, j * 5)] xKZ H _
  refine ⟨h.1, ?_⟩
  replace h := h.2
  refine ⟨h.1, ?_⟩
  replace h := h.2
  refine xc_in (s_59_a60_a8 (by omega) (i * 5) (j * 5) H (h.1) (h.2.1) (h.2.2.1) (h.2.2.2.1) ?_)
  replace h := h.2.2.2.2
  show xq X d 232 Q 18 [(0, (2, 64)), (1, (2, 59)), (2, (2, 7)), (3, (0, i)), (4, (0, j))] [(0, farV (fun s => H 60 ((i * 5) + s)) (fun s => H 8 ((j * 5) + s)))] H
  refine xq_run [18] 300 ?_
  show (xI (i + 1)) ∧ (xI ((i + 1) * 9)) ∧ (xI (((i + 1) * 9) + j)) ∧ (xI ((((i + 1) * 9) + j) + 1)) ∧ ((0 : Int) ≤ (((i + 1) * 9) + j) + 1 ∧ ((((i + 1) * 9) + j) + 1 : Int) < 81) ∧ (xI ((farV (fun s => H 60 ((i * 5) + s)) (fun s => H 8 ((j * 5) + s))) + (H 66 ((((i + 1) * 9) + j) + 1)))) ∧ xfR 0 ((farV (fun s => H 60 ((i * 5) + s)) (fun s => H 8 ((j * 5) + s))) + (H 66 ((((i + 1) * 9) + j) + 1))) ∧ xKZ = xKZ ∧ Q ((farV (fun s => H 60 ((i * 5) + s)) (fun s => H 8 ((j * 5) + s))) + (H 66 ((((i + 1) * 9) + j) + 1))) H
  refine ⟨h.1, ?_⟩
  replace h := h.2
  refine ⟨h.1, ?_⟩
  replace h := h.2
  refine ⟨h.1, ?_⟩
  replace h := h.2
  refine ⟨h.1, ?_⟩
  replace h := h.2
  refine ⟨h.1, ?_⟩
  replace h := h.2
  refine ⟨h.1, ?_⟩
  replace h := h.2
  exact ⟨trivial, rfl, h⟩

theorem s_232w {X : Int × (Int → Int)} {d : Nat} {Q : Int → XH → Prop} (hd : 4 ≤ d) {n m a b i j v : Int} {f y : Int → Int} {h : XH} (K : hCo n m f y h) (I : hcI n m a b f y) (hi : 0 ≤ i ∧ i < n) (hj : 0 ≤ j ∧ j < m) (e : h 66 ((i + 1) * 9 + j + 1) = v) (hv : 0 ≤ v ∧ v ≤ 16000) (hQ : ∀ z, z = lfV f y i j + v → Q z h) : xc X d 232 [(2, 64), (2, 59), (2, 7), (0, i), (0, j)] h Q := by
  cases d with
  | zero => omega
  | succ d =>
  obtain ⟨k1, k2, k3, k4⟩ := K
  obtain ⟨I1, I2, I3, I4, I5, I6⟩ := I
  have hQ := hQ _ rfl
  have fr := lfV_rng I5 I6 i j hi.1 hi.2 hj.1 hj.2
  have ef : farV (fun s => h 60 (i * 5 + s)) (fun s => h 8 (j * 5 + s)) = lfV f y i j := farV_congr (fun s p q => by rw [show i * 5 + s = 5 * i + s by omega]; exact k2 _ (by omega) (by omega)) (fun s p q => by rw [show j * 5 + s = 5 * j + s by omega]; exact k4 _ (by omega) (by omega))
  have r1 : ∀ s, 0 ≤ s → s < 5 → 0 ≤ h 60 (i * 5 + s) ∧ h 60 (i * 5 + s) ≤ 1000 := fun s p q => by
    rw [k2 _ (by omega) (by omega)]
    have := I5 (i * 5 + s) (by omega) (by omega)
    omega
  have r2 : ∀ s, 0 ≤ s → s < 5 → 0 ≤ h 8 (j * 5 + s) ∧ h 8 (j * 5 + s) ≤ 1000 := fun s p q => by
    rw [k4 _ (by omega) (by omega)]
    have := I6 (j * 5 + s) (by omega) (by omega)
    omega
  refine U_232 (by omega) i j h ?_
  rw [ef, e]
  refine ⟨?_, ?_⟩
  · first | exact r1 | exact r2 | omega | (unfold xI; omega)
  refine ⟨?_, ?_⟩
  · first | exact r1 | exact r2 | omega | (unfold xI; omega)
  refine ⟨?_, ?_⟩
  · first | exact r1 | exact r2 | omega | (unfold xI; omega)
  refine ⟨?_, ?_⟩
  · first | exact r1 | exact r2 | omega | (unfold xI; omega)
  refine ⟨?_, ?_⟩
  · first | exact r1 | exact r2 | omega | (unfold xI; omega)
  refine ⟨?_, ?_⟩
  · first | exact r1 | exact r2 | omega | (unfold xI; omega)
  refine ⟨?_, ?_⟩
  · first | exact r1 | exact r2 | omega | (unfold xI; omega)
  refine ⟨?_, ?_⟩
  · first | exact r1 | exact r2 | omega | (unfold xI; omega)
  refine ⟨?_, ?_⟩
  · first | exact r1 | exact r2 | omega | (unfold xI; omega)
  refine ⟨?_, ?_⟩
  · first | exact r1 | exact r2 | omega | (unfold xI; omega)
  refine ⟨?_, ?_⟩
  · first | exact r1 | exact r2 | omega | (unfold xI; omega)
  refine ⟨?_, ?_⟩
  · first | exact r1 | exact r2 | omega | (unfold xI; omega)
  exact hQ

theorem U_233 {X : Int × (Int → Int)} {d : Nat} {Q : Int → XH → Prop} (hd : 1 ≤ d) (i j a b : Int) (H : XH) (h : ((i < H 59 1) → ((j < H 7 1) → (xc X d 232 [(2, 64), (2, 59), (2, 7), (0, i), (0, j)] H (fun (J2317 : Int) (h2316 : XH) => (xI (i + 1)) ∧ (xI ((i + 1) * 9)) ∧ (xI (((i + 1) * 9) + j)) ∧ ((0 : Int) ≤ ((i + 1) * 9) + j ∧ (((i + 1) * 9) + j : Int) < 81) ∧ (xI ((h2316 66 (((i + 1) * 9) + j)) + a)) ∧ (xI (i * 9)) ∧ (xI ((i * 9) + j)) ∧ (xI (((i * 9) + j) + 1)) ∧ ((0 : Int) ≤ ((i * 9) + j) + 1 ∧ (((i * 9) + j) + 1 : Int) < 81) ∧ (xI ((h2316 66 (((i * 9) + j) + 1)) + b)) ∧ ((Q (min J2317 (min ((h2316 66 (((i + 1) * 9) + j)) + a) ((h2316 66 (((i * 9) + j) + 1)) + b))) h2316))))) ∧ (¬ (j < H 7 1) → (xI ((H 59 1) - i)) ∧ (xI (((H 59 1) - i) * a)) ∧ Q (((H 59 1) - i) * a) H)) ∧ (¬ (i < H 59 1) → (xI ((H 7 1) - j)) ∧ (xI (((H 7 1) - j) * b)) ∧ Q (((H 7 1) - j) * b) H)) : xc X (d + 1) 233 [(2, 64), (2, 59), (2, 7), (0, i), (0, j), (0, a), (0, b)] H Q := by
  refine ⟨rfl, ?_⟩
  show xq X d 233 Q 100000 [(0, (2, 64)), (1, (2, 59)), (2, (2, 7)), (3, (0, i)), (4, (0, j)), (5, (0, a)), (6, (0, b))] [] H
  refine xq_run [47, 96, 99] 300 ?_
  show ((i < H 59 1) → ((j < H 7 1) → xWM (xE X) xMC d 232 [(2, 64), (2, 59), (2, 7), (0, i), (0, j)] xKZ H _) ∧ (¬ (j < H 7 1) → (xI ((H 59 1) - i)) ∧ (xI (((H 59 1) - i) * a)) ∧ xfR 0 (((H 59 1) - i) * a) ∧ xKZ = xKZ ∧ Q (((H 59 1) - i) * a) H)) ∧ (¬ (i < H 59 1) → (xI ((H 7 1) - j)) ∧ (xI (((H 7 1) - j) * b)) ∧ xfR 0 (((H 7 1) - j) * b) ∧ xKZ = xKZ ∧ Q (((H 7 1) - j) * b) H)
  refine ⟨fun k_ => ?_, fun k_ => ?_⟩
  · replace h := h.1 k_
    refine ⟨fun k_ => ?_, fun k_ => ?_⟩
    · replace h := h.1 k_
      refine xc_in (xc_mono (fun J2317 h2316 q_ => ?_) h)
      replace h := q_
      show xq X d 233 Q 47 [(0, (2, 64)), (1, (2, 59)), (2, (2, 7)), (3, (0, i)), (4, (0, j)), (5, (0, a)), (6, (0, b))] [(0, J2317)] h2316
      refine xq_run [47, 96, 99] 300 ?_
      show (xI (i + 1)) ∧ (xI ((i + 1) * 9)) ∧ (xI (((i + 1) * 9) + j)) ∧ ((0 : Int) ≤ ((i + 1) * 9) + j ∧ (((i + 1) * 9) + j : Int) < 81) ∧ (xI ((h2316 66 (((i + 1) * 9) + j)) + a)) ∧ (xI (i * 9)) ∧ (xI ((i * 9) + j)) ∧ (xI (((i * 9) + j) + 1)) ∧ ((0 : Int) ≤ ((i * 9) + j) + 1 ∧ (((i * 9) + j) + 1 : Int) < 81) ∧ (xI ((h2316 66 (((i * 9) + j) + 1)) + b)) ∧ xWM (xE X) xMC d 1 [(0, (h2316 66 (((i + 1) * 9) + j)) + a), (0, (h2316 66 (((i * 9) + j) + 1)) + b)] xKZ h2316 _
      refine ⟨h.1, ?_⟩
      replace h := h.2
      refine ⟨h.1, ?_⟩
      replace h := h.2
      refine ⟨h.1, ?_⟩
      replace h := h.2
      refine ⟨h.1, ?_⟩
      replace h := h.2
      refine ⟨h.1, ?_⟩
      replace h := h.2
      refine ⟨h.1, ?_⟩
      replace h := h.2
      refine ⟨h.1, ?_⟩
      replace h := h.2
      refine ⟨h.1, ?_⟩
      replace h := h.2
      refine ⟨h.1, ?_⟩
      replace h := h.2
      refine ⟨h.1, ?_⟩
      replace h := h.2
      refine xc_in (s_1 (by omega) ((h2316 66 (((i + 1) * 9) + j)) + a) ((h2316 66 (((i * 9) + j) + 1)) + b) h2316  ?_)
      replace h := h
      show xq X d 233 Q 96 [(9, (0, (h2316 66 (((i * 9) + j) + 1)) + b)), (8, (0, (h2316 66 (((i + 1) * 9) + j)) + a)), (7, (0, J2317)), (0, (2, 64)), (1, (2, 59)), (2, (2, 7)), (3, (0, i)), (4, (0, j)), (5, (0, a)), (6, (0, b))] [(0, min ((h2316 66 (((i + 1) * 9) + j)) + a) ((h2316 66 (((i * 9) + j) + 1)) + b)), (0, J2317)] h2316
      refine xq_run [47, 96, 99] 300 ?_
      show xWM (xE X) xMC d 1 [(0, J2317), (0, min ((h2316 66 (((i + 1) * 9) + j)) + a) ((h2316 66 (((i * 9) + j) + 1)) + b))] xKZ h2316 _
      refine xc_in (s_1 (by omega) J2317 (min ((h2316 66 (((i + 1) * 9) + j)) + a) ((h2316 66 (((i * 9) + j) + 1)) + b)) h2316  ?_)
      replace h := h
      show xq X d 233 Q 99 [(9, (0, (h2316 66 (((i * 9) + j) + 1)) + b)), (8, (0, (h2316 66 (((i + 1) * 9) + j)) + a)), (7, (0, J2317)), (0, (2, 64)), (1, (2, 59)), (2, (2, 7)), (3, (0, i)), (4, (0, j)), (5, (0, a)), (6, (0, b))] [(0, min J2317 (min ((h2316 66 (((i + 1) * 9) + j)) + a) ((h2316 66 (((i * 9) + j) + 1)) + b)))] h2316
      refine xq_run [47, 96, 99] 300 ?_
      show xfR 0 (min J2317 (min ((h2316 66 (((i + 1) * 9) + j)) + a) ((h2316 66 (((i * 9) + j) + 1)) + b))) ∧ xKZ = xKZ ∧ Q (min J2317 (min ((h2316 66 (((i + 1) * 9) + j)) + a) ((h2316 66 (((i * 9) + j) + 1)) + b))) h2316
      exact ⟨trivial, rfl, h⟩
    · replace h := h.2 k_
      refine ⟨h.1, ?_⟩
      replace h := h.2
      refine ⟨h.1, ?_⟩
      replace h := h.2
      exact ⟨trivial, rfl, h⟩
  · replace h := h.2 k_
    refine ⟨h.1, ?_⟩
    replace h := h.2
    refine ⟨h.1, ?_⟩
    replace h := h.2
    exact ⟨trivial, rfl, h⟩

theorem s_233w {X : Int × (Int → Int)} {d : Nat} {Q : Int → XH → Prop} (hd : 5 ≤ d) {n m a b i j : Int} {f y : Int → Int} {h : XH} (K : hCo n m f y h) (I : hcI n m a b f y) (hi : 0 ≤ i ∧ i ≤ n) (hj : 0 ≤ j ∧ j ≤ m) (t1 : i < n → ∀ j', j ≤ j' → j' ≤ m → h 66 ((i + 1) * 9 + j') = csV (lfV f y) n m a b (i + 1) j') (t2 : j < m → h 66 (i * 9 + (j + 1)) = csV (lfV f y) n m a b i (j + 1)) (hQ : ∀ z, z = csV (lfV f y) n m a b i j → Q z h) : xc X d 233 [(2, 64), (2, 59), (2, 7), (0, i), (0, j), (0, a), (0, b)] h Q := by
  cases d with
  | zero => omega
  | succ d =>
  have hQ := hQ _ rfl
  have K0 := K
  obtain ⟨k1, k2, k3, k4⟩ := K
  have I0 := I
  obtain ⟨I1, I2, I3, I4, I5, I6⟩ := I
  have r := hcI_rng I0
  have m1 := mul_8 (x := n - i) (a := a) (by omega) I3
  have m2 := mul_8 (x := m - j) (a := b) (by omega) I4
  have qa1 : n ≤ i → Q ((m - j) * b) h := fun q => by
    rw [csV_n q hj.2] at hQ
    exact hQ
  have qa2 : i < n → m ≤ j → Q ((n - i) * a) h := fun q q2 => by
    rw [csV_m q q2] at hQ
    exact hQ
  by_cases bt : i < n ∧ j < m
  · rw [csV_s bt.1 bt.2] at hQ
    have e1 : h 66 ((i + 1) * 9 + j + 1) = csV (lfV f y) n m a b (i + 1) (j + 1) := by
      rw [show (i + 1) * 9 + j + 1 = (i + 1) * 9 + (j + 1) by omega]
      exact t1 bt.1 (j + 1) (by omega) (by omega)
    have e2 : h 66 ((i + 1) * 9 + j) = csV (lfV f y) n m a b (i + 1) j := t1 bt.1 j (by omega) (by omega)
    have e3 : h 66 (i * 9 + j + 1) = csV (lfV f y) n m a b i (j + 1) := by
      rw [show i * 9 + j + 1 = i * 9 + (j + 1) by omega]
      exact t2 bt.2
    have r1 := r (i + 1) (j + 1) (by omega) (by omega)
    have r2 := r (i + 1) j (by omega) (by omega)
    have r3 := r i (j + 1) (by omega) (by omega)
    refine U_233 (by omega) i j a b h ?_
    rw [k1, k3]
    refine ⟨fun c1 => ?_, fun c1 => ?_⟩
    · skip
      refine ⟨fun c2 => ?_, fun c2 => ?_⟩
      · skip
        refine s_232w (by omega) K0 I0 ⟨hi.1, bt.1⟩ ⟨hj.1, bt.2⟩ e1 r1 (fun J2319 ej => ?_)
        subst ej
        refine ⟨?_, ?_⟩
        · first | omega | (rw [e2]; unfold xI; omega) | (rw [e3]; unfold xI; omega) | (unfold xI; omega) | (exfalso; omega)
        refine ⟨?_, ?_⟩
        · first | omega | (rw [e2]; unfold xI; omega) | (rw [e3]; unfold xI; omega) | (unfold xI; omega) | (exfalso; omega)
        refine ⟨?_, ?_⟩
        · first | omega | (rw [e2]; unfold xI; omega) | (rw [e3]; unfold xI; omega) | (unfold xI; omega) | (exfalso; omega)
        refine ⟨?_, ?_⟩
        · first | omega | (rw [e2]; unfold xI; omega) | (rw [e3]; unfold xI; omega) | (unfold xI; omega) | (exfalso; omega)
        refine ⟨?_, ?_⟩
        · first | omega | (rw [e2]; unfold xI; omega) | (rw [e3]; unfold xI; omega) | (unfold xI; omega) | (exfalso; omega)
        refine ⟨?_, ?_⟩
        · first | omega | (rw [e2]; unfold xI; omega) | (rw [e3]; unfold xI; omega) | (unfold xI; omega) | (exfalso; omega)
        refine ⟨?_, ?_⟩
        · first | omega | (rw [e2]; unfold xI; omega) | (rw [e3]; unfold xI; omega) | (unfold xI; omega) | (exfalso; omega)
        refine ⟨?_, ?_⟩
        · first | omega | (rw [e2]; unfold xI; omega) | (rw [e3]; unfold xI; omega) | (unfold xI; omega) | (exfalso; omega)
        refine ⟨?_, ?_⟩
        · first | omega | (rw [e2]; unfold xI; omega) | (rw [e3]; unfold xI; omega) | (unfold xI; omega) | (exfalso; omega)
        refine ⟨?_, ?_⟩
        · first | omega | (rw [e2]; unfold xI; omega) | (rw [e3]; unfold xI; omega) | (unfold xI; omega) | (exfalso; omega)
        rw [e2, e3]
        exact hQ
      · skip
        refine ⟨?_, ?_⟩
        · first | omega | (rw [e2]; unfold xI; omega) | (rw [e3]; unfold xI; omega) | (unfold xI; omega) | (exfalso; omega)
        refine ⟨?_, ?_⟩
        · first | omega | (rw [e2]; unfold xI; omega) | (rw [e3]; unfold xI; omega) | (unfold xI; omega) | (exfalso; omega)
        exfalso
        omega
    · skip
      refine ⟨?_, ?_⟩
      · first | omega | (rw [e2]; unfold xI; omega) | (rw [e3]; unfold xI; omega) | (unfold xI; omega) | (exfalso; omega)
      refine ⟨?_, ?_⟩
      · first | omega | (rw [e2]; unfold xI; omega) | (rw [e3]; unfold xI; omega) | (unfold xI; omega) | (exfalso; omega)
      exfalso
      omega
  · refine U_233 (by omega) i j a b h ?_
    rw [k1, k3]
    refine ⟨fun c1 => ?_, fun c1 => ?_⟩
    · skip
      refine ⟨fun c2 => ?_, fun c2 => ?_⟩
      · skip
        exfalso
        omega
      · skip
        refine ⟨?_, ?_⟩
        · first | omega | (unfold xI; omega) | (exfalso; omega)
        refine ⟨?_, ?_⟩
        · first | omega | (unfold xI; omega) | (exfalso; omega)
        first | (exfalso; omega) | exact qa1 (by omega) | exact qa2 (by omega) (by omega)
    · skip
      refine ⟨?_, ?_⟩
      · first | omega | (unfold xI; omega) | (exfalso; omega)
      refine ⟨?_, ?_⟩
      · first | omega | (unfold xI; omega) | (exfalso; omega)
      first | (exfalso; omega) | exact qa1 (by omega) | exact qa2 (by omega) (by omega)

theorem U_235 {X : Int × (Int → Int)} {d : Nat} {Q : Int → XH → Prop} (hd : 0 ≤ d) (a b : Int) (H : XH) (h : xq X d 235 Q 6 [(0, (2, 64)), (1, (2, 59)), (2, (2, 7)), (3, (0, a)), (4, (0, b)), (5, (0, H 59 1))] [] H) : xc X (d + 1) 235 [(2, 64), (2, 59), (2, 7), (0, a), (0, b)] H Q := by
  refine ⟨rfl, ?_⟩
  show xq X d 235 Q 100000 [(0, (2, 64)), (1, (2, 59)), (2, (2, 7)), (3, (0, a)), (4, (0, b))] [] H
  refine xq_run [6, 17, 47, 77] 300 ?_
  show xq X d 235 Q 6 [(0, (2, 64)), (1, (2, 59)), (2, (2, 7)), (3, (0, a)), (4, (0, b)), (5, (0, H 59 1))] [] H
  exact h
theorem U_235_6 {X : Int × (Int → Int)} {d : Nat} {Q : Int → XH → Prop} (hd : 0 ≤ d) (v3 v4 v5 : Int) (H : XH) (h : ((v5 < 0) → (xc X d 234 [(2, 64), (2, 59), (2, 7), (0, v3)] (xup H 64 2 (H 66 0)) (fun (J2323 : Int) (h2322 : XH) => Q 0 h2322))) ∧ (¬ (v5 < 0) → xq X d 235 Q 17 [(0, (2, 64)), (1, (2, 59)), (2, (2, 7)), (3, (0, v3)), (4, (0, v4)), (5, (0, v5)), (6, (0, H 7 1))] [] H)) : xq X d 235 Q 6 [(0, (2, 64)), (1, (2, 59)), (2, (2, 7)), (3, (0, v3)), (4, (0, v4)), (5, (0, v5))] [] H := by
  show xq X d 235 Q 6 [(0, (2, 64)), (1, (2, 59)), (2, (2, 7)), (3, (0, v3)), (4, (0, v4)), (5, (0, v5))] [] H
  refine xq_run [6, 17, 47, 77] 300 ?_
  show ((v5 < 0) → ((0 : Int) ≤ 0 ∧ (0 : Int) < 81) ∧ xWM (xE X) xMC d 234 [(2, 64), (2, 59), (2, 7), (0, v3)] xKZ (xup H 64 2 (H 66 0)) _) ∧ (¬ (v5 < 0) → xq X d 235 Q 17 [(0, (2, 64)), (1, (2, 59)), (2, (2, 7)), (3, (0, v3)), (4, (0, v4)), (5, (0, v5)), (6, (0, H 7 1))] [] H)
  refine ⟨fun k_ => ?_, fun k_ => ?_⟩
  · replace h := h.1 k_
    refine ⟨⟨by decide, by decide⟩, ?_⟩
    refine xc_in (xc_mono (fun J2323 h2322 q_ => ?_) h)
    replace h := q_
    show xq X d 235 Q 77 [(0, (2, 64)), (1, (2, 59)), (2, (2, 7)), (3, (0, v3)), (4, (0, v4)), (5, (0, v5))] [] h2322
    refine xq_run [6, 17, 47, 77] 300 ?_
    show xfR 2 0 ∧ xKZ = xKZ ∧ Q 0 h2322
    exact ⟨trivial, rfl, h⟩
  · replace h := h.2 k_
    exact h
theorem U_235_17 {X : Int × (Int → Int)} {d : Nat} {Q : Int → XH → Prop} (hd : 0 ≤ d) (v3 v4 v5 v6 : Int) (H : XH) (h : ((v6 < 0) → (xI (v5 + (-1))) ∧ xq X d 235 Q 6 [(0, (2, 64)), (1, (2, 59)), (2, (2, 7)), (3, (0, v3)), (4, (0, v4)), (5, (0, v5 + (-1)))] [] H) ∧ (¬ (v6 < 0) → (xI (v5 * 9)) ∧ (xI ((v5 * 9) + v6)) ∧ (xc X d 233 [(2, 64), (2, 59), (2, 7), (0, v5), (0, v6), (0, v3), (0, v4)] H (fun (J2325 : Int) (h2324 : XH) => ((0 : Int) ≤ (v5 * 9) + v6 ∧ ((v5 * 9) + v6 : Int) < 81) ∧ (xI (v6 + (-1))) ∧ xq X d 235 Q 17 [(0, (2, 64)), (1, (2, 59)), (2, (2, 7)), (3, (0, v3)), (4, (0, v4)), (5, (0, v5)), (6, (0, v6 + (-1)))] [] (xup h2324 66 ((v5 * 9) + v6) J2325))))) : xq X d 235 Q 17 [(0, (2, 64)), (1, (2, 59)), (2, (2, 7)), (3, (0, v3)), (4, (0, v4)), (5, (0, v5)), (6, (0, v6))] [] H := by
  show xq X d 235 Q 17 [(0, (2, 64)), (1, (2, 59)), (2, (2, 7)), (3, (0, v3)), (4, (0, v4)), (5, (0, v5)), (6, (0, v6))] [] H
  refine xq_run [6, 17, 47, 77] 300 ?_
  show ((v6 < 0) → (xI (v5 + (-1))) ∧ xq X d 235 Q 6 [(0, (2, 64)), (1, (2, 59)), (2, (2, 7)), (3, (0, v3)), (4, (0, v4)), (5, (0, v5 + (-1)))] [] H) ∧ (¬ (v6 < 0) → (xI (v5 * 9)) ∧ (xI ((v5 * 9) + v6)) ∧ xWM (xE X) xMC d 233 [(2, 64), (2, 59), (2, 7), (0, v5), (0, v6), (0, v3), (0, v4)] xKZ H _)
  refine ⟨fun k_ => ?_, fun k_ => ?_⟩
  · replace h := h.1 k_
    refine ⟨h.1, ?_⟩
    replace h := h.2
    exact h
  · replace h := h.2 k_
    refine ⟨h.1, ?_⟩
    replace h := h.2
    refine ⟨h.1, ?_⟩
    replace h := h.2
    refine xc_in (xc_mono (fun J2325 h2324 q_ => ?_) h)
    replace h := q_
    show xq X d 235 Q 47 [(0, (2, 64)), (1, (2, 59)), (2, (2, 7)), (3, (0, v3)), (4, (0, v4)), (5, (0, v5)), (6, (0, v6))] [(0, J2325), (0, (v5 * 9) + v6), (2, 66)] h2324
    refine xq_run [6, 17, 47, 77] 300 ?_
    show ((0 : Int) ≤ (v5 * 9) + v6 ∧ ((v5 * 9) + v6 : Int) < 81) ∧ (xI (v6 + (-1))) ∧ xq X d 235 Q 17 [(0, (2, 64)), (1, (2, 59)), (2, (2, 7)), (3, (0, v3)), (4, (0, v4)), (5, (0, v5)), (6, (0, v6 + (-1)))] [] (xup h2324 66 ((v5 * 9) + v6) J2325)
    refine ⟨h.1, ?_⟩
    replace h := h.2
    refine ⟨h.1, ?_⟩
    replace h := h.2
    exact h

/-- the table is whole -/
def tbC (n m a b : Int) (f y : Int → Int) (h : XH) : Prop := ∀ i j, 0 ≤ i → i ≤ n → 0 ≤ j → j ≤ m → h 66 (i * 9 + j) = csV (lfV f y) n m a b i j
theorem s_235w {X : Int × (Int → Int)} {d : Nat} {Q : Int → XH → Prop} (hd : 6 ≤ d) {n m a b : Int} {f y : Int → Int} {h : XH} (K : hCo n m f y h) (I : hcI n m a b f y) (hQ : ∀ h1, (∀ o, ¬ o = 66 → h1 o = h o) → tbC n m a b f y h1 → xc X (d - 1) 234 [(2, 64), (2, 59), (2, 7), (0, a)] (xup h1 64 2 (h1 66 0)) (fun _ h2 => Q 0 h2)) : xc X d 235 [(2, 64), (2, 59), (2, 7), (0, a), (0, b)] h Q := by
  cases d with
  | zero => omega
  | succ d =>
  rw [show d + 1 - 1 = d by omega] at hQ
  have I1 := I.1
  have I2 := I.2.1
  have key2 : ∀ (r : Nat) (i : Int) (h' : XH), i + 1 = (r : Int) → i ≤ n → (∀ o, ¬ o = 66 → h' o = h o) → (∀ i' j, i < i' → i' ≤ n → 0 ≤ j → j ≤ m → h' 66 (i' * 9 + j) = csV (lfV f y) n m a b i' j) → xq X d 235 Q 6 [(0, (2, 64)), (1, (2, 59)), (2, (2, 7)), (3, (0, a)), (4, (0, b)), (5, (0, i))] [] h' := by
    intro r
    induction r with
    | zero =>
      intro i h' ei hi fo fk
      have z := hQ h' fo (fun i' j p q s t => fk i' j (by omega) q s t)
      refine U_235_6 (by omega) a b i h' ?_
      refine ⟨fun c1 => ?_, fun c1 => ?_⟩
      · skip
        exact z
      · skip
        exfalso
        omega
    | succ r ih =>
      intro i h' ei hi fo fk
      have e7 : h' 7 1 = m := by rw [fo 7 (by decide)]; exact K.2.2.1
      have key1 : ∀ (r1 : Nat) (j : Int) (h3 : XH), j + 1 = (r1 : Int) → j ≤ m → (∀ o, ¬ o = 66 → h3 o = h o) → (∀ i' j', i < i' → i' ≤ n → 0 ≤ j' → j' ≤ m → h3 66 (i' * 9 + j') = csV (lfV f y) n m a b i' j') → (∀ j', j < j' → j' ≤ m → h3 66 (i * 9 + j') = csV (lfV f y) n m a b i j') → xq X d 235 Q 17 [(0, (2, 64)), (1, (2, 59)), (2, (2, 7)), (3, (0, a)), (4, (0, b)), (5, (0, i)), (6, (0, j))] [] h3 := by
        intro r1
        induction r1 with
        | zero =>
          intro j h3 ej hj fo3 fk3 fj
          have z := ih (i + (-1)) h3 (by omega) (by omega) fo3 (fun i' j' p q s t => by
            by_cases e : i' = i
            · rw [e]
              exact fj j' (by omega) t
            · exact fk3 i' j' (by omega) q s t)
          refine U_235_17 (by omega) a b i j h3 ?_
          refine ⟨fun c1 => ?_, fun c1 => ?_⟩
          · skip
            refine ⟨?_, ?_⟩
            · first | omega | (unfold xI; omega) | (unfold xJ; omega) | (exfalso; omega)
            exact z
          · skip
            refine ⟨?_, ?_⟩
            · first | omega | (unfold xI; omega) | (unfold xJ; omega) | (exfalso; omega)
            refine ⟨?_, ?_⟩
            · first | omega | (unfold xI; omega) | (unfold xJ; omega) | (exfalso; omega)
            exfalso
            omega
        | succ r1 ih1 =>
          intro j h3 ej hj fo3 fk3 fj
          have K3 : hCo n m f y h3 := hCo_fr K (fo3 59 (by decide)) (fo3 60 (by decide)) (fo3 7 (by decide)) (fo3 8 (by decide))
          have z := ih1 (j + (-1)) (xup h3 66 (i * 9 + j) (csV (lfV f y) n m a b i j)) (by omega) (by omega) (fun o q => by rw [xup_ne q]; exact fo3 o q) (fun i' j' p q s t => by rw [xup_k (by omega)]; exact fk3 i' j' p q s t) (fun j' p q => by
            by_cases e : j' = j
            · rw [e, xup_self]
            · rw [xup_k (by omega)]
              exact fj j' (by omega) q)
          refine U_235_17 (by omega) a b i j h3 ?_
          refine ⟨fun c1 => ?_, fun c1 => ?_⟩
          · skip
            refine ⟨?_, ?_⟩
            · first | omega | (unfold xI; omega) | (unfold xJ; omega) | (exfalso; omega)
            exfalso
            omega
          · skip
            refine ⟨?_, ?_⟩
            · first | omega | (unfold xI; omega) | (unfold xJ; omega) | (exfalso; omega)
            refine ⟨?_, ?_⟩
            · first | omega | (unfold xI; omega) | (unfold xJ; omega) | (exfalso; omega)
            refine s_233w (by omega) K3 I ⟨by omega, by omega⟩ ⟨by omega, by omega⟩ (fun q j' p s => fk3 (i + 1) j' (by omega) (by omega) (by omega) s) (fun q => fj (j + 1) (by omega) (by omega)) (fun J2335 ej => ?_)
            subst ej
            refine ⟨?_, ?_⟩
            · first | omega | (unfold xI; omega) | (unfold xJ; omega) | (exfalso; omega)
            refine ⟨?_, ?_⟩
            · first | omega | (unfold xI; omega) | (unfold xJ; omega) | (exfalso; omega)
            exact z
      have z := key1 (m + 1).toNat m h' (by omega) (Int.le_refl _) fo fk (fun j' p q => absurd p (by omega))
      refine U_235_6 (by omega) a b i h' ?_
      rw [e7]
      refine ⟨fun c1 => ?_, fun c1 => ?_⟩
      · skip
        exfalso
        omega
      · skip
        exact z
  refine U_235 (by omega) a b h ?_
  rw [K.1]
  exact key2 (n + 1).toNat n h (by omega) (Int.le_refl _) (fun _ _ => rfl) (fun i' j p q _ _ => absurd p (by omega))
