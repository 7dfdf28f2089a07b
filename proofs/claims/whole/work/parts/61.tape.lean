/-! THE PURE LAYER 31: the tape, faults, about -/
/-- the tape of both: chars and bytes -/
def byR (c b : Int) : Prop := -128 ≤ b ∧ b ≤ 127 ∧ c = if b < 0 then b + 256 else b
def InvT (H : XH) : Prop := (0 ≤ H 51 3 ∧ H 51 3 ≤ 300) ∧ H 67 5 = H 51 3 ∧ ∀ k, 0 ≤ k → k < H 51 3 → byR (H 52 k) (H 70 k)
/-- the latest fault of both -/
def InvF (H : XH) : Prop := (H 51 4 = 0 ∧ H 67 6 = -1 ∧ H 67 7 = -1) ∨ (¬ H 51 4 = 0 ∧ H 51 5 = H 67 6 ∧ H 51 6 = H 67 7)
/-- only the tape may be another -/
def frT (H H' : XH) : Prop := (∀ o, ¬ o = 51 → ¬ o = 52 → ¬ o = 67 → ¬ o = 70 → H' o = H o) ∧ (∀ k, ¬ k = 3 → H' 51 k = H 51 k) ∧ ∀ k, ¬ k = 5 → H' 67 k = H 67 k
def tOk (H : XH) (r r' : Int) (H' : XH) : Prop := r' = r ∧ InvT H' ∧ frT H H'
theorem xshr_I (x s : Int) : xI (xshr x s) := xw_toI _
theorem xi2b_mod (x : Int) : xi2b x = Int.bmod x 256 := by
  unfold xi2b
  rw [Int8.toInt_toInt32, Int32.toInt8_ofInt, Int8.toInt_ofInt]
theorem xi2c_id : ∀ m : Nat, m < 256 → xi2c (m : Int) = (m : Int) := by decide +kernel
theorem byR_of {x : Int} (hx : xI x) : byR (xi2c (xand x 255)) (xi2b x) := by
  have h1 : xand x 255 = x % 256 := xand_mod (j := 8) hx (by decide)
  have h2 : 0 ≤ x % 256 ∧ x % 256 < 256 := ⟨Int.emod_nonneg _ (by decide), Int.emod_lt_of_pos _ (by decide)⟩
  have h3 := xi2c_id (x % 256).toNat (by omega)
  rw [Int.toNat_of_nonneg h2.1] at h3
  rw [h1, h3, xi2b_mod]
  unfold byR Int.bmod
  dsimp only
  rw [show ((256 : Nat) : Int) = 256 from rfl]
  split <;> split <;> omega
/-- the bytes of five words -/
def w5 (a b c e f k : Int) : Int := if k < 4 then xshr a (24 - 8 * k) else if k < 8 then xshr b (24 - 8 * (k - 4)) else if k < 12 then xshr c (24 - 8 * (k - 8)) else if k < 16 then xshr e (24 - 8 * (k - 12)) else xshr f (24 - 8 * (k - 16))
theorem w5_I (a b c e f k : Int) : xI (w5 a b c e f k) := by
  unfold w5
  repeat' split
  all_goals exact xshr_I _ _
def apC (H : XH) (x : Int → Int) (m : Int) (h : XH) : Prop := (∀ o, ¬ o = 51 → ¬ o = 52 → h o = H o) ∧ (∀ k, ¬ k = 3 → h 51 k = H 51 k) ∧ h 51 3 = H 51 3 + m ∧ ∀ k, h 52 k = if H 51 3 ≤ k ∧ k < H 51 3 + m then xi2c (xand (x (k - H 51 3)) 255) else H 52 k
def apM (H : XH) (x : Int → Int) (m : Int) (h : XH) : Prop := (∀ o, ¬ o = 67 → ¬ o = 70 → h o = H o) ∧ (∀ k, ¬ k = 5 → h 67 k = H 67 k) ∧ h 67 5 = H 67 5 + m ∧ ∀ k, h 70 k = if H 67 5 ≤ k ∧ k < H 67 5 + m then xi2b (x (k - H 67 5)) else H 70 k
def w1 (a k : Int) : Int := xshr a (24 - 8 * k)

theorem U_133 {X : Int × (Int → Int)} {d : Nat} {Q : Int → XH → Prop} (hd : 0 ≤ d) (a : Int) (H : XH) (h : xq X d 133 Q 3 [(0, (2, 51)), (1, (0, a)), (2, (0, 24))] [] H) : xc X (d + 1) 133 [(2, 51), (0, a)] H Q := by
  refine ⟨rfl, ?_⟩
  show xq X d 133 Q 100000 [(0, (2, 51)), (1, (0, a))] [] H
  refine xq_run [3] 300 ?_
  show xq X d 133 Q 3 [(0, (2, 51)), (1, (0, a)), (2, (0, 24))] [] H
  exact h
theorem U_133_3 {X : Int × (Int → Int)} {d : Nat} {Q : Int → XH → Prop} (hd : 0 ≤ d) (v1 v2 : Int) (H : XH) (h : ((v2 < 0) → Q 0 H) ∧ (¬ (v2 < 0) → ((300 ≤ H 51 3) → Q 0 H) ∧ (¬ (300 ≤ H 51 3) → (((0 : Int) ≤ H 51 3 ∧ (H 51 3 : Int) < 300) ∧ 0 ≤ xi2c (xand (xshr v1 v2) 255) ∧ xi2c (xand (xshr v1 v2) 255) ≤ 65535) ∧ (xI ((H 51 3) + 1)) ∧ (xI (v2 + (-8))) ∧ xq X d 133 Q 3 [(0, (2, 51)), (1, (0, v1)), (2, (0, v2 + (-8)))] [] (xup (xup H 52 (H 51 3) (xi2c (xand (xshr v1 v2) 255))) 51 3 ((H 51 3) + 1))))) : xq X d 133 Q 3 [(0, (2, 51)), (1, (0, v1)), (2, (0, v2))] [] H := by
  show xq X d 133 Q 3 [(0, (2, 51)), (1, (0, v1)), (2, (0, v2))] [] H
  refine xq_run [3] 300 ?_
  show ((v2 < 0) → xfR 2 0 ∧ xKZ = xKZ ∧ Q 0 H) ∧ (¬ (v2 < 0) → ((300 ≤ H 51 3) → xfR 2 0 ∧ xKZ = xKZ ∧ Q 0 H) ∧ (¬ (300 ≤ H 51 3) → (((0 : Int) ≤ H 51 3 ∧ (H 51 3 : Int) < 300) ∧ 0 ≤ xi2c (xand (xshr v1 v2) 255) ∧ xi2c (xand (xshr v1 v2) 255) ≤ 65535) ∧ (xI ((H 51 3) + 1)) ∧ (xI (v2 + (-8))) ∧ xq X d 133 Q 3 [(0, (2, 51)), (1, (0, v1)), (2, (0, v2 + (-8)))] [] (xup (xup H 52 (H 51 3) (xi2c (xand (xshr v1 v2) 255))) 51 3 ((H 51 3) + 1))))
  refine ⟨fun k_ => ?_, fun k_ => ?_⟩
  · replace h := h.1 k_
    exact ⟨trivial, rfl, h⟩
  · replace h := h.2 k_
    refine ⟨fun k_ => ?_, fun k_ => ?_⟩
    · replace h := h.1 k_
      exact ⟨trivial, rfl, h⟩
    · replace h := h.2 k_
      refine ⟨⟨h.1.1, h.1.2⟩, ?_⟩
      replace h := h.2
      refine ⟨h.1, ?_⟩
      replace h := h.2
      refine ⟨h.1, ?_⟩
      replace h := h.2
      exact h

theorem U_136 {X : Int × (Int → Int)} {d : Nat} {Q : Int → XH → Prop} (hd : 0 ≤ d) (a : Int) (H : XH) (h : xq X d 136 Q 3 [(0, (2, 67)), (1, (0, a)), (2, (0, 24))] [] H) : xc X (d + 1) 136 [(2, 67), (0, a)] H Q := by
  refine ⟨rfl, ?_⟩
  show xq X d 136 Q 100000 [(0, (2, 67)), (1, (0, a))] [] H
  refine xq_run [3] 300 ?_
  show xq X d 136 Q 3 [(0, (2, 67)), (1, (0, a)), (2, (0, 24))] [] H
  exact h
theorem U_136_3 {X : Int × (Int → Int)} {d : Nat} {Q : Int → XH → Prop} (hd : 0 ≤ d) (v1 v2 : Int) (H : XH) (h : ((v2 < 0) → Q 0 H) ∧ (¬ (v2 < 0) → (((0 : Int) ≤ H 67 5 ∧ (H 67 5 : Int) < 300) ∧ -128 ≤ xi2b (xshr v1 v2) ∧ xi2b (xshr v1 v2) ≤ 127) ∧ (xI ((H 67 5) + 1)) ∧ (xI (v2 - 8)) ∧ xq X d 136 Q 3 [(0, (2, 67)), (1, (0, v1)), (2, (0, v2 - 8))] [] (xup (xup H 70 (H 67 5) (xi2b (xshr v1 v2))) 67 5 ((H 67 5) + 1)))) : xq X d 136 Q 3 [(0, (2, 67)), (1, (0, v1)), (2, (0, v2))] [] H := by
  show xq X d 136 Q 3 [(0, (2, 67)), (1, (0, v1)), (2, (0, v2))] [] H
  refine xq_run [3] 300 ?_
  show ((v2 < 0) → xfR 2 0 ∧ xKZ = xKZ ∧ Q 0 H) ∧ (¬ (v2 < 0) → (((0 : Int) ≤ H 67 5 ∧ (H 67 5 : Int) < 300) ∧ xfB (xTy xKZ 70) (xi2b (xshr v1 v2))) ∧ (xI ((H 67 5) + 1)) ∧ (xI (v2 - 8)) ∧ xq X d 136 Q 3 [(0, (2, 67)), (1, (0, v1)), (2, (0, v2 - 8))] [] (xup (xup H 70 (H 67 5) (xi2b (xshr v1 v2))) 67 5 ((H 67 5) + 1)))
  refine ⟨fun k_ => ?_, fun k_ => ?_⟩
  · replace h := h.1 k_
    exact ⟨trivial, rfl, h⟩
  · replace h := h.2 k_
    refine ⟨⟨h.1.1, ⟨fun _ => h.1.2, fun q => absurd q (by decide)⟩⟩, ?_⟩
    replace h := h.2
    refine ⟨h.1, ?_⟩
    replace h := h.2
    refine ⟨h.1, ?_⟩
    replace h := h.2
    exact h

theorem xi2c_rng (x : Int) (hx : xI x) : 0 ≤ xi2c (xand x 255) ∧ xi2c (xand x 255) ≤ 65535 := by
  have h := byR_of hx
  unfold byR at h
  split at h <;> omega
theorem xi2b_rng (x : Int) : -128 ≤ xi2b x ∧ xi2b x ≤ 127 := by
  rw [xi2b_mod]
  unfold Int.bmod
  dsimp only
  rw [show ((256 : Nat) : Int) = 256 from rfl]
  have h2 : 0 ≤ x % 256 ∧ x % 256 < 256 := ⟨Int.emod_nonneg _ (by decide), Int.emod_lt_of_pos _ (by decide)⟩
  split <;> omega

theorem s_133 {X : Int × (Int → Int)} {d : Nat} {Q : Int → XH → Prop} (hd : 1 ≤ d) (a : Int) (H : XH) (p : 0 ≤ H 51 3 ∧ H 51 3 ≤ 296) (hQ : ∀ h1 : XH, apC H (w1 a) 4 h1 → Q 0 h1) : xc X d 133 [(2, 51), (0, a)] H Q := by
  cases d with
  | zero => omega
  | succ d =>
  refine U_133 (by omega) a H ?_
  obtain ⟨n, hn⟩ : ∃ n, H 51 3 = n := ⟨_, rfl⟩
  rw [hn] at p
  have key : ∀ (k : Nat) (m s : Int) (h : XH), (k : Int) + m = 4 → s = 24 - 8 * m → 0 ≤ m → m ≤ 4 → apC H (w1 a) m h → xq X d 133 Q 3 [(0, (2, 51)), (1, (0, a)), (2, (0, s))] [] h := by
    intro k
    induction k with
    | zero =>
      intro m s h hk hs m0 m4 hh
      have cz := xi2c_rng _ (xshr_I a s)
      refine U_133_3 (by omega) a s h ?_
      refine ⟨fun c1 => ?_, fun c1 => ?_⟩
      · skip
        rw [show m = 4 by omega] at hh
        exact hQ h hh
      · skip
        refine ⟨fun c2 => ?_, fun c2 => ?_⟩
        · skip
          exfalso
          omega
        · skip
          refine ⟨?_, ?_⟩
          · first | omega | (unfold xI; omega) | (exfalso; omega)
          refine ⟨?_, ?_⟩
          · first | omega | (unfold xI; omega) | (exfalso; omega)
          refine ⟨?_, ?_⟩
          · first | omega | (unfold xI; omega) | (exfalso; omega)
          exfalso
          omega
    | succ k ih =>
      intro m s h hk hs m0 m4 hh
      obtain ⟨h1, h2, h3, h4⟩ := hh
      rw [hn] at h3 h4
      have nx : ∀ v x z, v = n + m → x = xi2c (xand (w1 a m) 255) → z = n + m + 1 → apC H (w1 a) (m + 1) (xup (xup h 52 v x) 51 3 z) := by
        intro v x z hv hx hz
        refine ⟨fun o a b => ?_, fun k a => ?_, ?_, fun k => ?_⟩
        · rw [xup_ne (by assumption), xup_ne (by assumption)]
          exact h1 o (by assumption) (by assumption)
        · rw [xup_k a, xup_ne (by decide)]
          exact h2 k a
        · rw [xup_self, hn, hz]
          omega
        · rw [xup_ne (by decide), xup_eq, h4, hn]
          by_cases q : k = n + m
          · rw [if_pos (by omega), if_pos (by omega), hx, show k - n = m by omega]
          · rw [if_neg (by omega)]
            by_cases q2 : n ≤ k ∧ k < n + m
            · rw [if_pos q2, if_pos (by omega)]
            · rw [if_neg q2, if_neg (by omega)]
      have cz := xi2c_rng _ (xshr_I a s)
      refine U_133_3 (by omega) a s h ?_
      refine ⟨fun c1 => ?_, fun c1 => ?_⟩
      · skip
        exfalso
        omega
      · skip
        refine ⟨fun c2 => ?_, fun c2 => ?_⟩
        · skip
          exfalso
          omega
        · skip
          refine ⟨?_, ?_⟩
          · first | omega | (unfold xI; omega) | exact cz | exact bz | (exfalso; omega)
          refine ⟨?_, ?_⟩
          · first | omega | (unfold xI; omega) | exact cz | exact bz | (exfalso; omega)
          refine ⟨?_, ?_⟩
          · first | omega | (unfold xI; omega) | exact cz | exact bz | (exfalso; omega)
          exact ih (m + 1) _ _ (by omega) (by omega) (by omega) (by omega) (nx _ _ _ (by omega) (by unfold w1; rw [hs]) (by omega))
  exact key 4 0 24 H (by omega) (by omega) (by omega) (by omega) ⟨fun _ _ _ => rfl, fun _ _ => rfl, by omega, fun k => by rw [if_neg (by omega)]⟩

theorem s_136 {X : Int × (Int → Int)} {d : Nat} {Q : Int → XH → Prop} (hd : 1 ≤ d) (a : Int) (H : XH) (p : 0 ≤ H 67 5 ∧ H 67 5 ≤ 296) (hQ : ∀ h1 : XH, apM H (w1 a) 4 h1 → Q 0 h1) : xc X d 136 [(2, 67), (0, a)] H Q := by
  cases d with
  | zero => omega
  | succ d =>
  refine U_136 (by omega) a H ?_
  obtain ⟨n, hn⟩ : ∃ n, H 67 5 = n := ⟨_, rfl⟩
  rw [hn] at p
  have key : ∀ (k : Nat) (m s : Int) (h : XH), (k : Int) + m = 4 → s = 24 - 8 * m → 0 ≤ m → m ≤ 4 → apM H (w1 a) m h → xq X d 136 Q 3 [(0, (2, 67)), (1, (0, a)), (2, (0, s))] [] h := by
    intro k
    induction k with
    | zero =>
      intro m s h hk hs m0 m4 hh
      have bz := xi2b_rng (xshr a s)
      refine U_136_3 (by omega) a s h ?_
      refine ⟨fun c1 => ?_, fun c1 => ?_⟩
      · skip
        rw [show m = 4 by omega] at hh
        exact hQ h hh
      · skip
        refine ⟨?_, ?_⟩
        · first | omega | (unfold xI; omega) | (exfalso; omega)
        refine ⟨?_, ?_⟩
        · first | omega | (unfold xI; omega) | (exfalso; omega)
        refine ⟨?_, ?_⟩
        · first | omega | (unfold xI; omega) | (exfalso; omega)
        exfalso
        omega
    | succ k ih =>
      intro m s h hk hs m0 m4 hh
      obtain ⟨h1, h2, h3, h4⟩ := hh
      rw [hn] at h3 h4
      have nx : ∀ v x z, v = n + m → x = xi2b (w1 a m) → z = n + m + 1 → apM H (w1 a) (m + 1) (xup (xup h 70 v x) 67 5 z) := by
        intro v x z hv hx hz
        refine ⟨fun o a b => ?_, fun k a => ?_, ?_, fun k => ?_⟩
        · rw [xup_ne (by assumption), xup_ne (by assumption)]
          exact h1 o (by assumption) (by assumption)
        · rw [xup_k a, xup_ne (by decide)]
          exact h2 k a
        · rw [xup_self, hn, hz]
          omega
        · rw [xup_ne (by decide), xup_eq, h4, hn]
          by_cases q : k = n + m
          · rw [if_pos (by omega), if_pos (by omega), hx, show k - n = m by omega]
          · rw [if_neg (by omega)]
            by_cases q2 : n ≤ k ∧ k < n + m
            · rw [if_pos q2, if_pos (by omega)]
            · rw [if_neg q2, if_neg (by omega)]
      have bz := xi2b_rng (xshr a s)
      refine U_136_3 (by omega) a s h ?_
      refine ⟨fun c1 => ?_, fun c1 => ?_⟩
      · skip
        exfalso
        omega
      · skip
        refine ⟨?_, ?_⟩
        · first | omega | (unfold xI; omega) | exact cz | exact bz | (exfalso; omega)
        refine ⟨?_, ?_⟩
        · first | omega | (unfold xI; omega) | exact cz | exact bz | (exfalso; omega)
        refine ⟨?_, ?_⟩
        · first | omega | (unfold xI; omega) | exact cz | exact bz | (exfalso; omega)
        exact ih (m + 1) _ _ (by omega) (by omega) (by omega) (by omega) (nx _ _ _ (by omega) (by unfold w1; rw [hs]) (by omega))
  exact key 4 0 24 H (by omega) (by omega) (by omega) (by omega) ⟨fun _ _ _ => rfl, fun _ _ => rfl, by omega, fun k => by rw [if_neg (by omega)]⟩

theorem apC_5 {H h1 h2 h3 h4 h5 : XH} {a b c e f : Int} (k1 : apC H (w1 a) 4 h1) (k2 : apC h1 (w1 b) 4 h2) (k3 : apC h2 (w1 c) 4 h3) (k4 : apC h3 (w1 e) 4 h4) (k5 : apC h4 (w1 f) 4 h5) : apC H (w5 a b c e f) 20 h5 := by
  obtain ⟨a1, b1, c1, d1⟩ := k1
  obtain ⟨a2, b2, c2, d2⟩ := k2
  obtain ⟨a3, b3, c3, d3⟩ := k3
  obtain ⟨a4, b4, c4, d4⟩ := k4
  obtain ⟨a5, b5, c5, d5⟩ := k5
  rw [c1] at c2 d2
  rw [c2] at c3 d3
  rw [c3] at c4 d4
  rw [c4] at c5 d5
  refine ⟨fun o p q => ?_, fun k p => ?_, ?_, fun k => ?_⟩
  · rw [a5 o p q, a4 o p q, a3 o p q, a2 o p q, a1 o p q]
  · rw [b5 k p, b4 k p, b3 k p, b2 k p, b1 k p]
  · rw [c5]
    omega
  · rw [d5, d4, d3, d2, d1]
    generalize H 51 3 = n
    unfold w5 w1
    by_cases q0 : n ≤ k ∧ k < n + 20
    · rw [if_pos q0]
      by_cases q1 : k < n + 4
      · simp (disch := omega) only [if_pos, if_neg]
      · by_cases q2 : k < n + 8
        · simp (disch := omega) only [if_pos, if_neg]
          rw [show k - (n + 4) = k - n - 4 by omega]
        · by_cases q3 : k < n + 12
          · simp (disch := omega) only [if_pos, if_neg]
            rw [show k - (n + 4 + 4) = k - n - 8 by omega]
          · by_cases q4 : k < n + 16
            · simp (disch := omega) only [if_pos, if_neg]
              rw [show k - (n + 4 + 4 + 4) = k - n - 12 by omega]
            · simp (disch := omega) only [if_pos, if_neg]
              rw [show k - (n + 4 + 4 + 4 + 4) = k - n - 16 by omega]
    · rw [if_neg q0]
      simp (disch := omega) only [if_neg]

theorem apM_5 {H h1 h2 h3 h4 h5 : XH} {a b c e f : Int} (k1 : apM H (w1 a) 4 h1) (k2 : apM h1 (w1 b) 4 h2) (k3 : apM h2 (w1 c) 4 h3) (k4 : apM h3 (w1 e) 4 h4) (k5 : apM h4 (w1 f) 4 h5) : apM H (w5 a b c e f) 20 h5 := by
  obtain ⟨a1, b1, c1, d1⟩ := k1
  obtain ⟨a2, b2, c2, d2⟩ := k2
  obtain ⟨a3, b3, c3, d3⟩ := k3
  obtain ⟨a4, b4, c4, d4⟩ := k4
  obtain ⟨a5, b5, c5, d5⟩ := k5
  rw [c1] at c2 d2
  rw [c2] at c3 d3
  rw [c3] at c4 d4
  rw [c4] at c5 d5
  refine ⟨fun o p q => ?_, fun k p => ?_, ?_, fun k => ?_⟩
  · rw [a5 o p q, a4 o p q, a3 o p q, a2 o p q, a1 o p q]
  · rw [b5 k p, b4 k p, b3 k p, b2 k p, b1 k p]
  · rw [c5]
    omega
  · rw [d5, d4, d3, d2, d1]
    generalize H 67 5 = n
    unfold w5 w1
    by_cases q0 : n ≤ k ∧ k < n + 20
    · rw [if_pos q0]
      by_cases q1 : k < n + 4
      · simp (disch := omega) only [if_pos, if_neg]
      · by_cases q2 : k < n + 8
        · simp (disch := omega) only [if_pos, if_neg]
          rw [show k - (n + 4) = k - n - 4 by omega]
        · by_cases q3 : k < n + 12
          · simp (disch := omega) only [if_pos, if_neg]
            rw [show k - (n + 4 + 4) = k - n - 8 by omega]
          · by_cases q4 : k < n + 16
            · simp (disch := omega) only [if_pos, if_neg]
              rw [show k - (n + 4 + 4 + 4) = k - n - 12 by omega]
            · simp (disch := omega) only [if_pos, if_neg]
              rw [show k - (n + 4 + 4 + 4 + 4) = k - n - 16 by omega]
    · rw [if_neg q0]
      simp (disch := omega) only [if_neg]

theorem U_134 {X : Int × (Int → Int)} {d : Nat} {Q : Int → XH → Prop} (hd : 1 ≤ d) (a b c e f : Int) (H : XH) (h : (xI ((H 51 3) + 20)) ∧ (((H 51 3) + 20 ≤ 300) → (0 ≤ H 51 3 ∧ H 51 3 ≤ 296) ∧ (∀ (h73 : XH), (apC H (w1 a) 4 h73) → (0 ≤ h73 51 3 ∧ h73 51 3 ≤ 296) ∧ (∀ (h74 : XH), (apC h73 (w1 b) 4 h74) → (0 ≤ h74 51 3 ∧ h74 51 3 ≤ 296) ∧ (∀ (h75 : XH), (apC h74 (w1 c) 4 h75) → (0 ≤ h75 51 3 ∧ h75 51 3 ≤ 296) ∧ (∀ (h76 : XH), (apC h75 (w1 e) 4 h76) → (0 ≤ h76 51 3 ∧ h76 51 3 ≤ 296) ∧ (∀ (h77 : XH), (apC h76 (w1 f) 4 h77) → Q (h77 51 3) h77)))))) ∧ (¬ ((H 51 3) + 20 ≤ 300) → Q (-1) H)) : xc X (d + 1) 134 [(2, 51), (0, a), (0, b), (0, c), (0, e), (0, f)] H Q := by
  refine ⟨rfl, ?_⟩
  show xq X d 134 Q 100000 [(0, (2, 51)), (1, (0, a)), (2, (0, b)), (3, (0, c)), (4, (0, e)), (5, (0, f))] [] H
  refine xq_run [20, 25, 30, 36, 42] 300 ?_
  show (xI ((H 51 3) + 20)) ∧ (((H 51 3) + 20 ≤ 300) → xWM (xE X) xMC d 133 [(2, 51), (0, a)] xKZ H _) ∧ (¬ ((H 51 3) + 20 ≤ 300) → xfR 0 (-1) ∧ xKZ = xKZ ∧ Q (-1) H)
  refine ⟨h.1, ?_⟩
  replace h := h.2
  refine ⟨fun k_ => ?_, fun k_ => ?_⟩
  · replace h := h.1 k_
    refine xc_in (s_133 (by omega) a H (h.1) ?_)
    intro h73 q_0
    replace h := h.2 h73 q_0
    show xq X d 134 Q 20 [(0, (2, 51)), (1, (0, a)), (2, (0, b)), (3, (0, c)), (4, (0, e)), (5, (0, f))] [] h73
    refine xq_run [20, 25, 30, 36, 42] 300 ?_
    show xWM (xE X) xMC d 133 [(2, 51), (0, b)] xKZ h73 _
    refine xc_in (s_133 (by omega) b h73 (h.1) ?_)
    intro h74 q_0
    replace h := h.2 h74 q_0
    show xq X d 134 Q 25 [(0, (2, 51)), (1, (0, a)), (2, (0, b)), (3, (0, c)), (4, (0, e)), (5, (0, f))] [] h74
    refine xq_run [20, 25, 30, 36, 42] 300 ?_
    show xWM (xE X) xMC d 133 [(2, 51), (0, c)] xKZ h74 _
    refine xc_in (s_133 (by omega) c h74 (h.1) ?_)
    intro h75 q_0
    replace h := h.2 h75 q_0
    show xq X d 134 Q 30 [(0, (2, 51)), (1, (0, a)), (2, (0, b)), (3, (0, c)), (4, (0, e)), (5, (0, f))] [] h75
    refine xq_run [20, 25, 30, 36, 42] 300 ?_
    show xWM (xE X) xMC d 133 [(2, 51), (0, e)] xKZ h75 _
    refine xc_in (s_133 (by omega) e h75 (h.1) ?_)
    intro h76 q_0
    replace h := h.2 h76 q_0
    show xq X d 134 Q 36 [(0, (2, 51)), (1, (0, a)), (2, (0, b)), (3, (0, c)), (4, (0, e)), (5, (0, f))] [] h76
    refine xq_run [20, 25, 30, 36, 42] 300 ?_
    show xWM (xE X) xMC d 133 [(2, 51), (0, f)] xKZ h76 _
    refine xc_in (s_133 (by omega) f h76 (h.1) ?_)
    intro h77 q_0
    replace h := h.2 h77 q_0
    show xq X d 134 Q 42 [(0, (2, 51)), (1, (0, a)), (2, (0, b)), (3, (0, c)), (4, (0, e)), (5, (0, f))] [] h77
    refine xq_run [20, 25, 30, 36, 42] 300 ?_
    show xfR 0 (h77 51 3) ∧ xKZ = xKZ ∧ Q (h77 51 3) h77
    exact ⟨trivial, rfl, h⟩
  · replace h := h.2 k_
    exact ⟨trivial, rfl, h⟩

theorem s_134 {X : Int × (Int → Int)} {d : Nat} {Q : Int → XH → Prop} (hd : 2 ≤ d) (a b c e f : Int) (H : XH) (p : 0 ≤ H 51 3 ∧ H 51 3 ≤ 300) (hY : H 51 3 ≤ 280 → ∀ h1 : XH, apC H (w5 a b c e f) 20 h1 → Q (H 51 3 + 20) h1) (hN : ¬ H 51 3 ≤ 280 → Q (-1) H) : xc X d 134 [(2, 51), (0, a), (0, b), (0, c), (0, e), (0, f)] H Q := by
  cases d with
  | zero => omega
  | succ d =>
  refine U_134 (by omega) a b c e f H ?_
  refine ⟨?_, ?_⟩
  · first | omega | (unfold xI; omega)
  refine ⟨fun c1 => ?_, fun c1 => ?_⟩
  · skip
    refine ⟨?_, ?_⟩
    · first | omega | (unfold xI; omega)
    intro h78 c2
    have z1 := c2
    have y1 := z1.2.2.1
    refine ⟨?_, ?_⟩
    · first | omega | (unfold xI; omega)
    intro h79 c3
    have z2 := c3
    have y2 := z2.2.2.1
    refine ⟨?_, ?_⟩
    · first | omega | (unfold xI; omega)
    intro h80 c4
    have z3 := c4
    have y3 := z3.2.2.1
    refine ⟨?_, ?_⟩
    · first | omega | (unfold xI; omega)
    intro h81 c5
    have z4 := c5
    have y4 := z4.2.2.1
    refine ⟨?_, ?_⟩
    · first | omega | (unfold xI; omega)
    intro h82 c6
    have z5 := c6
    have y5 := z5.2.2.1
    have z := apC_5 z1 z2 z3 z4 z5
    have k := hY (by omega) _ z
    rw [← z.2.2.1] at k
    exact k
  · skip
    exact hN (by omega)

theorem U_137 {X : Int × (Int → Int)} {d : Nat} {Q : Int → XH → Prop} (hd : 1 ≤ d) (a b c e f : Int) (H : XH) (h : (xI ((H 67 5) + 20)) ∧ (((H 67 5) + 20 ≤ 300) → (0 ≤ H 67 5 ∧ H 67 5 ≤ 296) ∧ (∀ (h83 : XH), (apM H (w1 a) 4 h83) → (0 ≤ h83 67 5 ∧ h83 67 5 ≤ 296) ∧ (∀ (h84 : XH), (apM h83 (w1 b) 4 h84) → (0 ≤ h84 67 5 ∧ h84 67 5 ≤ 296) ∧ (∀ (h85 : XH), (apM h84 (w1 c) 4 h85) → (0 ≤ h85 67 5 ∧ h85 67 5 ≤ 296) ∧ (∀ (h86 : XH), (apM h85 (w1 e) 4 h86) → (0 ≤ h86 67 5 ∧ h86 67 5 ≤ 296) ∧ (∀ (h87 : XH), (apM h86 (w1 f) 4 h87) → Q (h87 67 5) h87)))))) ∧ (¬ ((H 67 5) + 20 ≤ 300) → Q (-1) H)) : xc X (d + 1) 137 [(2, 67), (0, a), (0, b), (0, c), (0, e), (0, f)] H Q := by
  refine ⟨rfl, ?_⟩
  show xq X d 137 Q 100000 [(0, (2, 67)), (1, (0, a)), (2, (0, b)), (3, (0, c)), (4, (0, e)), (5, (0, f))] [] H
  refine xq_run [20, 25, 30, 36, 42] 300 ?_
  show (xI ((H 67 5) + 20)) ∧ (((H 67 5) + 20 ≤ 300) → xWM (xE X) xMC d 136 [(2, 67), (0, a)] xKZ H _) ∧ (¬ ((H 67 5) + 20 ≤ 300) → xfR 0 (-1) ∧ xKZ = xKZ ∧ Q (-1) H)
  refine ⟨h.1, ?_⟩
  replace h := h.2
  refine ⟨fun k_ => ?_, fun k_ => ?_⟩
  · replace h := h.1 k_
    refine xc_in (s_136 (by omega) a H (h.1) ?_)
    intro h83 q_0
    replace h := h.2 h83 q_0
    show xq X d 137 Q 20 [(0, (2, 67)), (1, (0, a)), (2, (0, b)), (3, (0, c)), (4, (0, e)), (5, (0, f))] [] h83
    refine xq_run [20, 25, 30, 36, 42] 300 ?_
    show xWM (xE X) xMC d 136 [(2, 67), (0, b)] xKZ h83 _
    refine xc_in (s_136 (by omega) b h83 (h.1) ?_)
    intro h84 q_0
    replace h := h.2 h84 q_0
    show xq X d 137 Q 25 [(0, (2, 67)), (1, (0, a)), (2, (0, b)), (3, (0, c)), (4, (0, e)), (5, (0, f))] [] h84
    refine xq_run [20, 25, 30, 36, 42] 300 ?_
    show xWM (xE X) xMC d 136 [(2, 67), (0, c)] xKZ h84 _
    refine xc_in (s_136 (by omega) c h84 (h.1) ?_)
    intro h85 q_0
    replace h := h.2 h85 q_0
    show xq X d 137 Q 30 [(0, (2, 67)), (1, (0, a)), (2, (0, b)), (3, (0, c)), (4, (0, e)), (5, (0, f))] [] h85
    refine xq_run [20, 25, 30, 36, 42] 300 ?_
    show xWM (xE X) xMC d 136 [(2, 67), (0, e)] xKZ h85 _
    refine xc_in (s_136 (by omega) e h85 (h.1) ?_)
    intro h86 q_0
    replace h := h.2 h86 q_0
    show xq X d 137 Q 36 [(0, (2, 67)), (1, (0, a)), (2, (0, b)), (3, (0, c)), (4, (0, e)), (5, (0, f))] [] h86
    refine xq_run [20, 25, 30, 36, 42] 300 ?_
    show xWM (xE X) xMC d 136 [(2, 67), (0, f)] xKZ h86 _
    refine xc_in (s_136 (by omega) f h86 (h.1) ?_)
    intro h87 q_0
    replace h := h.2 h87 q_0
    show xq X d 137 Q 42 [(0, (2, 67)), (1, (0, a)), (2, (0, b)), (3, (0, c)), (4, (0, e)), (5, (0, f))] [] h87
    refine xq_run [20, 25, 30, 36, 42] 300 ?_
    show xfR 0 (h87 67 5) ∧ xKZ = xKZ ∧ Q (h87 67 5) h87
    exact ⟨trivial, rfl, h⟩
  · replace h := h.2 k_
    exact ⟨trivial, rfl, h⟩

theorem s_137 {X : Int × (Int → Int)} {d : Nat} {Q : Int → XH → Prop} (hd : 2 ≤ d) (a b c e f : Int) (H : XH) (p : 0 ≤ H 67 5 ∧ H 67 5 ≤ 300) (hY : H 67 5 ≤ 280 → ∀ h1 : XH, apM H (w5 a b c e f) 20 h1 → Q (H 67 5 + 20) h1) (hN : ¬ H 67 5 ≤ 280 → Q (-1) H) : xc X d 137 [(2, 67), (0, a), (0, b), (0, c), (0, e), (0, f)] H Q := by
  cases d with
  | zero => omega
  | succ d =>
  refine U_137 (by omega) a b c e f H ?_
  refine ⟨?_, ?_⟩
  · first | omega | (unfold xI; omega)
  refine ⟨fun c1 => ?_, fun c1 => ?_⟩
  · skip
    refine ⟨?_, ?_⟩
    · first | omega | (unfold xI; omega)
    intro h88 c2
    have z1 := c2
    have y1 := z1.2.2.1
    refine ⟨?_, ?_⟩
    · first | omega | (unfold xI; omega)
    intro h89 c3
    have z2 := c3
    have y2 := z2.2.2.1
    refine ⟨?_, ?_⟩
    · first | omega | (unfold xI; omega)
    intro h90 c4
    have z3 := c4
    have y3 := z3.2.2.1
    refine ⟨?_, ?_⟩
    · first | omega | (unfold xI; omega)
    intro h91 c5
    have z4 := c5
    have y4 := z4.2.2.1
    refine ⟨?_, ?_⟩
    · first | omega | (unfold xI; omega)
    intro h92 c6
    have z5 := c6
    have y5 := z5.2.2.1
    have z := apM_5 z1 z2 z3 z4 z5
    have k := hY (by omega) _ z
    rw [← z.2.2.1] at k
    exact k
  · skip
    exact hN (by omega)

theorem s_134b {X : Int × (Int → Int)} {d : Nat} {Q : Int → XH → Prop} (hd : 2 ≤ d) (a b c e f : Int) (H : XH) (p : 0 ≤ H 51 3 ∧ H 51 3 ≤ 300) (hQ : ∀ (J : Int) (h1 : XH), (H 51 3 ≤ 280 ∧ J = H 51 3 + 20 ∧ apC H (w5 a b c e f) 20 h1) ∨ (¬ H 51 3 ≤ 280 ∧ J = -1 ∧ h1 = H) → Q J h1) : xc X d 134 [(2, 51), (0, a), (0, b), (0, c), (0, e), (0, f)] H Q :=
  s_134 hd a b c e f H p (fun q h1 k => hQ _ h1 (Or.inl ⟨q, rfl, k⟩)) (fun q => hQ _ H (Or.inr ⟨q, rfl, rfl⟩))

theorem U_135 {X : Int × (Int → Int)} {d : Nat} {Q : Int → XH → Prop} (hd : 2 ≤ d) (a b c e f : Int) (H : XH) (h : (0 ≤ H 51 3 ∧ H 51 3 ≤ 300) ∧ (∀ (J94 : Int) (h93 : XH), ((H 51 3 ≤ 280 ∧ J94 = H 51 3 + 20 ∧ apC H (w5 a b c e f) 20 h93) ∨ (¬ H 51 3 ≤ 280 ∧ J94 = -1 ∧ h93 = H)) → Q J94 h93)) : xc X (d + 1) 135 [(2, 0), (0, a), (0, b), (0, c), (0, e), (0, f)] H Q := by
  refine ⟨rfl, ?_⟩
  show xq X d 135 Q 100000 [(0, (2, 0)), (1, (0, a)), (2, (0, b)), (3, (0, c)), (4, (0, e)), (5, (0, f))] [] H
  refine xq_run [14] 300 ?_
  show xWM (xE X) xMC d 134 [(2, 51), (0, a), (0, b), (0, c), (0, e), (0, f)] xKZ H _
  refine xc_in (s_134b (by omega) a b c e f H (h.1) ?_)
  intro J94 h93 q_0
  replace h := h.2 J94 h93 q_0
  show xq X d 135 Q 14 [(0, (2, 0)), (1, (0, a)), (2, (0, b)), (3, (0, c)), (4, (0, e)), (5, (0, f))] [(0, J94)] h93
  refine xq_run [14] 300 ?_
  show xfR 0 J94 ∧ xKZ = xKZ ∧ Q J94 h93
  exact ⟨trivial, rfl, h⟩

theorem p_feed {X : Int × (Int → Int)} {d : Nat} (hd : 4 ≤ d) (a b c e f : Int) (H : XH) (hi : InvT H) : xc X d 135 [(2, 0), (0, a), (0, b), (0, c), (0, e), (0, f)] H (fun r H1 => xc X d 137 [(2, 67), (0, a), (0, b), (0, c), (0, e), (0, f)] H1 (tOk H r)) := by
  cases d with
  | zero => omega
  | succ d =>
  obtain ⟨h1, h2, h3⟩ := id hi
  refine U_135 (by omega) a b c e f H ⟨h1, fun J g hg => ?_⟩
  rcases hg with ⟨q, hJ, k⟩ | ⟨q, hJ, k⟩
  · have e67 := k.1 67 (by decide) (by decide)
    have e5 : g 67 5 = H 51 3 := by rw [e67, h2]
    refine s_137 (by omega) a b c e f g (by omega) (fun _ h' z => ⟨by omega, ⟨?_, ?_, fun i p q => ?_⟩, ⟨fun o a b c e => ?_, fun i p => ?_, fun i p => ?_⟩⟩) (fun z => absurd (by omega) z)
    · rw [z.1 51 (by decide) (by decide), k.2.2.1]
      omega
    · rw [z.1 51 (by decide) (by decide), k.2.2.1, z.2.2.1]
      omega
    · rw [z.1 51 (by decide) (by decide), k.2.2.1] at q
      rw [z.1 52 (by decide) (by decide), k.2.2.2, z.2.2.2, e5, k.1 70 (by decide) (by decide)]
      by_cases y : H 51 3 ≤ i
      · rw [if_pos (by omega), if_pos (by omega)]
        exact byR_of (w5_I _ _ _ _ _ _)
      · rw [if_neg (by omega), if_neg (by omega)]
        exact h3 i p (by omega)
    · rw [z.1 o c e, k.1 o a b]
    · rw [z.1 51 (by decide) (by decide), k.2.1 i p]
    · rw [z.2.1 i p, e67]
  · subst k
    exact s_137 (by omega) a b c e f g (by omega) (fun z => absurd (by omega) q) (fun _ => ⟨by omega, hi, ⟨fun _ _ _ _ _ => rfl, fun _ _ => rfl, fun _ _ => rfl⟩⟩)

theorem U_138 {X : Int × (Int → Int)} {d : Nat} {Q : Int → XH → Prop} (hd : 0 ≤ d) (a : Int) (H : XH) (h : ((a < 0) → Q (-1) H) ∧ (¬ (a < 0) → ((a ≤ H 51 3) → Q a (xup H 51 3 a)) ∧ (¬ (a ≤ H 51 3) → Q (-1) H))) : xc X (d + 1) 138 [(2, 0), (0, a)] H Q := by
  refine ⟨rfl, ?_⟩
  show xq X d 138 Q 100000 [(0, (2, 0)), (1, (0, a))] [] H
  refine xq_run [] 300 ?_
  show ((a < 0) → xfR 0 (-1) ∧ xKZ = xKZ ∧ Q (-1) H) ∧ (¬ (a < 0) → ((a ≤ H 51 3) → xfR 0 a ∧ xKZ = xKZ ∧ Q a (xup H 51 3 a)) ∧ (¬ (a ≤ H 51 3) → xfR 0 (-1) ∧ xKZ = xKZ ∧ Q (-1) H))
  refine ⟨fun k_ => ?_, fun k_ => ?_⟩
  · replace h := h.1 k_
    exact ⟨trivial, rfl, h⟩
  · replace h := h.2 k_
    refine ⟨fun k_ => ?_, fun k_ => ?_⟩
    · replace h := h.1 k_
      exact ⟨trivial, rfl, h⟩
    · replace h := h.2 k_
      exact ⟨trivial, rfl, h⟩

theorem U_139 {X : Int × (Int → Int)} {d : Nat} {Q : Int → XH → Prop} (hd : 1 ≤ d) (a : Int) (H : XH) (h : ((((0 ≤ a ∧ a ≤ (H 67 5))) → Q a (xup H 67 5 a)) ∧ (¬ ((0 ≤ a ∧ a ≤ (H 67 5))) → Q (-1) H))) : xc X (d + 1) 139 [(2, 67), (0, a)] H Q := by
  refine ⟨rfl, ?_⟩
  show xq X d 139 Q 100000 [(0, (2, 67)), (1, (0, a))] [] H
  refine xq_run [9] 300 ?_
  show xWM (xE X) xMC d 23 [(0, a), (0, 0), (0, H 67 5)] xKZ H _
  refine xc_in (s_23 (by omega) a 0 (H 67 5) H  ?_)
  replace h := h
  show xq X d 139 Q 9 [(0, (2, 67)), (1, (0, a))] [(0, xb (0 ≤ a ∧ a ≤ (H 67 5)))] H
  refine xq_run [9] 300 ?_
  show ((¬ xb (0 ≤ a ∧ a ≤ (H 67 5)) = 0) → xfR 0 a ∧ xKZ = xKZ ∧ Q a (xup H 67 5 a)) ∧ (¬ (¬ xb (0 ≤ a ∧ a ≤ (H 67 5)) = 0) → xfR 0 (-1) ∧ xKZ = xKZ ∧ Q (-1) H)
  refine ⟨fun k_ => ?_, fun k_ => ?_⟩
  · replace h := h.1 (xbe_1.mp k_)
    exact ⟨trivial, rfl, h⟩
  · replace h := h.2 (xbe_n.mp k_)
    exact ⟨trivial, rfl, h⟩

theorem p_end {X : Int × (Int → Int)} {d : Nat} (hd : 4 ≤ d) (a : Int) (H : XH) (hi : InvT H) : xc X d 138 [(2, 0), (0, a)] H (fun r H1 => xc X d 139 [(2, 67), (0, a)] H1 (tOk H r)) := by
  cases d with
  | zero => omega
  | succ d =>
  obtain ⟨h1, h2, h3⟩ := id hi
  have no : ¬ (0 ≤ a ∧ a ≤ H 51 3) → xc X (d + 1) 139 [(2, 67), (0, a)] H (tOk H (-1)) := fun q => by
    have k : tOk H (-1) (-1) H := ⟨rfl, hi, ⟨fun _ _ _ _ _ => rfl, fun _ _ => rfl, fun _ _ => rfl⟩⟩
    refine U_139 (by omega) a H ?_
    refine ⟨fun c1 => ?_, fun c1 => ?_⟩
    · skip
      first | exact k | (exfalso; omega)
    · skip
      first | exact k | (exfalso; omega)
  refine U_138 (by omega) a H ?_
  refine ⟨fun c1 => ?_, fun c1 => ?_⟩
  · skip
    exact no (by omega)
  · skip
    refine ⟨fun c2 => ?_, fun c2 => ?_⟩
    · skip
      have e5 : xup H 51 3 a 67 5 = H 51 3 := h2
      have k : tOk H a a (xup (xup H 51 3 a) 67 5 a) := by
        refine ⟨rfl, ⟨by rw [xup_ne (by decide), xup_self]; omega, by rw [xup_self, xup_ne (by decide), xup_self], fun i p q => ?_⟩, ⟨fun o a b c e => by rw [xup_ne c, xup_ne a], fun i p => by rw [xup_ne (by decide), xup_k p], fun i p => by rw [xup_k p, xup_ne (by decide)]⟩⟩
        rw [xup_ne (by decide), xup_self] at q
        exact h3 i p (by omega)
      refine U_139 (by omega) a _ ?_
      rw [e5]
      refine ⟨fun c1 => ?_, fun c1 => ?_⟩
      · skip
        first | exact k | (exfalso; omega)
      · skip
        first | exact k | (exfalso; omega)
    · skip
      exact no (by omega)

theorem U_194 {X : Int × (Int → Int)} {d : Nat} {Q : Int → XH → Prop} (hd : 0 ≤ d) (a : Int) (H : XH) (h : ((¬ H 51 4 = 0) → ((¬ a = 0) → ((¬ a = 1) → Q (-1) H) ∧ (¬ (¬ a = 1) → Q (H 51 6) H)) ∧ (¬ (¬ a = 0) → Q (H 51 5) H)) ∧ (¬ (¬ H 51 4 = 0) → Q (-1) H)) : xc X (d + 1) 194 [(2, 0), (0, a)] H Q := by
  refine ⟨rfl, ?_⟩
  show xq X d 194 Q 100000 [(0, (2, 0)), (1, (0, a))] [] H
  refine xq_run [] 300 ?_
  show ((¬ H 51 4 = 0) → ((¬ a = 0) → ((¬ a = 1) → xfR 0 (-1) ∧ xKZ = xKZ ∧ Q (-1) H) ∧ (¬ (¬ a = 1) → xfR 0 (H 51 6) ∧ xKZ = xKZ ∧ Q (H 51 6) H)) ∧ (¬ (¬ a = 0) → xfR 0 (H 51 5) ∧ xKZ = xKZ ∧ Q (H 51 5) H)) ∧ (¬ (¬ H 51 4 = 0) → xfR 0 (-1) ∧ xKZ = xKZ ∧ Q (-1) H)
  refine ⟨fun k_ => ?_, fun k_ => ?_⟩
  · replace h := h.1 k_
    refine ⟨fun k_ => ?_, fun k_ => ?_⟩
    · replace h := h.1 k_
      refine ⟨fun k_ => ?_, fun k_ => ?_⟩
      · replace h := h.1 k_
        exact ⟨trivial, rfl, h⟩
      · replace h := h.2 k_
        exact ⟨trivial, rfl, h⟩
    · replace h := h.2 k_
      exact ⟨trivial, rfl, h⟩
  · replace h := h.2 k_
    exact ⟨trivial, rfl, h⟩

theorem U_195 {X : Int × (Int → Int)} {d : Nat} {Q : Int → XH → Prop} (hd : 0 ≤ d) (a : Int) (H : XH) (h : ((¬ a = 0) → ((¬ a = 1) → Q (-1) H) ∧ (¬ (¬ a = 1) → Q (H 67 7) H)) ∧ (¬ (¬ a = 0) → Q (H 67 6) H)) : xc X (d + 1) 195 [(2, 67), (0, a)] H Q := by
  refine ⟨rfl, ?_⟩
  show xq X d 195 Q 100000 [(0, (2, 67)), (1, (0, a))] [] H
  refine xq_run [] 300 ?_
  show ((¬ a = 0) → ((¬ a = 1) → xfR 0 (-1) ∧ xKZ = xKZ ∧ Q (-1) H) ∧ (¬ (¬ a = 1) → xfR 0 (H 67 7) ∧ xKZ = xKZ ∧ Q (H 67 7) H)) ∧ (¬ (¬ a = 0) → xfR 0 (H 67 6) ∧ xKZ = xKZ ∧ Q (H 67 6) H)
  refine ⟨fun k_ => ?_, fun k_ => ?_⟩
  · replace h := h.1 k_
    refine ⟨fun k_ => ?_, fun k_ => ?_⟩
    · replace h := h.1 k_
      exact ⟨trivial, rfl, h⟩
    · replace h := h.2 k_
      exact ⟨trivial, rfl, h⟩
  · replace h := h.2 k_
    exact ⟨trivial, rfl, h⟩

theorem p_fault {X : Int × (Int → Int)} {d : Nat} (hd : 4 ≤ d) (a : Int) (H : XH) (hi : InvF H) : xc X d 194 [(2, 0), (0, a)] H (fun r H1 => xc X d 195 [(2, 67), (0, a)] H1 (qOk H r)) := by
  cases d with
  | zero => omega
  | succ d =>
  unfold InvF at hi
  have k : ∀ r, r = (if a = 0 then H 67 6 else if a = 1 then H 67 7 else -1) → xc X (d + 1) 195 [(2, 67), (0, a)] H (qOk H r) := fun r hr => by
    have q : qOk H r (if a = 0 then H 67 6 else if a = 1 then H 67 7 else -1) H := ⟨hr.symm, frQ_refl H⟩
    refine U_195 (by omega) a H ?_
    refine ⟨fun c1 => ?_, fun c1 => ?_⟩
    · skip
      refine ⟨fun c2 => ?_, fun c2 => ?_⟩
      · skip
        first | (rw [if_neg (by omega), if_neg (by omega)] at q; exact q) | (rw [if_neg (by omega), if_pos (by omega)] at q; exact q) | (rw [if_pos (by omega)] at q; exact q)
      · skip
        first | (rw [if_neg (by omega), if_neg (by omega)] at q; exact q) | (rw [if_neg (by omega), if_pos (by omega)] at q; exact q) | (rw [if_pos (by omega)] at q; exact q)
    · skip
      first | (rw [if_neg (by omega), if_neg (by omega)] at q; exact q) | (rw [if_neg (by omega), if_pos (by omega)] at q; exact q) | (rw [if_pos (by omega)] at q; exact q)
  refine U_194 (by omega) a H ?_
  refine ⟨fun c1 => ?_, fun c1 => ?_⟩
  · skip
    refine ⟨fun c2 => ?_, fun c2 => ?_⟩
    · skip
      refine ⟨fun c3 => ?_, fun c3 => ?_⟩
      · skip
        refine k _ ?_
        repeat' split
        all_goals omega
      · skip
        refine k _ ?_
        repeat' split
        all_goals omega
    · skip
      refine k _ ?_
      repeat' split
      all_goals omega
  · skip
    refine k _ ?_
    repeat' split
    all_goals omega

set_option maxRecDepth 4000 in
theorem U_263 {X : Int × (Int → Int)} {d : Nat} {Q : Int → XH → Prop} (hd : 1 ≤ d) (a : Int) (H : XH) (h : ((a = 0) → Q (H 2 0) H) ∧ (¬ (a = 0) → ((a = 1) → Q (H 2 1) H) ∧ (¬ (a = 1) → ((a = 2) → Q (H 2 7) H) ∧ (¬ (a = 2) → ((a = 3) → Q (H 7 1) H) ∧ (¬ (a = 3) → ((a = 4) → Q (H 1 5) H) ∧ (¬ (a = 4) → ((a = 5) → Q (H 1 6) H) ∧ (¬ (a = 5) → ((a = 6) → Q (H 15 4) H) ∧ (¬ (a = 6) → ((a = 7) → Q (H 9 5) H) ∧ (¬ (a = 7) → ((a = 8) → Q (H 51 3) H) ∧ (¬ (a = 8) → ((((10 ≤ a ∧ a ≤ 13)) → (xI (a - 10)) ∧ ((((0 ≤ (a - 10) ∧ (a - 10) ≤ 3)) → ((0 : Int) ≤ a - 10 ∧ (a - 10 : Int) < 4) ∧ Q (H 14 (a - 10)) H) ∧ (¬ ((0 ≤ (a - 10) ∧ (a - 10) ≤ 3)) → Q (-1) H))) ∧ (¬ ((10 ≤ a ∧ a ≤ 13)) → ((((0 ≤ (-1) ∧ (-1) ≤ 3)) → ((0 : Int) ≤ (-1) ∧ ((-1) : Int) < 4) ∧ Q (H 14 (-1)) H) ∧ (¬ ((0 ≤ (-1) ∧ (-1) ≤ 3)) → Q (-1) H)))))))))))))) : xc X (d + 1) 263 [(2, 0), (0, a)] H Q := by
  refine ⟨rfl, ?_⟩
  show xq X d 263 Q 100000 [(0, (2, 0)), (1, (0, a))] [] H
  refine xq_run [150, 166] 300 ?_
  show ((a = 0) → xfR 0 (H 2 0) ∧ xKZ = xKZ ∧ Q (H 2 0) H) ∧ (¬ (a = 0) → ((a = 1) → xfR 0 (H 2 1) ∧ xKZ = xKZ ∧ Q (H 2 1) H) ∧ (¬ (a = 1) → ((a = 2) → xfR 0 (H 2 7) ∧ xKZ = xKZ ∧ Q (H 2 7) H) ∧ (¬ (a = 2) → ((a = 3) → xfR 0 (H 7 1) ∧ xKZ = xKZ ∧ Q (H 7 1) H) ∧ (¬ (a = 3) → ((a = 4) → xfR 0 (H 1 5) ∧ xKZ = xKZ ∧ Q (H 1 5) H) ∧ (¬ (a = 4) → ((a = 5) → xfR 0 (H 1 6) ∧ xKZ = xKZ ∧ Q (H 1 6) H) ∧ (¬ (a = 5) → ((a = 6) → xfR 0 (H 15 4) ∧ xKZ = xKZ ∧ Q (H 15 4) H) ∧ (¬ (a = 6) → ((a = 7) → xfR 0 (H 9 5) ∧ xKZ = xKZ ∧ Q (H 9 5) H) ∧ (¬ (a = 7) → ((a = 8) → xfR 0 (H 51 3) ∧ xKZ = xKZ ∧ Q (H 51 3) H) ∧ (¬ (a = 8) → xWM (xE X) xMC d 19 [(0, a), (0, 10), (0, 13)] xKZ H _)))))))))
  refine ⟨fun k_ => ?_, fun k_ => ?_⟩
  · replace h := h.1 k_
    exact ⟨trivial, rfl, h⟩
  · replace h := h.2 k_
    refine ⟨fun k_ => ?_, fun k_ => ?_⟩
    · replace h := h.1 k_
      exact ⟨trivial, rfl, h⟩
    · replace h := h.2 k_
      refine ⟨fun k_ => ?_, fun k_ => ?_⟩
      · replace h := h.1 k_
        exact ⟨trivial, rfl, h⟩
      · replace h := h.2 k_
        refine ⟨fun k_ => ?_, fun k_ => ?_⟩
        · replace h := h.1 k_
          exact ⟨trivial, rfl, h⟩
        · replace h := h.2 k_
          refine ⟨fun k_ => ?_, fun k_ => ?_⟩
          · replace h := h.1 k_
            exact ⟨trivial, rfl, h⟩
          · replace h := h.2 k_
            refine ⟨fun k_ => ?_, fun k_ => ?_⟩
            · replace h := h.1 k_
              exact ⟨trivial, rfl, h⟩
            · replace h := h.2 k_
              refine ⟨fun k_ => ?_, fun k_ => ?_⟩
              · replace h := h.1 k_
                exact ⟨trivial, rfl, h⟩
              · replace h := h.2 k_
                refine ⟨fun k_ => ?_, fun k_ => ?_⟩
                · replace h := h.1 k_
                  exact ⟨trivial, rfl, h⟩
                · replace h := h.2 k_
                  refine ⟨fun k_ => ?_, fun k_ => ?_⟩
                  · replace h := h.1 k_
                    exact ⟨trivial, rfl, h⟩
                  · replace h := h.2 k_
                    refine xc_in (s_19 (by omega) a 10 13 H  ?_)
                    replace h := h
                    show xq X d 263 Q 150 [(0, (2, 0)), (1, (0, a))] [(0, xb (10 ≤ a ∧ a ≤ 13))] H
                    refine xq_run [150, 166] 300 ?_
                    show ((xb (10 ≤ a ∧ a ≤ 13) = 0) → xWM (xE X) xMC d 198 [(0, (-1))] xKZ H _) ∧ (¬ (xb (10 ≤ a ∧ a ≤ 13) = 0) → (xI (a - 10)) ∧ xWM (xE X) xMC d 198 [(0, a - 10)] xKZ H _)
                    refine ⟨fun k_ => ?_, fun k_ => ?_⟩
                    · replace h := h.2 (xbe_0.mp k_)
                      refine xc_in (s_198 (by omega) (-1) H  ?_)
                      replace h := h
                      show xq X d 263 Q 166 [(2, (0, (-1))), (0, (2, 0)), (1, (0, a))] [(0, xb (0 ≤ (-1) ∧ (-1) ≤ 3))] H
                      refine xq_run [150, 166] 300 ?_
                      show ((xb (0 ≤ (-1) ∧ (-1) ≤ 3) = 0) → xfR 0 (-1) ∧ xKZ = xKZ ∧ Q (-1) H) ∧ (¬ (xb (0 ≤ (-1) ∧ (-1) ≤ 3) = 0) → ((0 : Int) ≤ (-1) ∧ ((-1) : Int) < 4) ∧ xfR 0 (H 14 (-1)) ∧ xKZ = xKZ ∧ Q (H 14 (-1)) H)
                      refine ⟨fun k_ => ?_, fun k_ => ?_⟩
                      · replace h := h.2 (xbe_0.mp k_)
                        exact ⟨trivial, rfl, h⟩
                      · replace h := h.1 (xbe_1.mp k_)
                        refine ⟨h.1, ?_⟩
                        replace h := h.2
                        exact ⟨trivial, rfl, h⟩
                    · replace h := h.1 (xbe_1.mp k_)
                      refine ⟨h.1, ?_⟩
                      replace h := h.2
                      refine xc_in (s_198 (by omega) (a - 10) H  ?_)
                      replace h := h
                      show xq X d 263 Q 166 [(2, (0, a - 10)), (0, (2, 0)), (1, (0, a))] [(0, xb (0 ≤ (a - 10) ∧ (a - 10) ≤ 3))] H
                      refine xq_run [150, 166] 300 ?_
                      show ((xb (0 ≤ (a - 10) ∧ (a - 10) ≤ 3) = 0) → xfR 0 (-1) ∧ xKZ = xKZ ∧ Q (-1) H) ∧ (¬ (xb (0 ≤ (a - 10) ∧ (a - 10) ≤ 3) = 0) → ((0 : Int) ≤ a - 10 ∧ (a - 10 : Int) < 4) ∧ xfR 0 (H 14 (a - 10)) ∧ xKZ = xKZ ∧ Q (H 14 (a - 10)) H)
                      refine ⟨fun k_ => ?_, fun k_ => ?_⟩
                      · replace h := h.2 (xbe_0.mp k_)
                        exact ⟨trivial, rfl, h⟩
                      · replace h := h.1 (xbe_1.mp k_)
                        refine ⟨h.1, ?_⟩
                        replace h := h.2
                        exact ⟨trivial, rfl, h⟩

set_option maxRecDepth 4000 in
theorem U_264 {X : Int × (Int → Int)} {d : Nat} {Q : Int → XH → Prop} (hd : 1 ≤ d) (a : Int) (H : XH) (h : ((a = 0) → Q (H 67 0) H) ∧ (¬ (a = 0) → ((a = 1) → (¬ H 67 0 = 0 ∧ xI (Int.tdiv (H 67 1) (H 67 0))) ∧ Q (Int.tdiv (H 67 1) (H 67 0)) H) ∧ (¬ (a = 1) → ((a = 2) → Q (H 68 0) H) ∧ (¬ (a = 2) → ((a = 3) → Q (H 68 1) H) ∧ (¬ (a = 3) → ((a = 4) → Q (H 68 2) H) ∧ (¬ (a = 4) → ((a = 5) → Q (H 68 3) H) ∧ (¬ (a = 5) → ((a = 6) → Q (H 68 4) H) ∧ (¬ (a = 6) → ((a = 7) → Q (H 68 5) H) ∧ (¬ (a = 7) → ((a = 8) → Q (H 67 5) H) ∧ (¬ (a = 8) → ((((10 ≤ a ∧ a ≤ 13)) → (xI (610 + a)) ∧ (xI ((610 + a) - 10)) ∧ ((0 : Int) ≤ (610 + a) - 10 ∧ ((610 + a) - 10 : Int) < 1180) ∧ Q (H 68 ((610 + a) - 10)) H) ∧ (¬ ((10 ≤ a ∧ a ≤ 13)) → Q (-1) H)))))))))))) : xc X (d + 1) 264 [(2, 67), (0, a)] H Q := by
  refine ⟨rfl, ?_⟩
  show xq X d 264 Q 100000 [(0, (2, 67)), (1, (0, a))] [] H
  refine xq_run [122] 300 ?_
  show ((a = 0) → xfR 0 (H 67 0) ∧ xKZ = xKZ ∧ Q (H 67 0) H) ∧ (¬ (a = 0) → ((a = 1) → (¬ H 67 0 = 0 ∧ xI (Int.tdiv (H 67 1) (H 67 0))) ∧ xfR 0 (Int.tdiv (H 67 1) (H 67 0)) ∧ xKZ = xKZ ∧ Q (Int.tdiv (H 67 1) (H 67 0)) H) ∧ (¬ (a = 1) → ((a = 2) → ((0 : Int) ≤ 0 ∧ (0 : Int) < 1180) ∧ xfR 0 (H 68 0) ∧ xKZ = xKZ ∧ Q (H 68 0) H) ∧ (¬ (a = 2) → ((a = 3) → ((0 : Int) ≤ 1 ∧ (1 : Int) < 1180) ∧ xfR 0 (H 68 1) ∧ xKZ = xKZ ∧ Q (H 68 1) H) ∧ (¬ (a = 3) → ((a = 4) → ((0 : Int) ≤ 2 ∧ (2 : Int) < 1180) ∧ xfR 0 (H 68 2) ∧ xKZ = xKZ ∧ Q (H 68 2) H) ∧ (¬ (a = 4) → ((a = 5) → ((0 : Int) ≤ 3 ∧ (3 : Int) < 1180) ∧ xfR 0 (H 68 3) ∧ xKZ = xKZ ∧ Q (H 68 3) H) ∧ (¬ (a = 5) → ((a = 6) → ((0 : Int) ≤ 4 ∧ (4 : Int) < 1180) ∧ xfR 0 (H 68 4) ∧ xKZ = xKZ ∧ Q (H 68 4) H) ∧ (¬ (a = 6) → ((a = 7) → ((0 : Int) ≤ 5 ∧ (5 : Int) < 1180) ∧ xfR 0 (H 68 5) ∧ xKZ = xKZ ∧ Q (H 68 5) H) ∧ (¬ (a = 7) → ((a = 8) → xfR 0 (H 67 5) ∧ xKZ = xKZ ∧ Q (H 67 5) H) ∧ (¬ (a = 8) → xWM (xE X) xMC d 23 [(0, a), (0, 10), (0, 13)] xKZ H _)))))))))
  refine ⟨fun k_ => ?_, fun k_ => ?_⟩
  · replace h := h.1 k_
    exact ⟨trivial, rfl, h⟩
  · replace h := h.2 k_
    refine ⟨fun k_ => ?_, fun k_ => ?_⟩
    · replace h := h.1 k_
      refine ⟨h.1, ?_⟩
      replace h := h.2
      exact ⟨trivial, rfl, h⟩
    · replace h := h.2 k_
      refine ⟨fun k_ => ?_, fun k_ => ?_⟩
      · replace h := h.1 k_
        refine ⟨⟨by decide, by decide⟩, ?_⟩
        exact ⟨trivial, rfl, h⟩
      · replace h := h.2 k_
        refine ⟨fun k_ => ?_, fun k_ => ?_⟩
        · replace h := h.1 k_
          refine ⟨⟨by decide, by decide⟩, ?_⟩
          exact ⟨trivial, rfl, h⟩
        · replace h := h.2 k_
          refine ⟨fun k_ => ?_, fun k_ => ?_⟩
          · replace h := h.1 k_
            refine ⟨⟨by decide, by decide⟩, ?_⟩
            exact ⟨trivial, rfl, h⟩
          · replace h := h.2 k_
            refine ⟨fun k_ => ?_, fun k_ => ?_⟩
            · replace h := h.1 k_
              refine ⟨⟨by decide, by decide⟩, ?_⟩
              exact ⟨trivial, rfl, h⟩
            · replace h := h.2 k_
              refine ⟨fun k_ => ?_, fun k_ => ?_⟩
              · replace h := h.1 k_
                refine ⟨⟨by decide, by decide⟩, ?_⟩
                exact ⟨trivial, rfl, h⟩
              · replace h := h.2 k_
                refine ⟨fun k_ => ?_, fun k_ => ?_⟩
                · replace h := h.1 k_
                  refine ⟨⟨by decide, by decide⟩, ?_⟩
                  exact ⟨trivial, rfl, h⟩
                · replace h := h.2 k_
                  refine ⟨fun k_ => ?_, fun k_ => ?_⟩
                  · replace h := h.1 k_
                    exact ⟨trivial, rfl, h⟩
                  · replace h := h.2 k_
                    refine xc_in (s_23 (by omega) a 10 13 H  ?_)
                    replace h := h
                    show xq X d 264 Q 122 [(0, (2, 67)), (1, (0, a))] [(0, xb (10 ≤ a ∧ a ≤ 13))] H
                    refine xq_run [122] 300 ?_
                    show ((xb (10 ≤ a ∧ a ≤ 13) = 0) → xfR 0 (-1) ∧ xKZ = xKZ ∧ Q (-1) H) ∧ (¬ (xb (10 ≤ a ∧ a ≤ 13) = 0) → (xI (610 + a)) ∧ (xI ((610 + a) - 10)) ∧ ((0 : Int) ≤ (610 + a) - 10 ∧ ((610 + a) - 10 : Int) < 1180) ∧ xfR 0 (H 68 ((610 + a) - 10)) ∧ xKZ = xKZ ∧ Q (H 68 ((610 + a) - 10)) H)
                    refine ⟨fun k_ => ?_, fun k_ => ?_⟩
                    · replace h := h.2 (xbe_0.mp k_)
                      exact ⟨trivial, rfl, h⟩
                    · replace h := h.1 (xbe_1.mp k_)
                      refine ⟨h.1, ?_⟩
                      replace h := h.2
                      refine ⟨h.1, ?_⟩
                      replace h := h.2
                      refine ⟨h.1, ?_⟩
                      replace h := h.2
                      exact ⟨trivial, rfl, h⟩

theorem p_about {X : Int × (Int → Int)} {d : Nat} (hd : 4 ≤ d) (a : Int) (H : XH) (hi : InvS H) (ht : InvT H) : xc X d 263 [(2, 0), (0, a)] H (fun r H1 => xc X d 264 [(2, 67), (0, a)] H1 (qOk H r)) := by
  cases d with
  | zero => omega
  | succ d =>
  obtain ⟨hg, hs⟩ := hi
  obtain ⟨h1, h2, h3⟩ := ht
  have ww := hg.ww
  have nn := hg.nn
  have l0 := hs.l0
  have l1 := hs.l1
  have l7 := hs.l7
  have hc := hs.c
  have n5 := hs.n5
  have n6 := hs.n6
  have v4 := hs.v4
  have r5 := hs.r5
  have hdv : (H 67 1).tdiv (H 67 0) = H 2 1 := by
    rw [← l1]
    exact Int.mul_tdiv_cancel _ (by omega)
  have sc : (10 ≤ a ∧ a ≤ 13) → H 14 (a - 10) = H 68 (610 + a - 10) := fun q => by
    rw [hs.sc (a - 10) (by omega) (by omega)]
    congr 1
    omega
  have lb : 0 ≤ H 2 1 ∧ H 2 1 ≤ 64 := by
    have e := Int.mul_comm (H 2 1) (H 67 0)
    rw [← hdv, Int.tdiv_eq_ediv_of_nonneg (by omega)]
    exact ⟨Int.ediv_nonneg (by omega) (by omega), Int.le_trans (Int.ediv_le_self _ (by omega)) (by omega)⟩
  have k : ∀ r, r = (if a = 0 then H 67 0 else if a = 1 then H 2 1 else if a = 2 then H 68 0 else if a = 3 then H 68 1 else if a = 4 then H 68 2 else if a = 5 then H 68 3 else if a = 6 then H 68 4 else if a = 7 then H 68 5 else if a = 8 then H 67 5 else if 10 ≤ a ∧ a ≤ 13 then H 68 (610 + a - 10) else -1) → xc X (d + 1) 264 [(2, 67), (0, a)] H (qOk H r) := fun r hr => by
    have q : qOk H r (if a = 0 then H 67 0 else if a = 1 then H 2 1 else if a = 2 then H 68 0 else if a = 3 then H 68 1 else if a = 4 then H 68 2 else if a = 5 then H 68 3 else if a = 6 then H 68 4 else if a = 7 then H 68 5 else if a = 8 then H 67 5 else if 10 ≤ a ∧ a ≤ 13 then H 68 (610 + a - 10) else -1) H := ⟨hr.symm, frQ_refl H⟩
    refine U_264 (by omega) a H ?_
    rw [hdv]
    refine ⟨fun c1 => ?_, fun c1 => ?_⟩
    · skip
      simp (disch := omega) only [if_pos, if_neg] at q
      exact q
    · skip
      refine ⟨fun c2 => ?_, fun c2 => ?_⟩
      · skip
        refine ⟨?_, ?_⟩
        · first | omega | (unfold xI; omega) | exact ⟨by omega, by unfold xI; omega⟩
        simp (disch := omega) only [if_pos, if_neg] at q
        exact q
      · skip
        refine ⟨fun c3 => ?_, fun c3 => ?_⟩
        · skip
          simp (disch := omega) only [if_pos, if_neg] at q
          exact q
        · skip
          refine ⟨fun c4 => ?_, fun c4 => ?_⟩
          · skip
            simp (disch := omega) only [if_pos, if_neg] at q
            exact q
          · skip
            refine ⟨fun c5 => ?_, fun c5 => ?_⟩
            · skip
              simp (disch := omega) only [if_pos, if_neg] at q
              exact q
            · skip
              refine ⟨fun c6 => ?_, fun c6 => ?_⟩
              · skip
                simp (disch := omega) only [if_pos, if_neg] at q
                exact q
              · skip
                refine ⟨fun c7 => ?_, fun c7 => ?_⟩
                · skip
                  simp (disch := omega) only [if_pos, if_neg] at q
                  exact q
                · skip
                  refine ⟨fun c8 => ?_, fun c8 => ?_⟩
                  · skip
                    simp (disch := omega) only [if_pos, if_neg] at q
                    exact q
                  · skip
                    refine ⟨fun c9 => ?_, fun c9 => ?_⟩
                    · skip
                      simp (disch := omega) only [if_pos, if_neg] at q
                      exact q
                    · skip
                      refine ⟨fun c10 => ?_, fun c10 => ?_⟩
                      · skip
                        refine ⟨?_, ?_⟩
                        · first | omega | (unfold xI; omega) | exact ⟨by omega, by unfold xI; omega⟩
                        refine ⟨?_, ?_⟩
                        · first | omega | (unfold xI; omega) | exact ⟨by omega, by unfold xI; omega⟩
                        refine ⟨?_, ?_⟩
                        · first | omega | (unfold xI; omega) | exact ⟨by omega, by unfold xI; omega⟩
                        simp (disch := omega) only [if_pos, if_neg] at q
                        exact q
                      · skip
                        simp (disch := omega) only [if_pos, if_neg] at q
                        exact q
  refine U_263 (by omega) a H ?_
  refine ⟨fun c1 => ?_, fun c1 => ?_⟩
  · skip
    first | (exfalso; omega) | (refine k _ ?_; simp (disch := omega) only [if_pos, if_neg]; done) | (refine k _ ?_; simp (disch := omega) only [if_pos, if_neg]; omega) | (refine k _ ?_; simp (disch := omega) only [if_pos, if_neg]; exact sc (by omega))
  · skip
    refine ⟨fun c2 => ?_, fun c2 => ?_⟩
    · skip
      first | (exfalso; omega) | (refine k _ ?_; simp (disch := omega) only [if_pos, if_neg]; done) | (refine k _ ?_; simp (disch := omega) only [if_pos, if_neg]; omega) | (refine k _ ?_; simp (disch := omega) only [if_pos, if_neg]; exact sc (by omega))
    · skip
      refine ⟨fun c3 => ?_, fun c3 => ?_⟩
      · skip
        first | (exfalso; omega) | (refine k _ ?_; simp (disch := omega) only [if_pos, if_neg]; done) | (refine k _ ?_; simp (disch := omega) only [if_pos, if_neg]; omega) | (refine k _ ?_; simp (disch := omega) only [if_pos, if_neg]; exact sc (by omega))
      · skip
        refine ⟨fun c4 => ?_, fun c4 => ?_⟩
        · skip
          first | (exfalso; omega) | (refine k _ ?_; simp (disch := omega) only [if_pos, if_neg]; done) | (refine k _ ?_; simp (disch := omega) only [if_pos, if_neg]; omega) | (refine k _ ?_; simp (disch := omega) only [if_pos, if_neg]; exact sc (by omega))
        · skip
          refine ⟨fun c5 => ?_, fun c5 => ?_⟩
          · skip
            first | (exfalso; omega) | (refine k _ ?_; simp (disch := omega) only [if_pos, if_neg]; done) | (refine k _ ?_; simp (disch := omega) only [if_pos, if_neg]; omega) | (refine k _ ?_; simp (disch := omega) only [if_pos, if_neg]; exact sc (by omega))
          · skip
            refine ⟨fun c6 => ?_, fun c6 => ?_⟩
            · skip
              first | (exfalso; omega) | (refine k _ ?_; simp (disch := omega) only [if_pos, if_neg]; done) | (refine k _ ?_; simp (disch := omega) only [if_pos, if_neg]; omega) | (refine k _ ?_; simp (disch := omega) only [if_pos, if_neg]; exact sc (by omega))
            · skip
              refine ⟨fun c7 => ?_, fun c7 => ?_⟩
              · skip
                first | (exfalso; omega) | (refine k _ ?_; simp (disch := omega) only [if_pos, if_neg]; done) | (refine k _ ?_; simp (disch := omega) only [if_pos, if_neg]; omega) | (refine k _ ?_; simp (disch := omega) only [if_pos, if_neg]; exact sc (by omega))
              · skip
                refine ⟨fun c8 => ?_, fun c8 => ?_⟩
                · skip
                  first | (exfalso; omega) | (refine k _ ?_; simp (disch := omega) only [if_pos, if_neg]; done) | (refine k _ ?_; simp (disch := omega) only [if_pos, if_neg]; omega) | (refine k _ ?_; simp (disch := omega) only [if_pos, if_neg]; exact sc (by omega))
                · skip
                  refine ⟨fun c9 => ?_, fun c9 => ?_⟩
                  · skip
                    first | (exfalso; omega) | (refine k _ ?_; simp (disch := omega) only [if_pos, if_neg]; done) | (refine k _ ?_; simp (disch := omega) only [if_pos, if_neg]; omega) | (refine k _ ?_; simp (disch := omega) only [if_pos, if_neg]; exact sc (by omega))
                  · skip
                    refine ⟨fun c10 => ?_, fun c10 => ?_⟩
                    · skip
                      refine ⟨?_, ?_⟩
                      · first | omega | (unfold xI; omega) | (exfalso; omega)
                      refine ⟨fun c11 => ?_, fun c11 => ?_⟩
                      · skip
                        refine ⟨?_, ?_⟩
                        · first | omega | (unfold xI; omega) | (exfalso; omega)
                        first | (exfalso; omega) | (refine k _ ?_; simp (disch := omega) only [if_pos, if_neg]; done) | (refine k _ ?_; simp (disch := omega) only [if_pos, if_neg]; omega) | (refine k _ ?_; simp (disch := omega) only [if_pos, if_neg]; exact sc (by omega))
                      · skip
                        first | (exfalso; omega) | (refine k _ ?_; simp (disch := omega) only [if_pos, if_neg]; done) | (refine k _ ?_; simp (disch := omega) only [if_pos, if_neg]; omega) | (refine k _ ?_; simp (disch := omega) only [if_pos, if_neg]; exact sc (by omega))
                    · skip
                      refine ⟨fun c12 => ?_, fun c12 => ?_⟩
                      · skip
                        refine ⟨?_, ?_⟩
                        · first | omega | (unfold xI; omega) | (exfalso; omega)
                        first | (exfalso; omega) | (refine k _ ?_; simp (disch := omega) only [if_pos, if_neg]; done) | (refine k _ ?_; simp (disch := omega) only [if_pos, if_neg]; omega) | (refine k _ ?_; simp (disch := omega) only [if_pos, if_neg]; exact sc (by omega))
                      · skip
                        first | (exfalso; omega) | (refine k _ ?_; simp (disch := omega) only [if_pos, if_neg]; done) | (refine k _ ?_; simp (disch := omega) only [if_pos, if_neg]; omega) | (refine k _ ?_; simp (disch := omega) only [if_pos, if_neg]; exact sc (by omega))
