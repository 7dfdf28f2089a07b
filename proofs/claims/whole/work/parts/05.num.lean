/-! SOUNDNESS 1: numbers -/
theorem xw_I {x : Int} (h : xI x) : (Int32.ofInt x).toInt = x := Int32.toInt_ofInt_of_le (by unfold xI at h; omega) (by unfold xI at h; omega)
theorem xw_J {x : Int} (h : xJ x) : (Int64.ofInt x).toInt = x := Int64.toInt_ofInt_of_le (by unfold xJ at h; omega) (by unfold xJ at h; omega)
theorem xw_toI (z : Int32) : xI z.toInt := by
  have h1 := z.le_toInt
  have h2 := z.toInt_lt
  unfold xI; omega
theorem xw_toJ (z : Int64) : xJ z.toInt := by
  have h1 := z.le_toInt
  have h2 := z.toInt_lt
  unfold xJ; omega
theorem xw_eq {x y : Int} (hx : xI x) (hy : xI y) : Int32.ofInt x = Int32.ofInt y ↔ x = y := by
  constructor
  · intro h
    have := congrArg Int32.toInt h
    rwa [xw_I hx, xw_I hy] at this
  · intro h; rw [h]
theorem xw_lt {x y : Int} (hx : xI x) (hy : xI y) : Int32.ofInt x < Int32.ofInt y ↔ x < y := by rw [Int32.lt_iff_toInt_lt, xw_I hx, xw_I hy]
theorem xw_le {x y : Int} (hx : xI x) (hy : xI y) : Int32.ofInt x ≤ Int32.ofInt y ↔ x ≤ y := by rw [Int32.le_iff_toInt_le, xw_I hx, xw_I hy]
theorem xw_0 : xI 0 := by unfold xI; omega
theorem xw_z : (0 : Int32) = Int32.ofInt 0 := rfl
theorem xw_eqJ {x y : Int} (hx : xJ x) (hy : xJ y) : Int64.ofInt x = Int64.ofInt y ↔ x = y := by
  constructor
  · intro h
    have := congrArg Int64.toInt h
    rwa [xw_J hx, xw_J hy] at this
  · intro h; rw [h]
theorem xw_div {x y : Int} (hx : xI x) (hy : xI y) (h : xI (x.tdiv y)) : Int32.ofInt x / Int32.ofInt y = Int32.ofInt (x.tdiv y) := by
  apply Int32.toInt_inj.mp
  rw [Int32.toInt_div, xw_I hx, xw_I hy, xw_I h]
  unfold xI at h
  rw [Int.bmod_eq_of_le (by omega) (by omega)]
theorem xw_divJ {x y : Int} (hx : xJ x) (hy : xJ y) (h : xJ (x.tdiv y)) : Int64.ofInt x / Int64.ofInt y = Int64.ofInt (x.tdiv y) := by
  apply Int64.toInt_inj.mp
  rw [Int64.toInt_div, xw_J hx, xw_J hy, xw_J h]
  unfold xJ at h
  rw [Int.bmod_eq_of_le (by omega) (by omega)]
theorem xw_rem {x y : Int} (hx : xI x) (hy : xI y) (h : xI (x.tdiv y)) : Int32.ofInt x - Int32.ofInt x / Int32.ofInt y * Int32.ofInt y = Int32.ofInt (x.tmod y) := by
  rw [xw_div hx hy h, ← Int32.ofInt_mul, ← Int32.ofInt_sub]
  congr 1
  have := Int.mul_tdiv_add_tmod x y
  rw [Int.mul_comm] at this
  omega
theorem xw_tmodI {x y : Int} (hx : xI x) (hy : xI y) (h0 : ¬ y = 0) : xI (x.tmod y) := by
  unfold xI at *
  have h1 : (x.tmod y).natAbs = x.natAbs % y.natAbs := Int.natAbs_tmod x y
  have h2 := Nat.mod_le x.natAbs y.natAbs
  have h3 := Nat.mod_lt x.natAbs (show 0 < y.natAbs by omega)
  omega
theorem xw_i2l {x : Int} (h : xI x) : (Int32.ofInt x).toInt64 = Int64.ofInt x := by
  apply Int64.toInt_inj.mp
  rw [Int32.toInt_toInt64, xw_I h, xw_J (by unfold xI at h; unfold xJ; omega)]
theorem xw_cmp {x y : Int} (hx : xJ x) (hy : xJ y) : lg_cmp (Int64.ofInt x) (Int64.ofInt y) = Int32.ofInt (xcmp x y) := by
  unfold lg_cmp xcmp
  simp only [gt_iff_lt, Int64.lt_iff_toInt_lt, xw_eqJ hx hy, xw_J hx, xw_J hy]
  split
  · rw [if_neg (by omega), if_neg (by omega)]; rfl
  · split
    · rw [if_neg (by omega)]; rfl
    · rw [if_pos (by omega)]; rfl
theorem xw_cmpI (x y : Int) : xI (xcmp x y) := by unfold xcmp xI; split <;> (try split) <;> omega
theorem xw_clamp {x : Int} (h0 : 0 ≤ x) (h : xI x) : (Int32.ofInt x).toNatClampNeg = x.toNat := by
  have : (Int32.ofInt x).toNatClampNeg = (Int32.ofInt x).toInt.toNat := rfl
  rw [this, xw_I h]
theorem xw_nneg {x : Int} (h0 : 0 ≤ x) (h : xI x) : ¬ Int32.ofInt x < 0 := by
  rw [xw_z, xw_lt h xw_0]; omega
theorem xw_in {x : Int} {n : Nat} (h0 : 0 ≤ x) (h1 : x < n) (h : xI x) : vp_in (Int32.ofInt x) n := by
  unfold vp_in
  rw [xw_clamp h0 h]
  intro q
  rcases q with q | q
  · exact xw_nneg h0 h q
  · omega
theorem xw_narZ {x : Int} (h : 0 ≤ x ∧ x ≤ 1) : narrow .boolean (.int (Int32.ofInt x)) = .int (Int32.ofInt x) ∧ fits .boolean (.int (Int32.ofInt x)) = true := by
  have : x = 0 ∨ x = 1 := by omega
  rcases this with rfl | rfl <;> exact ⟨rfl, rfl⟩
theorem xw_narB {x : Int} (h : -128 ≤ x ∧ x ≤ 127) : narrow .byte (.int (Int32.ofInt x)) = .int (Int32.ofInt x) ∧ fits .byte (.int (Int32.ofInt x)) = true := by
  have hI : xI x := by unfold xI; omega
  constructor
  · show Value.int _ = _
    congr 1
    apply Int32.toInt_inj.mp
    rw [Int8.toInt_toInt32, Int32.toInt_toInt8, xw_I hI, Int.bmod_eq_of_le (by omega) (by omega)]
  · show (decide ((-128 : Int32) ≤ Int32.ofInt x) && decide (Int32.ofInt x ≤ (127 : Int32))) = true
    rw [show (-128 : Int32) = Int32.ofInt (-128) from rfl, show (127 : Int32) = Int32.ofInt 127 from rfl]
    simp only [xw_le (by unfold xI; omega : xI (-128)) hI, xw_le hI (by unfold xI; omega : xI 127), Bool.and_eq_true, decide_eq_true_eq]
    exact h
theorem xw_narC {x : Int} (h : 0 ≤ x ∧ x ≤ 65535) : narrow .char (.int (Int32.ofInt x)) = .int (Int32.ofInt x) ∧ fits .char (.int (Int32.ofInt x)) = true := by
  obtain ⟨q, rfl⟩ : ∃ q : Nat, x = q := ⟨x.toNat, by omega⟩
  exact pk_charN (q := q) (by omega)
theorem xw_narV {ty : FieldType} {x : Int32} (h : narrow ty (.int x) = .int x) : vp_nar ty x = x := by
  unfold vp_nar
  rw [h]
