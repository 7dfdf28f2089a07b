/-! THE PURE LAYER 23: bits -/
theorem i32n {x : Int32} {k : Nat} (h : x.toBitVec.toNat = k) (hk : k < 2147483648) : x.toInt = (k : Int) := by
  show x.toBitVec.toInt = _
  rw [BitVec.toInt_eq_toNat_of_lt (by rw [h]; omega), h]
theorem i32b (a : Nat) (ha : a < 4294967296) : (Int32.ofInt (a : Int)).toBitVec.toNat = a := by
  show (BitVec.ofInt 32 (a : Int)).toNat = a
  rw [BitVec.ofInt_natCast, BitVec.toNat_ofNat, Nat.mod_eq_of_lt ha]
theorem xand_nat {a b : Nat} (ha : a < 2147483648) (hb : b < 2147483648) : xand (a : Int) (b : Int) = ((a &&& b : Nat) : Int) := by
  unfold xand
  refine i32n ?_ (Nat.lt_of_le_of_lt Nat.and_le_left ha)
  rw [Int32.toBitVec_and, BitVec.toNat_and, i32b a (by omega), i32b b (by omega)]
theorem xor_nat {a b : Nat} (ha : a < 2147483648) (hb : b < 2147483648) : xor_ (a : Int) (b : Int) = ((a ||| b : Nat) : Int) := by
  unfold xor_
  refine i32n ?_ (Nat.or_lt_two_pow (n := 31) ha hb)
  rw [Int32.toBitVec_or, BitVec.toNat_or, i32b a (by omega), i32b b (by omega)]
theorem xshl_1 : ∀ m : Nat, m < 31 → xshl 1 (m : Int) = ((2 ^ m : Nat) : Int) := by decide +kernel
theorem xshr_k : ∀ m : Nat, m < 32 → ((Int32.ofInt (m : Int) &&& 31).toBitVec.smod 32).toNat = m := by decide +kernel
theorem xshr_div {x : Int} {m : Nat} (hx : xI x) (hm : m < 32) : xshr x (m : Int) = x / ((2 ^ m : Nat) : Int) := by
  unfold xshr
  show (Int32.ofInt x >>> (Int32.ofInt (m : Int) &&& 31)).toBitVec.toInt = _
  rw [Int32.toBitVec_shiftRight, BitVec.toInt_sshiftRight', xshr_k m hm]
  show ((Int32.ofInt x).toInt) >>> m = _
  rw [xw_I hx, Int.shiftRight_eq_div_pow]
theorem i32m {x : Int} (hx : xI x) : (((Int32.ofInt x).toBitVec.toNat : Nat) : Int) = x % 4294967296 := by
  show ((BitVec.ofInt 32 x).toNat : Int) = _
  rw [BitVec.toNat_ofInt]
  have : (0 : Int) ≤ x % ((2 ^ 32 : Nat) : Int) := Int.emod_nonneg _ (by decide)
  rw [Int.toNat_of_nonneg this]
  rfl
theorem xand_mod {x : Int} {j : Nat} (hx : xI x) (hj : j < 31) : xand x (((2 ^ j - 1 : Nat) : Int)) = x % ((2 ^ j : Nat) : Int) := by
  have hp : 2 ^ j ≤ 2 ^ 30 := Nat.pow_le_pow_right (by decide) (by omega)
  have hp0 : 0 < 2 ^ j := Nat.pow_pos (by decide)
  have hp2 : (2 : Nat) ^ 30 = 1073741824 := rfl
  have e : ((Int32.ofInt x).toBitVec.toNat &&& (2 ^ j - 1)) = (Int32.ofInt x).toBitVec.toNat % 2 ^ j := Nat.and_two_pow_sub_one_eq_mod _ _
  have hlt : (Int32.ofInt x).toBitVec.toNat % 2 ^ j < 2 ^ j := Nat.mod_lt _ hp0
  have k : xand x (((2 ^ j - 1 : Nat) : Int)) = (((Int32.ofInt x).toBitVec.toNat % 2 ^ j : Nat) : Int) := by
    unfold xand
    refine i32n ?_ (by omega)
    rw [Int32.toBitVec_and, BitVec.toNat_and, i32b _ (by omega), e]
  rw [k, Int.natCast_emod, i32m hx]
  exact Int.emod_emod_of_dvd _ (by
    have : (4294967296 : Int) = ((2 ^ j : Nat) : Int) * ((2 ^ (32 - j) : Nat) : Int) := by
      rw [← Int.natCast_mul, ← Nat.pow_add, show j + (32 - j) = 32 by omega]
      rfl
    rw [this]
    exact Int.dvd_mul_right _ _)
theorem xand_1 {x : Int} (hx : xI x) : xand x 1 = x % 2 := xand_mod (j := 1) hx (by decide)
-- 64 bits
def xJn (m : Nat) : Int := (BitVec.ofNat 64 m).toInt
theorem i64J (m : Nat) : (Int64.ofInt (xJn m)).toBitVec = BitVec.ofNat 64 m := by
  show BitVec.ofInt 64 (BitVec.ofNat 64 m).toInt = _
  rw [BitVec.ofInt_toInt]
theorem xJn_and (a b : Nat) : xandL (xJn a) (xJn b) = xJn (a &&& b) := by
  unfold xandL
  show (Int64.ofInt (xJn a) &&& Int64.ofInt (xJn b)).toBitVec.toInt = _
  rw [Int64.toBitVec_and, i64J, i64J, ← BitVec.ofNat_and]
  rfl
theorem xJn_or (a b : Nat) : xorL (xJn a) (xJn b) = xJn (a ||| b) := by
  unfold xorL
  show (Int64.ofInt (xJn a) ||| Int64.ofInt (xJn b)).toBitVec.toInt = _
  rw [Int64.toBitVec_or, i64J, i64J, ← BitVec.ofNat_or]
  rfl
theorem xJn_id {m : Nat} (h : m < 9223372036854775808) : xJn m = (m : Int) := by
  unfold xJn
  rw [BitVec.toInt_eq_toNat_of_lt (by rw [BitVec.toNat_ofNat]; omega), BitVec.toNat_ofNat, Nat.mod_eq_of_lt (by omega)]
theorem xJn_0 {m : Nat} (h : m < 18446744073709551616) : xJn m = 0 ↔ m = 0 := by
  constructor
  · intro k
    unfold xJn at k
    rw [BitVec.toInt_eq_toNat_cond, BitVec.toNat_ofNat, Nat.mod_eq_of_lt (by omega)] at k
    split at k <;> omega
  · intro k
    rw [k]
    rfl
theorem xJn_shl : ∀ c : Nat, c < 64 → xshlL 1 (c : Int) = xJn (2 ^ c) := by decide +kernel
theorem xJn_sub {a b : Nat} (h : b ≤ a) : xsubW (xJn a) (xJn b) = xJn (a - b) := by
  unfold xsubW
  show (Int64.ofInt (xJn a) - Int64.ofInt (xJn b)).toBitVec.toInt = _
  rw [Int64.toBitVec_sub, i64J, i64J]
  unfold xJn
  congr 1
  apply BitVec.eq_of_toNat_eq
  rw [BitVec.toNat_sub, BitVec.toNat_ofNat, BitVec.toNat_ofNat, BitVec.toNat_ofNat]
  omega
theorem xush_k : ∀ k : Nat, k < 64 → ((Int32.ofInt (k : Int)).toInt64.toUInt64 &&& Int64.toUInt64 63).toNat % 64 = k := by decide +kernel
theorem xJn_ush {m k : Nat} (hm : m < 18446744073709551616) (hk : k < 64) : xushL (xJn m) (k : Int) = xJn (m >>> k) := by
  unfold xushL
  have e : ((Int64.ofInt (xJn m)).toUInt64 >>> ((Int32.ofInt (k : Int)).toInt64.toUInt64 &&& Int64.toUInt64 63)).toNat = m >>> k := by
    rw [UInt64.toNat_shiftRight, xush_k k hk]
    show (Int64.ofInt (xJn m)).toBitVec.toNat >>> k = _
    rw [i64J, BitVec.toNat_ofNat, Nat.mod_eq_of_lt hm]
  generalize (Int64.ofInt (xJn m)).toUInt64 >>> ((Int32.ofInt (k : Int)).toInt64.toUInt64 &&& Int64.toUInt64 63) = u at e
  show u.toBitVec.toInt = _
  unfold xJn
  congr 1
  apply BitVec.eq_of_toNat_eq
  rw [BitVec.toNat_ofNat]
  show u.toNat = _
  rw [e, Nat.mod_eq_of_lt]
  exact Nat.lt_of_le_of_lt (by rw [Nat.shiftRight_eq_div_pow]; exact Nat.div_le_self _ _) hm
theorem xJn_ush' {m k : Nat} {c : Int} (hc : c = (k : Int)) (hm : m < 18446744073709551616) (hk : k < 64) : xushL (xJn m) c = xJn (m >>> k) := by
  rw [hc]
  exact xJn_ush hm hk
-- bytes
def BB (φ : Nat → Nat) : Nat → Nat → Nat
  | 0, _ => 0
  | k + 1, m => φ (m % 256) + 256 * BB φ k (m / 256)
def MK (c : Nat) : Nat → Nat
  | 0 => 0
  | k + 1 => c + 256 * MK c k
theorem BB_s (φ : Nat → Nat) (k m : Nat) : BB φ (k + 1) m = φ (m % 256) + 256 * BB φ k (m / 256) := rfl
theorem BB_id : ∀ (k m : Nat), m < 256 ^ k → BB (fun b => b) k m = m
  | 0, m, h => by
    rw [Nat.pow_zero] at h
    unfold BB
    omega
  | k + 1, m, h => by
    unfold BB
    rw [BB_id k (m / 256) (by rw [Nat.pow_succ] at h; exact Nat.div_lt_of_lt_mul (by omega))]
    omega
theorem BB_congr {φ ψ : Nat → Nat} (h : ∀ b, b < 256 → φ b = ψ b) : ∀ (k m : Nat), BB φ k m = BB ψ k m
  | 0, _ => rfl
  | k + 1, m => by
    unfold BB
    rw [h _ (Nat.mod_lt _ (by decide)), BB_congr h k]
theorem BB_comp {φ ψ : Nat → Nat} (h : ∀ b, b < 256 → φ b < 256) : ∀ (k m : Nat), BB ψ k (BB φ k m) = BB (fun b => ψ (φ b)) k m
  | 0, _ => rfl
  | k + 1, m => by
    have h1 := h (m % 256) (Nat.mod_lt _ (by decide))
    rw [BB_s φ, BB_s ψ, BB_s (fun b => ψ (φ b)), show (φ (m % 256) + 256 * BB φ k (m / 256)) % 256 = φ (m % 256) by omega, show (φ (m % 256) + 256 * BB φ k (m / 256)) / 256 = BB φ k (m / 256) by omega, BB_comp h k]
theorem BB_add {φ ψ : Nat → Nat} : ∀ (k m : Nat), BB φ k m + BB ψ k m = BB (fun b => φ b + ψ b) k m
  | 0, _ => rfl
  | k + 1, m => by
    have := BB_add (φ := φ) (ψ := ψ) k (m / 256)
    unfold BB
    omega
theorem and_split (a b : Nat) : a &&& b = ((a % 256) &&& (b % 256)) + 256 * ((a / 256) &&& (b / 256)) := by
  have h1 := Nat.and_mod_two_pow (a := a) (b := b) (n := 8)
  have h2 := Nat.and_div_two_pow (a := a) (b := b) (n := 8)
  rw [show (2 : Nat) ^ 8 = 256 from rfl] at h1 h2
  rw [← h1, ← h2]
  omega
theorem BB_mask {c : Nat} (hc : c < 256) : ∀ (k m : Nat), m &&& MK c k = BB (fun b => b &&& c) k m
  | 0, m => by
    unfold MK BB
    rw [Nat.and_zero]
  | k + 1, m => by
    rw [and_split]
    unfold MK BB
    rw [show (c + 256 * MK c k) % 256 = c by omega, show (c + 256 * MK c k) / 256 = MK c k by omega, BB_mask hc k]
theorem BB_shmask {c p : Nat} (hc : c < 256) (hp : p = 2 ∨ p = 4) (hq : ∀ x, x < 1024 → ((x / p) % 256) &&& c = ((x % 256) / p) &&& c) : ∀ (k m : Nat), (m / p) &&& MK c k = BB (fun b => (b / p) &&& c) k m
  | 0, m => by
    unfold MK BB
    rw [Nat.and_zero]
  | k + 1, m => by
    rw [and_split]
    unfold MK BB
    have h1 := hq (m % 1024) (Nat.mod_lt _ (by decide))
    rw [show (c + 256 * MK c k) % 256 = c by omega, show (c + 256 * MK c k) / 256 = MK c k by omega]
    have e1 : m / p % 256 = m % 1024 / p % 256 := by rcases hp with e | e <;> subst e <;> omega
    have e2 : m % 1024 % 256 = m % 256 := by omega
    have e3 : m / p / 256 = m / 256 / p := by rcases hp with e | e <;> subst e <;> omega
    rw [e1, h1, e2, e3, BB_shmask hc hp hq k]
theorem BB_nib {φ : Nat → Nat} (h : ∀ b, b < 256 → φ b % 16 ≤ 4 ∧ φ b / 16 ≤ 4) : ∀ (k m : Nat), (BB φ k m + BB φ k m / 16) &&& MK 15 k = BB (fun b => φ b % 16 + φ b / 16) k m
  | 0, m => by
    unfold MK BB
    rw [Nat.and_zero]
  | k + 1, m => by
    have h1 := h (m % 256) (Nat.mod_lt _ (by decide))
    have ih := BB_nib h k (m / 256)
    have hE : BB φ k (m / 256) % 16 ≤ 4 := by
      cases k with
      | zero => unfold BB; omega
      | succ k =>
        have h2 := h (m / 256 % 256) (Nat.mod_lt _ (by decide))
        unfold BB
        omega
    rw [and_split]
    unfold MK
    rw [show (15 + 256 * MK 15 k) % 256 = 15 by omega, show (15 + 256 * MK 15 k) / 256 = MK 15 k by omega]
    have e0 : BB φ (k + 1) m = φ (m % 256) + 256 * BB φ k (m / 256) := rfl
    have e9 : BB (fun b => φ b % 16 + φ b / 16) (k + 1) m = (φ (m % 256) % 16 + φ (m % 256) / 16) + 256 * BB (fun b => φ b % 16 + φ b / 16) k (m / 256) := rfl
    rw [e0, e9]
    generalize BB φ k (m / 256) = E at *
    generalize φ (m % 256) = e at *
    have e1 : (e + 256 * E + (e + 256 * E) / 16) % 256 = e + e / 16 + 16 * (E % 16) := by omega
    have e2 : (e + 256 * E + (e + 256 * E) / 16) / 256 = E + E / 16 := by omega
    rw [e1, e2, ih]
    have e3 : (e + e / 16 + 16 * (E % 16)) &&& 15 = (e + e / 16 + 16 * (E % 16)) % 16 := Nat.and_two_pow_sub_one_eq_mod _ 4
    rw [e3]
    omega
/-- how many bits are set -/
def popB : Nat → Nat → Nat
  | 0, _ => 0
  | k + 1, m => m % 2 + popB k (m / 2)
theorem popB_le : ∀ (k m : Nat), popB k m ≤ k
  | 0, _ => Nat.le_refl _
  | k + 1, m => by
    have := popB_le k (m / 2)
    unfold popB
    omega
theorem popB_8 (k m : Nat) : popB (k + 8) m = popB 8 (m % 256) + popB k (m / 256) := by
  have h : ∀ k m, popB (k + 8) m = m % 2 + (m / 2 % 2 + (m / 2 / 2 % 2 + (m / 2 / 2 / 2 % 2 + (m / 2 / 2 / 2 / 2 % 2 + (m / 2 / 2 / 2 / 2 / 2 % 2 + (m / 2 / 2 / 2 / 2 / 2 / 2 % 2 + (m / 2 / 2 / 2 / 2 / 2 / 2 / 2 % 2 + popB k (m / 2 / 2 / 2 / 2 / 2 / 2 / 2 / 2)))))))) := fun _ _ => rfl
  have h8 := h 0 (m % 256)
  rw [Nat.zero_add] at h8
  have z : ∀ x, popB 0 x = 0 := fun _ => rfl
  rw [z] at h8
  rw [h, h8, show m / 2 / 2 / 2 / 2 / 2 / 2 / 2 / 2 = m / 256 by omega]
  generalize popB k (m / 256) = P
  omega
def φ1 (b : Nat) : Nat := b - ((b / 2) &&& 85)
def φ2 (b : Nat) : Nat := (φ1 b &&& 51) + ((φ1 b / 4) &&& 51)
theorem φ_ok : ∀ b, b < 256 → ((b / 2) &&& 85 ≤ b ∧ φ1 b < 256) ∧ (φ2 b % 16 ≤ 4 ∧ φ2 b / 16 ≤ 4) ∧ φ2 b % 16 + φ2 b / 16 = popB 8 b := by decide +kernel
theorem sh2_ok : ∀ x, x < 1024 → ((x / 2) % 256) &&& 85 = ((x % 256) / 2) &&& 85 := by decide +kernel
theorem sh4_ok : ∀ x, x < 1024 → ((x / 4) % 256) &&& 51 = ((x % 256) / 4) &&& 51 := by decide +kernel
theorem BB_lt {φ : Nat → Nat} (h : ∀ b, b < 256 → φ b < 256) : ∀ (k m : Nat), BB φ k m < 256 ^ k
  | 0, _ => by unfold BB; exact Nat.lt_of_lt_of_eq (by decide) (Nat.pow_zero 256).symm
  | k + 1, m => by
    have := BB_lt h k (m / 256)
    have h1 := h (m % 256) (Nat.mod_lt _ (by decide))
    unfold BB
    rw [Nat.pow_succ]
    omega
theorem pop_s1 (m : Nat) (hm : m < 256 ^ 8) : (m >>> 1) &&& 6148914691236517205 ≤ m ∧ m - ((m >>> 1) &&& 6148914691236517205) = BB φ1 8 m := by
  have e : (m >>> 1) &&& 6148914691236517205 = BB (fun b => (b / 2) &&& 85) 8 m := BB_shmask (c := 85) (p := 2) (by decide) (Or.inl rfl) sh2_ok 8 m
  have a : BB φ1 8 m + BB (fun b => (b / 2) &&& 85) 8 m = m := by
    rw [BB_add, BB_congr (ψ := fun b => b) (fun b hb => by
      have := (φ_ok b hb).1.1
      unfold φ1
      omega) 8 m]
    exact BB_id 8 m hm
  rw [e]
  omega
theorem pop_s2 (m : Nat) : (BB φ1 8 m &&& 3689348814741910323) + ((BB φ1 8 m >>> 2) &&& 3689348814741910323) = BB φ2 8 m := by
  have e1 : BB φ1 8 m &&& 3689348814741910323 = BB (fun b => b &&& 51) 8 (BB φ1 8 m) := BB_mask (c := 51) (by decide) 8 _
  have e2 : (BB φ1 8 m >>> 2) &&& 3689348814741910323 = BB (fun b => (b / 4) &&& 51) 8 (BB φ1 8 m) := by
    rw [show BB φ1 8 m >>> 2 = BB φ1 8 m / 4 from Nat.shiftRight_eq_div_pow _ 2]
    exact BB_shmask (c := 51) (p := 4) (by decide) (Or.inr rfl) sh4_ok 8 _
  rw [e1, e2, BB_comp (fun b hb => (φ_ok b hb).1.2), BB_comp (fun b hb => (φ_ok b hb).1.2), BB_add]
  rfl
theorem pop_s3 (m : Nat) : (BB φ2 8 m + (BB φ2 8 m >>> 4)) &&& 1085102592571150095 = BB (popB 8) 8 m := by
  have e := BB_nib (φ := φ2) (fun b hb => (φ_ok b hb).2.1) 8 m
  rw [BB_congr (ψ := popB 8) (fun b hb => (φ_ok b hb).2.2) 8 m] at e
  rw [show BB φ2 8 m >>> 4 = BB φ2 8 m / 16 from Nat.shiftRight_eq_div_pow _ 4]
  exact e
theorem pop_end (m : Nat) : ∃ p0 p1 p2 p3 p4 p5 p6 p7 : Nat, (p0 ≤ 8 ∧ p1 ≤ 8 ∧ p2 ≤ 8 ∧ p3 ≤ 8 ∧ p4 ≤ 8 ∧ p5 ≤ 8 ∧ p6 ≤ 8 ∧ p7 ≤ 8) ∧ BB (popB 8) 8 m = p0 + 256 * (p1 + 256 * (p2 + 256 * (p3 + 256 * (p4 + 256 * (p5 + 256 * (p6 + 256 * p7)))))) ∧ popB 64 m = p0 + (p1 + (p2 + (p3 + (p4 + (p5 + (p6 + p7)))))) := by
  refine ⟨_, _, _, _, _, _, _, _, ⟨popB_le 8 _, popB_le 8 _, popB_le 8 _, popB_le 8 _, popB_le 8 _, popB_le 8 _, popB_le 8 _, popB_le 8 _⟩, rfl, ?_⟩
  have hm : ∀ x, popB 8 x = popB 8 (x % 256) := fun x => popB_8 0 x
  rw [popB_8 56 m, popB_8 48 (m / 256), popB_8 40 (m / 256 / 256), popB_8 32 (m / 256 / 256 / 256), popB_8 24 (m / 256 / 256 / 256 / 256), popB_8 16 (m / 256 / 256 / 256 / 256 / 256), popB_8 8 (m / 256 / 256 / 256 / 256 / 256 / 256), hm (m / 256 / 256 / 256 / 256 / 256 / 256 / 256)]
theorem pop_fin (p0 p1 p2 p3 p4 p5 p6 p7 N : Nat) (hp : p0 ≤ 8 ∧ p1 ≤ 8 ∧ p2 ≤ 8 ∧ p3 ≤ 8 ∧ p4 ≤ 8 ∧ p5 ≤ 8 ∧ p6 ≤ 8 ∧ p7 ≤ 8) (hB : N = p0 + 256 * (p1 + 256 * (p2 + 256 * (p3 + 256 * (p4 + 256 * (p5 + 256 * (p6 + 256 * (p7)))))))) : (N + N / 256 + (N + N / 256) / 65536 + (N + N / 256 + (N + N / 256) / 65536) / 4294967296) % 128 = p0 + (p1 + (p2 + (p3 + (p4 + (p5 + (p6 + p7)))))) := by
  have q1 : N / 256 = p1 + 256 * (p2 + 256 * (p3 + 256 * (p4 + 256 * (p5 + 256 * (p6 + 256 * (p7)))))) := by omega
  generalize N / 256 = A at *
  have r1 : N + A = (p0 + p1) + 256 * ((p1 + p2) + 256 * ((p2 + p3) + 256 * ((p3 + p4) + 256 * ((p4 + p5) + 256 * ((p5 + p6) + 256 * ((p6 + p7) + 256 * ((p7)))))))) := by omega
  generalize N + A = S at *
  clear hB q1
  have q2 : S / 65536 = (p2 + p3) + 256 * ((p3 + p4) + 256 * ((p4 + p5) + 256 * ((p5 + p6) + 256 * ((p6 + p7) + 256 * ((p7)))))) := by omega
  generalize S / 65536 = B at *
  have r2 : S + B = (p0 + p1 + p2 + p3) + 256 * ((p1 + p2 + p3 + p4) + 256 * ((p2 + p3 + p4 + p5) + 256 * ((p3 + p4 + p5 + p6) + 256 * ((p4 + p5 + p6 + p7) + 256 * ((p5 + p6 + p7) + 256 * ((p6 + p7) + 256 * ((p7)))))))) := by omega
  generalize S + B = T at *
  clear r1 q2
  have q3 : T / 4294967296 = (p4 + p5 + p6 + p7) + 256 * ((p5 + p6 + p7) + 256 * ((p6 + p7) + 256 * ((p7)))) := by omega
  generalize T / 4294967296 = C at *
  omega
theorem xl2i_small {x : Int} (h : 0 ≤ x) (hx : x < 2147483648) : xl2i x = x := xl2i_id (by unfold xI; omega)
theorem xl2i_mod (m : Nat) : (Int64.ofInt (m : Int)).toInt32 = Int32.ofInt (m : Int) := by
  rw [Int64.toInt32_ofInt]
theorem xl2i_127 (m : Nat) : xand (xl2i (m : Int)) 127 = ((m % 128 : Nat) : Int) := by
  have h1 : xl2i (m : Int) = (Int32.ofInt (m : Int)).toInt := by
    unfold xl2i
    rw [xl2i_mod]
  have h2 : xI (xl2i (m : Int)) := by
    rw [h1]
    exact xw_toI _
  have h3 := xand_mod (j := 7) h2 (by decide)
  have h4 : xand (xl2i (m : Int)) 127 = xl2i (m : Int) % 128 := h3
  rw [h4, h1, Int32.toInt_ofInt]
  rw [show Int32.size = 4294967296 from rfl, Int.bmod_def]
  split <;> omega

set_option maxRecDepth 4000 in
theorem U_70 {X : Int × (Int → Int)} {d : Nat} {Q : Int → XH → Prop} (hd : 0 ≤ d) (x : Int) (H : XH) (h : (xJ ((xandL (xsubW x (xandL (xushL x 1) 6148914691236517205)) 3689348814741910323) + (xandL (xushL (xsubW x (xandL (xushL x 1) 6148914691236517205)) 2) 3689348814741910323))) ∧ (xJ (((xandL (xsubW x (xandL (xushL x 1) 6148914691236517205)) 3689348814741910323) + (xandL (xushL (xsubW x (xandL (xushL x 1) 6148914691236517205)) 2) 3689348814741910323)) + (xushL ((xandL (xsubW x (xandL (xushL x 1) 6148914691236517205)) 3689348814741910323) + (xandL (xushL (xsubW x (xandL (xushL x 1) 6148914691236517205)) 2) 3689348814741910323)) 4))) ∧ (xJ ((xandL (((xandL (xsubW x (xandL (xushL x 1) 6148914691236517205)) 3689348814741910323) + (xandL (xushL (xsubW x (xandL (xushL x 1) 6148914691236517205)) 2) 3689348814741910323)) + (xushL ((xandL (xsubW x (xandL (xushL x 1) 6148914691236517205)) 3689348814741910323) + (xandL (xushL (xsubW x (xandL (xushL x 1) 6148914691236517205)) 2) 3689348814741910323)) 4)) 1085102592571150095) + (xushL (xandL (((xandL (xsubW x (xandL (xushL x 1) 6148914691236517205)) 3689348814741910323) + (xandL (xushL (xsubW x (xandL (xushL x 1) 6148914691236517205)) 2) 3689348814741910323)) + (xushL ((xandL (xsubW x (xandL (xushL x 1) 6148914691236517205)) 3689348814741910323) + (xandL (xushL (xsubW x (xandL (xushL x 1) 6148914691236517205)) 2) 3689348814741910323)) 4)) 1085102592571150095) 8))) ∧ (xJ (((xandL (((xandL (xsubW x (xandL (xushL x 1) 6148914691236517205)) 3689348814741910323) + (xandL (xushL (xsubW x (xandL (xushL x 1) 6148914691236517205)) 2) 3689348814741910323)) + (xushL ((xandL (xsubW x (xandL (xushL x 1) 6148914691236517205)) 3689348814741910323) + (xandL (xushL (xsubW x (xandL (xushL x 1) 6148914691236517205)) 2) 3689348814741910323)) 4)) 1085102592571150095) + (xushL (xandL (((xandL (xsubW x (xandL (xushL x 1) 6148914691236517205)) 3689348814741910323) + (xandL (xushL (xsubW x (xandL (xushL x 1) 6148914691236517205)) 2) 3689348814741910323)) + (xushL ((xandL (xsubW x (xandL (xushL x 1) 6148914691236517205)) 3689348814741910323) + (xandL (xushL (xsubW x (xandL (xushL x 1) 6148914691236517205)) 2) 3689348814741910323)) 4)) 1085102592571150095) 8)) + (xushL ((xandL (((xandL (xsubW x (xandL (xushL x 1) 6148914691236517205)) 3689348814741910323) + (xandL (xushL (xsubW x (xandL (xushL x 1) 6148914691236517205)) 2) 3689348814741910323)) + (xushL ((xandL (xsubW x (xandL (xushL x 1) 6148914691236517205)) 3689348814741910323) + (xandL (xushL (xsubW x (xandL (xushL x 1) 6148914691236517205)) 2) 3689348814741910323)) 4)) 1085102592571150095) + (xushL (xandL (((xandL (xsubW x (xandL (xushL x 1) 6148914691236517205)) 3689348814741910323) + (xandL (xushL (xsubW x (xandL (xushL x 1) 6148914691236517205)) 2) 3689348814741910323)) + (xushL ((xandL (xsubW x (xandL (xushL x 1) 6148914691236517205)) 3689348814741910323) + (xandL (xushL (xsubW x (xandL (xushL x 1) 6148914691236517205)) 2) 3689348814741910323)) 4)) 1085102592571150095) 8)) 16))) ∧ (xJ ((((xandL (((xandL (xsubW x (xandL (xushL x 1) 6148914691236517205)) 3689348814741910323) + (xandL (xushL (xsubW x (xandL (xushL x 1) 6148914691236517205)) 2) 3689348814741910323)) + (xushL ((xandL (xsubW x (xandL (xushL x 1) 6148914691236517205)) 3689348814741910323) + (xandL (xushL (xsubW x (xandL (xushL x 1) 6148914691236517205)) 2) 3689348814741910323)) 4)) 1085102592571150095) + (xushL (xandL (((xandL (xsubW x (xandL (xushL x 1) 6148914691236517205)) 3689348814741910323) + (xandL (xushL (xsubW x (xandL (xushL x 1) 6148914691236517205)) 2) 3689348814741910323)) + (xushL ((xandL (xsubW x (xandL (xushL x 1) 6148914691236517205)) 3689348814741910323) + (xandL (xushL (xsubW x (xandL (xushL x 1) 6148914691236517205)) 2) 3689348814741910323)) 4)) 1085102592571150095) 8)) + (xushL ((xandL (((xandL (xsubW x (xandL (xushL x 1) 6148914691236517205)) 3689348814741910323) + (xandL (xushL (xsubW x (xandL (xushL x 1) 6148914691236517205)) 2) 3689348814741910323)) + (xushL ((xandL (xsubW x (xandL (xushL x 1) 6148914691236517205)) 3689348814741910323) + (xandL (xushL (xsubW x (xandL (xushL x 1) 6148914691236517205)) 2) 3689348814741910323)) 4)) 1085102592571150095) + (xushL (xandL (((xandL (xsubW x (xandL (xushL x 1) 6148914691236517205)) 3689348814741910323) + (xandL (xushL (xsubW x (xandL (xushL x 1) 6148914691236517205)) 2) 3689348814741910323)) + (xushL ((xandL (xsubW x (xandL (xushL x 1) 6148914691236517205)) 3689348814741910323) + (xandL (xushL (xsubW x (xandL (xushL x 1) 6148914691236517205)) 2) 3689348814741910323)) 4)) 1085102592571150095) 8)) 16)) + (xushL (((xandL (((xandL (xsubW x (xandL (xushL x 1) 6148914691236517205)) 3689348814741910323) + (xandL (xushL (xsubW x (xandL (xushL x 1) 6148914691236517205)) 2) 3689348814741910323)) + (xushL ((xandL (xsubW x (xandL (xushL x 1) 6148914691236517205)) 3689348814741910323) + (xandL (xushL (xsubW x (xandL (xushL x 1) 6148914691236517205)) 2) 3689348814741910323)) 4)) 1085102592571150095) + (xushL (xandL (((xandL (xsubW x (xandL (xushL x 1) 6148914691236517205)) 3689348814741910323) + (xandL (xushL (xsubW x (xandL (xushL x 1) 6148914691236517205)) 2) 3689348814741910323)) + (xushL ((xandL (xsubW x (xandL (xushL x 1) 6148914691236517205)) 3689348814741910323) + (xandL (xushL (xsubW x (xandL (xushL x 1) 6148914691236517205)) 2) 3689348814741910323)) 4)) 1085102592571150095) 8)) + (xushL ((xandL (((xandL (xsubW x (xandL (xushL x 1) 6148914691236517205)) 3689348814741910323) + (xandL (xushL (xsubW x (xandL (xushL x 1) 6148914691236517205)) 2) 3689348814741910323)) + (xushL ((xandL (xsubW x (xandL (xushL x 1) 6148914691236517205)) 3689348814741910323) + (xandL (xushL (xsubW x (xandL (xushL x 1) 6148914691236517205)) 2) 3689348814741910323)) 4)) 1085102592571150095) + (xushL (xandL (((xandL (xsubW x (xandL (xushL x 1) 6148914691236517205)) 3689348814741910323) + (xandL (xushL (xsubW x (xandL (xushL x 1) 6148914691236517205)) 2) 3689348814741910323)) + (xushL ((xandL (xsubW x (xandL (xushL x 1) 6148914691236517205)) 3689348814741910323) + (xandL (xushL (xsubW x (xandL (xushL x 1) 6148914691236517205)) 2) 3689348814741910323)) 4)) 1085102592571150095) 8)) 16)) 32))) ∧ Q (xand (xl2i ((((xandL (((xandL (xsubW x (xandL (xushL x 1) 6148914691236517205)) 3689348814741910323) + (xandL (xushL (xsubW x (xandL (xushL x 1) 6148914691236517205)) 2) 3689348814741910323)) + (xushL ((xandL (xsubW x (xandL (xushL x 1) 6148914691236517205)) 3689348814741910323) + (xandL (xushL (xsubW x (xandL (xushL x 1) 6148914691236517205)) 2) 3689348814741910323)) 4)) 1085102592571150095) + (xushL (xandL (((xandL (xsubW x (xandL (xushL x 1) 6148914691236517205)) 3689348814741910323) + (xandL (xushL (xsubW x (xandL (xushL x 1) 6148914691236517205)) 2) 3689348814741910323)) + (xushL ((xandL (xsubW x (xandL (xushL x 1) 6148914691236517205)) 3689348814741910323) + (xandL (xushL (xsubW x (xandL (xushL x 1) 6148914691236517205)) 2) 3689348814741910323)) 4)) 1085102592571150095) 8)) + (xushL ((xandL (((xandL (xsubW x (xandL (xushL x 1) 6148914691236517205)) 3689348814741910323) + (xandL (xushL (xsubW x (xandL (xushL x 1) 6148914691236517205)) 2) 3689348814741910323)) + (xushL ((xandL (xsubW x (xandL (xushL x 1) 6148914691236517205)) 3689348814741910323) + (xandL (xushL (xsubW x (xandL (xushL x 1) 6148914691236517205)) 2) 3689348814741910323)) 4)) 1085102592571150095) + (xushL (xandL (((xandL (xsubW x (xandL (xushL x 1) 6148914691236517205)) 3689348814741910323) + (xandL (xushL (xsubW x (xandL (xushL x 1) 6148914691236517205)) 2) 3689348814741910323)) + (xushL ((xandL (xsubW x (xandL (xushL x 1) 6148914691236517205)) 3689348814741910323) + (xandL (xushL (xsubW x (xandL (xushL x 1) 6148914691236517205)) 2) 3689348814741910323)) 4)) 1085102592571150095) 8)) 16)) + (xushL (((xandL (((xandL (xsubW x (xandL (xushL x 1) 6148914691236517205)) 3689348814741910323) + (xandL (xushL (xsubW x (xandL (xushL x 1) 6148914691236517205)) 2) 3689348814741910323)) + (xushL ((xandL (xsubW x (xandL (xushL x 1) 6148914691236517205)) 3689348814741910323) + (xandL (xushL (xsubW x (xandL (xushL x 1) 6148914691236517205)) 2) 3689348814741910323)) 4)) 1085102592571150095) + (xushL (xandL (((xandL (xsubW x (xandL (xushL x 1) 6148914691236517205)) 3689348814741910323) + (xandL (xushL (xsubW x (xandL (xushL x 1) 6148914691236517205)) 2) 3689348814741910323)) + (xushL ((xandL (xsubW x (xandL (xushL x 1) 6148914691236517205)) 3689348814741910323) + (xandL (xushL (xsubW x (xandL (xushL x 1) 6148914691236517205)) 2) 3689348814741910323)) 4)) 1085102592571150095) 8)) + (xushL ((xandL (((xandL (xsubW x (xandL (xushL x 1) 6148914691236517205)) 3689348814741910323) + (xandL (xushL (xsubW x (xandL (xushL x 1) 6148914691236517205)) 2) 3689348814741910323)) + (xushL ((xandL (xsubW x (xandL (xushL x 1) 6148914691236517205)) 3689348814741910323) + (xandL (xushL (xsubW x (xandL (xushL x 1) 6148914691236517205)) 2) 3689348814741910323)) 4)) 1085102592571150095) + (xushL (xandL (((xandL (xsubW x (xandL (xushL x 1) 6148914691236517205)) 3689348814741910323) + (xandL (xushL (xsubW x (xandL (xushL x 1) 6148914691236517205)) 2) 3689348814741910323)) + (xushL ((xandL (xsubW x (xandL (xushL x 1) 6148914691236517205)) 3689348814741910323) + (xandL (xushL (xsubW x (xandL (xushL x 1) 6148914691236517205)) 2) 3689348814741910323)) 4)) 1085102592571150095) 8)) 16)) 32))) 127) H) : xc X (d + 1) 70 [(1, x)] H Q := by
  refine ⟨rfl, ?_⟩
  show xq X d 70 Q 100000 [(0, (1, x))] [] H
  refine xq_run [] 300 ?_
  show (xJ ((xandL (xsubW x (xandL (xushL x 1) 6148914691236517205)) 3689348814741910323) + (xandL (xushL (xsubW x (xandL (xushL x 1) 6148914691236517205)) 2) 3689348814741910323))) ∧ (xJ (((xandL (xsubW x (xandL (xushL x 1) 6148914691236517205)) 3689348814741910323) + (xandL (xushL (xsubW x (xandL (xushL x 1) 6148914691236517205)) 2) 3689348814741910323)) + (xushL ((xandL (xsubW x (xandL (xushL x 1) 6148914691236517205)) 3689348814741910323) + (xandL (xushL (xsubW x (xandL (xushL x 1) 6148914691236517205)) 2) 3689348814741910323)) 4))) ∧ (xJ ((xandL (((xandL (xsubW x (xandL (xushL x 1) 6148914691236517205)) 3689348814741910323) + (xandL (xushL (xsubW x (xandL (xushL x 1) 6148914691236517205)) 2) 3689348814741910323)) + (xushL ((xandL (xsubW x (xandL (xushL x 1) 6148914691236517205)) 3689348814741910323) + (xandL (xushL (xsubW x (xandL (xushL x 1) 6148914691236517205)) 2) 3689348814741910323)) 4)) 1085102592571150095) + (xushL (xandL (((xandL (xsubW x (xandL (xushL x 1) 6148914691236517205)) 3689348814741910323) + (xandL (xushL (xsubW x (xandL (xushL x 1) 6148914691236517205)) 2) 3689348814741910323)) + (xushL ((xandL (xsubW x (xandL (xushL x 1) 6148914691236517205)) 3689348814741910323) + (xandL (xushL (xsubW x (xandL (xushL x 1) 6148914691236517205)) 2) 3689348814741910323)) 4)) 1085102592571150095) 8))) ∧ (xJ (((xandL (((xandL (xsubW x (xandL (xushL x 1) 6148914691236517205)) 3689348814741910323) + (xandL (xushL (xsubW x (xandL (xushL x 1) 6148914691236517205)) 2) 3689348814741910323)) + (xushL ((xandL (xsubW x (xandL (xushL x 1) 6148914691236517205)) 3689348814741910323) + (xandL (xushL (xsubW x (xandL (xushL x 1) 6148914691236517205)) 2) 3689348814741910323)) 4)) 1085102592571150095) + (xushL (xandL (((xandL (xsubW x (xandL (xushL x 1) 6148914691236517205)) 3689348814741910323) + (xandL (xushL (xsubW x (xandL (xushL x 1) 6148914691236517205)) 2) 3689348814741910323)) + (xushL ((xandL (xsubW x (xandL (xushL x 1) 6148914691236517205)) 3689348814741910323) + (xandL (xushL (xsubW x (xandL (xushL x 1) 6148914691236517205)) 2) 3689348814741910323)) 4)) 1085102592571150095) 8)) + (xushL ((xandL (((xandL (xsubW x (xandL (xushL x 1) 6148914691236517205)) 3689348814741910323) + (xandL (xushL (xsubW x (xandL (xushL x 1) 6148914691236517205)) 2) 3689348814741910323)) + (xushL ((xandL (xsubW x (xandL (xushL x 1) 6148914691236517205)) 3689348814741910323) + (xandL (xushL (xsubW x (xandL (xushL x 1) 6148914691236517205)) 2) 3689348814741910323)) 4)) 1085102592571150095) + (xushL (xandL (((xandL (xsubW x (xandL (xushL x 1) 6148914691236517205)) 3689348814741910323) + (xandL (xushL (xsubW x (xandL (xushL x 1) 6148914691236517205)) 2) 3689348814741910323)) + (xushL ((xandL (xsubW x (xandL (xushL x 1) 6148914691236517205)) 3689348814741910323) + (xandL (xushL (xsubW x (xandL (xushL x 1) 6148914691236517205)) 2) 3689348814741910323)) 4)) 1085102592571150095) 8)) 16))) ∧ (xJ ((((xandL (((xandL (xsubW x (xandL (xushL x 1) 6148914691236517205)) 3689348814741910323) + (xandL (xushL (xsubW x (xandL (xushL x 1) 6148914691236517205)) 2) 3689348814741910323)) + (xushL ((xandL (xsubW x (xandL (xushL x 1) 6148914691236517205)) 3689348814741910323) + (xandL (xushL (xsubW x (xandL (xushL x 1) 6148914691236517205)) 2) 3689348814741910323)) 4)) 1085102592571150095) + (xushL (xandL (((xandL (xsubW x (xandL (xushL x 1) 6148914691236517205)) 3689348814741910323) + (xandL (xushL (xsubW x (xandL (xushL x 1) 6148914691236517205)) 2) 3689348814741910323)) + (xushL ((xandL (xsubW x (xandL (xushL x 1) 6148914691236517205)) 3689348814741910323) + (xandL (xushL (xsubW x (xandL (xushL x 1) 6148914691236517205)) 2) 3689348814741910323)) 4)) 1085102592571150095) 8)) + (xushL ((xandL (((xandL (xsubW x (xandL (xushL x 1) 6148914691236517205)) 3689348814741910323) + (xandL (xushL (xsubW x (xandL (xushL x 1) 6148914691236517205)) 2) 3689348814741910323)) + (xushL ((xandL (xsubW x (xandL (xushL x 1) 6148914691236517205)) 3689348814741910323) + (xandL (xushL (xsubW x (xandL (xushL x 1) 6148914691236517205)) 2) 3689348814741910323)) 4)) 1085102592571150095) + (xushL (xandL (((xandL (xsubW x (xandL (xushL x 1) 6148914691236517205)) 3689348814741910323) + (xandL (xushL (xsubW x (xandL (xushL x 1) 6148914691236517205)) 2) 3689348814741910323)) + (xushL ((xandL (xsubW x (xandL (xushL x 1) 6148914691236517205)) 3689348814741910323) + (xandL (xushL (xsubW x (xandL (xushL x 1) 6148914691236517205)) 2) 3689348814741910323)) 4)) 1085102592571150095) 8)) 16)) + (xushL (((xandL (((xandL (xsubW x (xandL (xushL x 1) 6148914691236517205)) 3689348814741910323) + (xandL (xushL (xsubW x (xandL (xushL x 1) 6148914691236517205)) 2) 3689348814741910323)) + (xushL ((xandL (xsubW x (xandL (xushL x 1) 6148914691236517205)) 3689348814741910323) + (xandL (xushL (xsubW x (xandL (xushL x 1) 6148914691236517205)) 2) 3689348814741910323)) 4)) 1085102592571150095) + (xushL (xandL (((xandL (xsubW x (xandL (xushL x 1) 6148914691236517205)) 3689348814741910323) + (xandL (xushL (xsubW x (xandL (xushL x 1) 6148914691236517205)) 2) 3689348814741910323)) + (xushL ((xandL (xsubW x (xandL (xushL x 1) 6148914691236517205)) 3689348814741910323) + (xandL (xushL (xsubW x (xandL (xushL x 1) 6148914691236517205)) 2) 3689348814741910323)) 4)) 1085102592571150095) 8)) + (xushL ((xandL (((xandL (xsubW x (xandL (xushL x 1) 6148914691236517205)) 3689348814741910323) + (xandL (xushL (xsubW x (xandL (xushL x 1) 6148914691236517205)) 2) 3689348814741910323)) + (xushL ((xandL (xsubW x (xandL (xushL x 1) 6148914691236517205)) 3689348814741910323) + (xandL (xushL (xsubW x (xandL (xushL x 1) 6148914691236517205)) 2) 3689348814741910323)) 4)) 1085102592571150095) + (xushL (xandL (((xandL (xsubW x (xandL (xushL x 1) 6148914691236517205)) 3689348814741910323) + (xandL (xushL (xsubW x (xandL (xushL x 1) 6148914691236517205)) 2) 3689348814741910323)) + (xushL ((xandL (xsubW x (xandL (xushL x 1) 6148914691236517205)) 3689348814741910323) + (xandL (xushL (xsubW x (xandL (xushL x 1) 6148914691236517205)) 2) 3689348814741910323)) 4)) 1085102592571150095) 8)) 16)) 32))) ∧ xfR 0 (xand (xl2i ((((xandL (((xandL (xsubW x (xandL (xushL x 1) 6148914691236517205)) 3689348814741910323) + (xandL (xushL (xsubW x (xandL (xushL x 1) 6148914691236517205)) 2) 3689348814741910323)) + (xushL ((xandL (xsubW x (xandL (xushL x 1) 6148914691236517205)) 3689348814741910323) + (xandL (xushL (xsubW x (xandL (xushL x 1) 6148914691236517205)) 2) 3689348814741910323)) 4)) 1085102592571150095) + (xushL (xandL (((xandL (xsubW x (xandL (xushL x 1) 6148914691236517205)) 3689348814741910323) + (xandL (xushL (xsubW x (xandL (xushL x 1) 6148914691236517205)) 2) 3689348814741910323)) + (xushL ((xandL (xsubW x (xandL (xushL x 1) 6148914691236517205)) 3689348814741910323) + (xandL (xushL (xsubW x (xandL (xushL x 1) 6148914691236517205)) 2) 3689348814741910323)) 4)) 1085102592571150095) 8)) + (xushL ((xandL (((xandL (xsubW x (xandL (xushL x 1) 6148914691236517205)) 3689348814741910323) + (xandL (xushL (xsubW x (xandL (xushL x 1) 6148914691236517205)) 2) 3689348814741910323)) + (xushL ((xandL (xsubW x (xandL (xushL x 1) 6148914691236517205)) 3689348814741910323) + (xandL (xushL (xsubW x (xandL (xushL x 1) 6148914691236517205)) 2) 3689348814741910323)) 4)) 1085102592571150095) + (xushL (xandL (((xandL (xsubW x (xandL (xushL x 1) 6148914691236517205)) 3689348814741910323) + (xandL (xushL (xsubW x (xandL (xushL x 1) 6148914691236517205)) 2) 3689348814741910323)) + (xushL ((xandL (xsubW x (xandL (xushL x 1) 6148914691236517205)) 3689348814741910323) + (xandL (xushL (xsubW x (xandL (xushL x 1) 6148914691236517205)) 2) 3689348814741910323)) 4)) 1085102592571150095) 8)) 16)) + (xushL (((xandL (((xandL (xsubW x (xandL (xushL x 1) 6148914691236517205)) 3689348814741910323) + (xandL (xushL (xsubW x (xandL (xushL x 1) 6148914691236517205)) 2) 3689348814741910323)) + (xushL ((xandL (xsubW x (xandL (xushL x 1) 6148914691236517205)) 3689348814741910323) + (xandL (xushL (xsubW x (xandL (xushL x 1) 6148914691236517205)) 2) 3689348814741910323)) 4)) 1085102592571150095) + (xushL (xandL (((xandL (xsubW x (xandL (xushL x 1) 6148914691236517205)) 3689348814741910323) + (xandL (xushL (xsubW x (xandL (xushL x 1) 6148914691236517205)) 2) 3689348814741910323)) + (xushL ((xandL (xsubW x (xandL (xushL x 1) 6148914691236517205)) 3689348814741910323) + (xandL (xushL (xsubW x (xandL (xushL x 1) 6148914691236517205)) 2) 3689348814741910323)) 4)) 1085102592571150095) 8)) + (xushL ((xandL (((xandL (xsubW x (xandL (xushL x 1) 6148914691236517205)) 3689348814741910323) + (xandL (xushL (xsubW x (xandL (xushL x 1) 6148914691236517205)) 2) 3689348814741910323)) + (xushL ((xandL (xsubW x (xandL (xushL x 1) 6148914691236517205)) 3689348814741910323) + (xandL (xushL (xsubW x (xandL (xushL x 1) 6148914691236517205)) 2) 3689348814741910323)) 4)) 1085102592571150095) + (xushL (xandL (((xandL (xsubW x (xandL (xushL x 1) 6148914691236517205)) 3689348814741910323) + (xandL (xushL (xsubW x (xandL (xushL x 1) 6148914691236517205)) 2) 3689348814741910323)) + (xushL ((xandL (xsubW x (xandL (xushL x 1) 6148914691236517205)) 3689348814741910323) + (xandL (xushL (xsubW x (xandL (xushL x 1) 6148914691236517205)) 2) 3689348814741910323)) 4)) 1085102592571150095) 8)) 16)) 32))) 127) ∧ xKZ = xKZ ∧ Q (xand (xl2i ((((xandL (((xandL (xsubW x (xandL (xushL x 1) 6148914691236517205)) 3689348814741910323) + (xandL (xushL (xsubW x (xandL (xushL x 1) 6148914691236517205)) 2) 3689348814741910323)) + (xushL ((xandL (xsubW x (xandL (xushL x 1) 6148914691236517205)) 3689348814741910323) + (xandL (xushL (xsubW x (xandL (xushL x 1) 6148914691236517205)) 2) 3689348814741910323)) 4)) 1085102592571150095) + (xushL (xandL (((xandL (xsubW x (xandL (xushL x 1) 6148914691236517205)) 3689348814741910323) + (xandL (xushL (xsubW x (xandL (xushL x 1) 6148914691236517205)) 2) 3689348814741910323)) + (xushL ((xandL (xsubW x (xandL (xushL x 1) 6148914691236517205)) 3689348814741910323) + (xandL (xushL (xsubW x (xandL (xushL x 1) 6148914691236517205)) 2) 3689348814741910323)) 4)) 1085102592571150095) 8)) + (xushL ((xandL (((xandL (xsubW x (xandL (xushL x 1) 6148914691236517205)) 3689348814741910323) + (xandL (xushL (xsubW x (xandL (xushL x 1) 6148914691236517205)) 2) 3689348814741910323)) + (xushL ((xandL (xsubW x (xandL (xushL x 1) 6148914691236517205)) 3689348814741910323) + (xandL (xushL (xsubW x (xandL (xushL x 1) 6148914691236517205)) 2) 3689348814741910323)) 4)) 1085102592571150095) + (xushL (xandL (((xandL (xsubW x (xandL (xushL x 1) 6148914691236517205)) 3689348814741910323) + (xandL (xushL (xsubW x (xandL (xushL x 1) 6148914691236517205)) 2) 3689348814741910323)) + (xushL ((xandL (xsubW x (xandL (xushL x 1) 6148914691236517205)) 3689348814741910323) + (xandL (xushL (xsubW x (xandL (xushL x 1) 6148914691236517205)) 2) 3689348814741910323)) 4)) 1085102592571150095) 8)) 16)) + (xushL (((xandL (((xandL (xsubW x (xandL (xushL x 1) 6148914691236517205)) 3689348814741910323) + (xandL (xushL (xsubW x (xandL (xushL x 1) 6148914691236517205)) 2) 3689348814741910323)) + (xushL ((xandL (xsubW x (xandL (xushL x 1) 6148914691236517205)) 3689348814741910323) + (xandL (xushL (xsubW x (xandL (xushL x 1) 6148914691236517205)) 2) 3689348814741910323)) 4)) 1085102592571150095) + (xushL (xandL (((xandL (xsubW x (xandL (xushL x 1) 6148914691236517205)) 3689348814741910323) + (xandL (xushL (xsubW x (xandL (xushL x 1) 6148914691236517205)) 2) 3689348814741910323)) + (xushL ((xandL (xsubW x (xandL (xushL x 1) 6148914691236517205)) 3689348814741910323) + (xandL (xushL (xsubW x (xandL (xushL x 1) 6148914691236517205)) 2) 3689348814741910323)) 4)) 1085102592571150095) 8)) + (xushL ((xandL (((xandL (xsubW x (xandL (xushL x 1) 6148914691236517205)) 3689348814741910323) + (xandL (xushL (xsubW x (xandL (xushL x 1) 6148914691236517205)) 2) 3689348814741910323)) + (xushL ((xandL (xsubW x (xandL (xushL x 1) 6148914691236517205)) 3689348814741910323) + (xandL (xushL (xsubW x (xandL (xushL x 1) 6148914691236517205)) 2) 3689348814741910323)) 4)) 1085102592571150095) + (xushL (xandL (((xandL (xsubW x (xandL (xushL x 1) 6148914691236517205)) 3689348814741910323) + (xandL (xushL (xsubW x (xandL (xushL x 1) 6148914691236517205)) 2) 3689348814741910323)) + (xushL ((xandL (xsubW x (xandL (xushL x 1) 6148914691236517205)) 3689348814741910323) + (xandL (xushL (xsubW x (xandL (xushL x 1) 6148914691236517205)) 2) 3689348814741910323)) 4)) 1085102592571150095) 8)) 16)) 32))) 127) H
  refine ⟨h.1, ?_⟩
  replace h := h.2
  refine ⟨h.1, ?_⟩
  replace h := h.2
  refine ⟨h.1, ?_⟩
  replace h := h.2
  refine ⟨h.1, ?_⟩
  replace h := h.2
  refine ⟨h.1, ?_⟩
  replace h := h.2
  exact ⟨trivial, rfl, h⟩

theorem s_70 {X : Int × (Int → Int)} {d : Nat} {Q : Int → XH → Prop} (hd : 1 ≤ d) (m : Nat) (H : XH) (hm : m < 18446744073709551616) (hQ : Q (popB 64 m : Nat) H) : xc X d 70 [(1, xJn m)] H Q := by
  cases d with
  | zero => omega
  | succ d =>
  have e1 : xsubW (xJn m) (xandL (xushL (xJn m) 1) 6148914691236517205) = xJn (BB φ1 8 m) := by
    have k := pop_s1 m hm
    rw [xJn_ush' (k := 1) (c := 1) rfl hm (by decide), show (6148914691236517205 : Int) = xJn 6148914691236517205 from rfl, xJn_and, xJn_sub k.1, k.2]
  have l1 : BB φ1 8 m < 18446744073709551616 := BB_lt (fun b hb => (φ_ok b hb).1.2) 8 m
  have s2 := pop_s2 m
  have a1 : BB φ1 8 m &&& 3689348814741910323 ≤ 3689348814741910323 := Nat.and_le_right
  have a2 : (BB φ1 8 m >>> 2) &&& 3689348814741910323 ≤ 3689348814741910323 := Nat.and_le_right
  have e2 : xandL (xJn (BB φ1 8 m)) 3689348814741910323 = ((BB φ1 8 m &&& 3689348814741910323 : Nat) : Int) := by
    rw [show (3689348814741910323 : Int) = xJn 3689348814741910323 from rfl, xJn_and, xJn_id (by omega)]
  have e3 : xandL (xushL (xJn (BB φ1 8 m)) 2) 3689348814741910323 = (((BB φ1 8 m >>> 2) &&& 3689348814741910323 : Nat) : Int) := by
    rw [xJn_ush' (k := 2) (c := 2) rfl l1 (by decide), show (3689348814741910323 : Int) = xJn 3689348814741910323 from rfl, xJn_and, xJn_id (by omega)]
  have e23 : xandL (xJn (BB φ1 8 m)) 3689348814741910323 + xandL (xushL (xJn (BB φ1 8 m)) 2) 3689348814741910323 = ((BB φ2 8 m : Nat) : Int) := by
    rw [e2, e3, ← s2]
    rfl
  have l2 : BB φ2 8 m ≤ 7378697629483820646 := by omega
  have l3 : BB φ2 8 m >>> 4 ≤ 461168601842738790 := by
    rw [Nat.shiftRight_eq_div_pow]
    omega
  have e4 : xushL ((BB φ2 8 m : Nat) : Int) 4 = ((BB φ2 8 m >>> 4 : Nat) : Int) := by
    rw [← xJn_id (m := BB φ2 8 m) (by omega), xJn_ush' (k := 4) (c := 4) rfl (by omega) (by decide), xJn_id (by omega)]
  obtain ⟨p0, p1, p2, p3, p4, p5, p6, p7, hp, hB, hP⟩ := pop_end m
  have e5 : xandL (((BB φ2 8 m : Nat) : Int) + ((BB φ2 8 m >>> 4 : Nat) : Int)) 1085102592571150095 = ((BB (popB 8) 8 m : Nat) : Int) := by
    rw [← Int.natCast_add, ← xJn_id (m := BB φ2 8 m + BB φ2 8 m >>> 4) (by omega), show (1085102592571150095 : Int) = xJn 1085102592571150095 from rfl, xJn_and, pop_s3, xJn_id (by rw [hB]; omega)]
  generalize hN : BB (popB 8) 8 m = N at *
  have lN : N ≤ 578721382704613384 := by omega
  have u8 : xushL ((N : Nat) : Int) 8 = ((N / 256 : Nat) : Int) := by
    rw [← xJn_id (m := N) (by omega), xJn_ush' (k := 8) (c := 8) rfl (by omega) (by decide), Nat.shiftRight_eq_div_pow, xJn_id (by omega)]
  have u16 : xushL (((N + N / 256 : Nat) : Nat) : Int) 16 = (((N + N / 256) / 65536 : Nat) : Int) := by
    rw [← xJn_id (m := N + N / 256) (by omega), xJn_ush' (k := 16) (c := 16) rfl (by omega) (by decide), Nat.shiftRight_eq_div_pow, xJn_id (by omega)]
  have u32 : xushL (((N + N / 256 + (N + N / 256) / 65536 : Nat) : Nat) : Int) 32 = (((N + N / 256 + (N + N / 256) / 65536) / 4294967296 : Nat) : Int) := by
    rw [← xJn_id (m := N + N / 256 + (N + N / 256) / 65536) (by omega), xJn_ush' (k := 32) (c := 32) rfl (by omega) (by decide), Nat.shiftRight_eq_div_pow, xJn_id (by omega)]
  refine U_70 (by omega) (xJn m) H ?_
  rw [e1, e23, e4, e5, u8, ← Int.natCast_add N (N / 256), u16, ← Int.natCast_add (N + N / 256) ((N + N / 256) / 65536), u32, ← Int.natCast_add (N + N / 256 + (N + N / 256) / 65536) ((N + N / 256 + (N + N / 256) / 65536) / 4294967296), xl2i_127]
  refine ⟨by unfold xJ; omega, by unfold xJ; omega, by unfold xJ; omega, by unfold xJ; omega, by unfold xJ; omega, xQr hQ ?_⟩
  rw [hP, pop_fin p0 p1 p2 p3 p4 p5 p6 p7 N hp hB]
