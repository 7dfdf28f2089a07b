/-! THE PURE LAYER 14: dig -/
def putM (H : XH) (c a b e f g : Int) : XH := (xup (xup (xup (xup (xup (xup (xup H 68 0 (H 68 0 + (1 - H 68 (160 + c)))) 68 (160 + c) 1) 68 (230 + 5 * c) a) 68 (230 + 5 * c + 1) b) 68 (230 + 5 * c + 2) e) 68 (230 + 5 * c + 3) f) 68 (230 + 5 * c + 4) g)
theorem putM_0 (H : XH) (c a b e f g : Int) (hc : 0 ≤ c) : putM H c a b e f g 68 0 = H 68 0 + (1 - H 68 (160 + c)) := by
  unfold putM
  rw [xup_k (by omega), xup_k (by omega), xup_k (by omega), xup_k (by omega), xup_k (by omega), xup_k (by omega), xup_self]
theorem putM_no (H : XH) (c a b e f g : Int) (k : Int) (h0 : ¬ k = 0) (h1 : ¬ k = 160 + c) (h2 : ¬ (230 + 5 * c ≤ k ∧ k ≤ 234 + 5 * c)) : putM H c a b e f g 68 k = H 68 k := by
  unfold putM
  rw [xup_k (by omega), xup_k (by omega), xup_k (by omega), xup_k (by omega), xup_k (by omega), xup_k (by omega), xup_k (by omega)]
theorem putM_dg (H : XH) (c a b e f g : Int) (x : Int) (hc : 0 ≤ c ∧ c < 64) (hx : 0 ≤ x ∧ x < 64) : putM H c a b e f g 68 (160 + x) = if x = c then 1 else H 68 (160 + x) := by
  unfold putM
  rw [xup_k (by omega), xup_k (by omega), xup_k (by omega), xup_k (by omega), xup_k (by omega), xup_eq]
  by_cases h : x = c
  · rw [if_pos h, if_pos (by omega)]
  · rw [if_neg h, if_neg (by omega), xup_k (by omega)]
/-- the five amounts -/
def am5 (a b e f g s : Int) : Int := if s = 0 then a else if s = 1 then b else if s = 2 then e else if s = 3 then f else g
theorem putM_am (H : XH) (c a b e f g : Int) (k : Int) (hc : 0 ≤ c ∧ c < 64) (hk : 0 ≤ k ∧ k < 320) : putM H c a b e f g 68 (230 + k) = if 5 * c ≤ k ∧ k < 5 * c + 5 then am5 a b e f g (k - 5 * c) else H 68 (230 + k) := by
  by_cases h : 5 * c ≤ k ∧ k < 5 * c + 5
  · rw [if_pos h]
    unfold putM am5
    have h5 : k = 5 * c ∨ k = 5 * c + 1 ∨ k = 5 * c + 2 ∨ k = 5 * c + 3 ∨ k = 5 * c + 4 := by omega
    rcases h5 with q | q | q | q | q <;> subst q <;> simp (disch := omega) only [xup_eq, if_pos, if_neg, if_true]
  · rw [if_neg h]
    exact putM_no H c a b e f g _ (by omega) (by omega) (by omega)

theorem am5_rng {a b e f g s : Int} (ha : 0 ≤ a ∧ a ≤ 9) (hb : 0 ≤ b ∧ b ≤ 9) (he : 0 ≤ e ∧ e ≤ 9) (hf : 0 ≤ f ∧ f ≤ 9) (hg : 0 ≤ g ∧ g ≤ 9) : 0 ≤ am5 a b e f g s ∧ am5 a b e f g s ≤ 9 := by
  unfold am5
  split
  · exact ha
  · split
    · exact hb
    · split
      · exact he
      · split
        · exact hf
        · exact hg
theorem putD_7 (H : XH) (c a b e f g : Int) : putD H c a b e f g 2 7 = if ¬ H 4 c = 0 then H 2 7 else H 2 7 + 1 := by
  show (if ¬ H 4 c = 0 then H else xup H 2 7 (H 2 7 + 1)) 2 7 = _
  split <;> rfl
theorem putD_4 (H : XH) (c a b e f g x : Int) : putD H c a b e f g 4 x = if x = c then 1 else H 4 x := by
  show xup (if ¬ H 4 c = 0 then H else xup H 2 7 (H 2 7 + 1)) 4 c 1 4 x = _
  rw [xup_eq]
  split
  · rfl
  · split <;> rfl
theorem putD_3 (H : XH) (c a b e f g k : Int) : putD H c a b e f g 3 k = if 5 * c ≤ k ∧ k < 5 * c + 5 then am5 a b e f g (k - 5 * c) else H 3 k := by
  by_cases h : 5 * c ≤ k ∧ k < 5 * c + 5
  · rw [if_pos h]
    unfold putD am5
    have h5 : k = 5 * c ∨ k = 5 * c + 1 ∨ k = 5 * c + 2 ∨ k = 5 * c + 3 ∨ k = 5 * c + 4 := by omega
    rcases h5 with q | q | q | q | q <;> subst q <;> simp (disch := omega) only [xup_eq, if_pos, if_neg, if_true]
  · rw [if_neg h]
    unfold putD
    rw [xup_k (by omega), xup_k (by omega), xup_k (by omega), xup_k (by omega), xup_k (by omega), xup_o (by omega)]
    split
    · rfl
    · rfl
theorem putD_o (H : XH) (c a b e f g o : Int) (h : ¬ o = 2 ∧ ¬ o = 3 ∧ ¬ o = 4) : putD H c a b e f g o = H o := by
  unfold putD
  rw [xup_ne (by omega), xup_ne (by omega), xup_ne (by omega), xup_ne (by omega), xup_ne (by omega), xup_ne (by omega)]
  split
  · rfl
  · exact xup_ne (by omega)
theorem putD_2 (H : XH) (c a b e f g k : Int) (h : ¬ k = 7) : putD H c a b e f g 2 k = H 2 k := by
  show (if ¬ H 4 c = 0 then H else xup H 2 7 (H 2 7 + 1)) 2 k = _
  split
  · rfl
  · exact xup_k h
