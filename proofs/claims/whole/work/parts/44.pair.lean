/-! THE PURE LAYER 14: dig -/
def putM (H : XH) (c a b e f g : Int) : XH := (xup (xup (xup (xup (xup (xup (xup H 68 0 (H 68 0 + (1 - H 68 (160 + c)))) 68 (160 + c) 1) 68 (230 + 5 * c) a) 68 (230 + 5 * c + 1) b) 68 (230 + 5 * c + 2) e) 68 (230 + 5 * c + 3) f) 68 (230 + 5 * c + 4) g)
theorem putM_0 (H : XH) (c a b e f g : Int) (hc : 0 ≤ c) : putM H c a b e f g 68 0 = H 68 0 + (1 - H 68 (160 + c)) := by
  unfold putM
  rw [xup_k (by omega), xup_k (by omega), xup_k (by omega), xup_k (by omega), xup_k (by omega), xup_k (by omega), xup_self]
theorem putM_no (H : XH) (c a b e f g : Int) (k : Int) (h0 : ¬ k = 0) (h1 : ¬ k = 160 + c) (h2 : ¬ (230 + 5 * c ≤ k ∧ k ≤ 234 + 5 * c)) : putM H c a b e f g 68 k = H 68 k := by
  unfold putM
  rw [xup_k (by omega), xup_k (by omega), xup_k (by omega), xup_k (by omega), xup_k (by omega), xup_k (by omega), xup_k (by omega)]
theorem putM_dg (H : XH) (c a b e f g : Int) (x : Int) (hc : 0 ≤ c ∧ c < 64) (hx : 0 ≤ x ∧ x < 64) : putM H c a b e f g 68 (160 + x) = if x = c then 1 else H 68 (160 + x) := by
  unfold putM
  rw [xup_k (by omega), xup_k (by omega), xup_k (by omega), xup_k (by omega), xup_k (by omega), xup_eq]
  by_cases h : x = c
  · rw [if_pos h, if_pos (by omega)]
  · rw [if_neg h, if_neg (by omega), xup_k (by omega)]
/-- the five amounts -/
def am5 (a b e f g s : Int) : Int := if s = 0 then a else if s = 1 then b else if s = 2 then e else if s = 3 then f else g
theorem putM_am (H : XH) (c a b e f g : Int) (k : Int) (hc : 0 ≤ c ∧ c < 64) (hk : 0 ≤ k ∧ k < 320) : putM H c a b e f g 68 (230 + k) = if 5 * c ≤ k ∧ k < 5 * c + 5 then am5 a b e f g (k - 5 * c) else H 68 (230 + k) := by
  by_cases h : 5 * c ≤ k ∧ k < 5 * c + 5
  · rw [if_pos h]
    unfold putM am5
    have h5 : k = 5 * c ∨ k = 5 * c + 1 ∨ k = 5 * c + 2 ∨ k = 5 * c + 3 ∨ k = 5 * c + 4 := by omega
    rcases h5 with q | q | q | q | q <;> subst q <;> simp (disch := omega) only [xup_eq, if_pos, if_neg, if_true]
  · rw [if_neg h]
    exact putM_no H c a b e f g _ (by omega) (by omega) (by omega)
