/-! THE PURE LAYER 2: loops as folds; what the land says -/
def xfold {σ : Type} (f : Int → σ → σ) : Nat → Int → σ → σ
  | 0, _, s => s
  | k + 1, i, s => xfold f k (i + 1) (f i s)
def xfor {σ : Type} (f : Int → σ → σ) (i b : Int) (s : σ) : σ := xfold f (b - i).toNat i s
theorem xfor_end {σ : Type} {f : Int → σ → σ} {i b : Int} {s : σ} (h : b ≤ i) : xfor f i b s = s := by
  unfold xfor
  rw [show (b - i).toNat = 0 by omega]
  rfl
theorem xfor_step {σ : Type} {f : Int → σ → σ} {i b : Int} {s : σ} (h : i < b) : xfor f i b s = xfor f (i + 1) b (f i s) := by
  unfold xfor
  rw [show (b - i).toNat = (b - (i + 1)).toNat + 1 by omega]
  rfl
theorem xloop {σ : Type} (f : Int → σ → σ) (b : Int) (P : Int → σ → Prop) (he : ∀ i s, b ≤ i → P i s) (hs : ∀ i s, i < b → P (i + 1) (f i s) → P i s) (i : Int) (s : σ) : P i s := by
  generalize hk : (b - i).toNat = k
  induction k generalizing i s with
  | zero => exact he i s (by omega)
  | succ k ih => exact hs i s (by omega) (ih (i + 1) (f i s) (by omega))
theorem xfor_congr {σ : Type} {f g : Int → σ → σ} {b : Int} {i : Int} (h : ∀ j s, i ≤ j → j < b → f j s = g j s) (s : σ) : xfor f i b s = xfor g i b s := by
  refine xloop g b (fun i' s => i ≤ i' → xfor f i' b s = xfor g i' b s) (fun i' s hb _ => by rw [xfor_end hb, xfor_end hb]) (fun i' s hb ih hi => ?_) i s (Int.le_refl _)
  rw [xfor_step hb, xfor_step hb, h i' s hi hb]
  exact ih (by omega)
/-- what holds ahead of a fold and at each of its steps holds behind it -/
theorem xfor_inv {σ : Type} {f : Int → σ → σ} {b : Int} {R : Int → σ → Prop} (h : ∀ j s, j < b → R j s → R (j + 1) (f j s)) (i : Int) (s : σ) (hib : i ≤ b) (h0 : R i s) : R b (xfor f i b s) := by
  refine xloop f b (fun i s => i ≤ b → R i s → R b (xfor f i b s)) (fun i s hb hle hr => ?_) (fun i s hb ih hle hr => ?_) i s hib h0
  · rw [xfor_end hb, show b = i by omega]; exact hr
  · rw [xfor_step hb]; exact ih (by omega) (h i s hb hr)
theorem iabs_neg (x : Int) : iabs (-x) = iabs x := by unfold iabs; split <;> split <;> omega
/-- how far two cells are: in x and in y together -/
def btw (w c e : Int) : Int := iabs (c.tmod w - e.tmod w) + iabs (c.tdiv w - e.tdiv w)
theorem btw_comm (w c e : Int) : btw w c e = btw w e c := by
  unfold btw
  rw [← iabs_neg (c.tmod w - e.tmod w), ← iabs_neg (c.tdiv w - e.tdiv w)]
  congr 2 <;> omega
theorem xdm {c w : Int} (hc : 0 ≤ c) (hw : 1 ≤ w) : 0 ≤ c.tmod w ∧ c.tmod w < w ∧ 0 ≤ c.tdiv w ∧ c.tdiv w ≤ c := by
  rw [Int.tmod_eq_emod_of_nonneg hc, Int.tdiv_eq_ediv_of_nonneg hc]
  refine ⟨Int.emod_nonneg _ (by omega), Int.emod_lt_of_pos _ (by omega), Int.ediv_nonneg hc (by omega), ?_⟩
  exact Int.ediv_le_self w hc
theorem btw_rng {w c e : Int} (hw : 1 ≤ w ∧ w ≤ 8) (hc : 0 ≤ c ∧ c < 64) (he : 0 ≤ e ∧ e < 64) : 0 ≤ btw w c e ∧ btw w c e ≤ 71 := by
  have h1 := xdm hc.1 hw.1
  have h2 := xdm he.1 hw.1
  unfold btw iabs
  split <;> split <;> omega
/-- the step of the search for the nearest -/
def nrF (w : Int) (dg : Int → Int) (c : Int) (o m : Int) : Int := if dg o = 0 then m else if m = -1 ∨ btw w c o < m then btw w c o else m
/-- how far the nearest dug cell is; -1 if none is dug -/
def nrS (w n : Int) (dg : Int → Int) (c : Int) : Int := xfor (nrF w dg c) 0 n (-1)
def sum5 (f : Int → Int) (t : Int) : Int := f t + f (t + 1) + f (t + 2) + f (t + 3) + f (t + 4)
theorem sum5_for (f : Int → Int) (t : Int) : xfor (fun s acc => acc + f (t + s)) 0 5 0 = sum5 f t := by
  rw [xfor_step (by omega), xfor_step (by omega), xfor_step (by omega), xfor_step (by omega), xfor_step (by omega), xfor_end (by omega)]
  unfold sum5
  simp only [Int.zero_add, Int.add_zero]
  rfl
/-- where a cell's soil comes from: what was carried is followed, k steps at most, to a dug cell or one that was not carried -/
def srcS (n : Int) (dg og : Int → Int) : Nat → Int → Int
  | 0, c => c
  | k + 1, c => if dg c = 0 then (if 0 ≤ og c ∧ og c < n then srcS n dg og k (og c) else c) else c
theorem srcS_rng {n : Int} {dg og : Int → Int} : ∀ (k : Nat) (c : Int), 0 ≤ c ∧ c < n → 0 ≤ srcS n dg og k c ∧ srcS n dg og k c < n
  | 0, _, h => h
  | k + 1, c, h => by
    unfold srcS
    split
    · split
      · next q => exact srcS_rng k _ q
      · exact h
    · exact h
/-- the way of what was carried comes to an end in k steps -/
def srcE (dg og : Int → Int) : Nat → Int → Prop
  | 0, c => ¬ dg c = 0 ∨ og c = -1
  | k + 1, c => (¬ dg c = 0 ∨ og c = -1) ∨ srcE dg og k (og c)
