/-! THE PURE LAYER 5: what was carried comes to an end -/
def itf (f : Int → Int) : Nat → Int → Int
  | 0, c => c
  | k + 1, c => itf f k (f c)
theorem itf_add (f : Int → Int) : ∀ (a b : Nat) (c : Int), itf f (a + b) c = itf f b (itf f a c)
  | 0, b, c => by rw [Nat.zero_add]; rfl
  | a + 1, b, c => by
    rw [show a + 1 + b = (a + b) + 1 by omega]
    exact itf_add f a b (f c)
def stp (og : Int → Int) (e : Int) : Int := if e = -1 then -1 else og e
theorem itf_none (og : Int → Int) : ∀ k : Nat, itf (stp og) k (-1) = -1
  | 0 => rfl
  | k + 1 => by
    show itf (stp og) k (stp og (-1)) = -1
    rw [show stp og (-1) = -1 from if_pos rfl]
    exact itf_none og k
theorem itf_mono {og : Int → Int} {k m : Nat} {c : Int} (h : itf (stp og) k c = -1) (hm : k ≤ m) : itf (stp og) m c = -1 := by
  rw [show m = k + (m - k) by omega, itf_add, h, itf_none]
theorem php : ∀ (n k : Nat) (f : Nat → Nat), (∀ i, i < k → f i < n) → (∀ i j, i < j → j < k → ¬ f i = f j) → k ≤ n
  | 0, k, f, hf, _ => by
    cases k with
    | zero => exact Nat.le_refl _
    | succ k => exact absurd (hf 0 (by omega)) (by omega)
  | n + 1, k, f, hf, hi => by
    cases k with
    | zero => omega
    | succ k =>
      have h := php n k (fun i => if f k < f i then f i - 1 else f i) (fun i hik => ?_) (fun i j hij hjk => ?_)
      · omega
      · have h1 := hf i (by omega)
        have h2 := hf k (by omega)
        have h3 := hi i k hik (by omega)
        split <;> omega
      · have h1 := hi i j hij (by omega)
        have h2 := hi i k (by omega) (by omega)
        have h3 := hi j k hjk (by omega)
        split <;> split <;> omega
/-- each way of what was carried ends -/
def Ends (n : Int) (og : Int → Int) : Prop := ∀ c, 0 ≤ c → c < n → ∃ k, itf (stp og) k c = -1
def OgR (n : Int) (og : Int → Int) : Prop := ∀ e, 0 ≤ e → e < n → og e = -1 ∨ (0 ≤ og e ∧ og e < n)
theorem itf_rng {n : Int} {og : Int → Int} (ho : OgR n og) : ∀ (k : Nat) (c : Int), c = -1 ∨ (0 ≤ c ∧ c < n) → itf (stp og) k c = -1 ∨ (0 ≤ itf (stp og) k c ∧ itf (stp og) k c < n)
  | 0, c, h => h
  | k + 1, c, h => by
    refine itf_rng ho k (stp og c) ?_
    unfold stp
    split
    · exact Or.inl rfl
    · exact ho c (by omega) (by omega)
theorem ends_n {n : Int} {og : Int → Int} (ho : OgR n og) (he : Ends n og) {c : Int} (h0 : 0 ≤ c) (hc : c < n) : itf (stp og) n.toNat c = -1 := by
  refine Classical.byContradiction fun hne => ?_
  have hr : ∀ i, i < n.toNat + 1 → ¬ itf (stp og) i c = -1 := fun i hi q => hne (itf_mono q (by omega))
  have hv : ∀ i, i < n.toNat + 1 → 0 ≤ itf (stp og) i c ∧ itf (stp og) i c < n := fun i hi => (itf_rng ho i c (Or.inr ⟨h0, hc⟩)).elim (fun q => absurd q (hr i hi)) id
  have hx : ∃ i j, i < j ∧ j < n.toNat + 1 ∧ itf (stp og) i c = itf (stp og) j c := by
    refine Classical.byContradiction fun hno => ?_
    have h := php n.toNat (n.toNat + 1) (fun i => (itf (stp og) i c).toNat) (fun i hi => ?_) (fun i j hij hj q => ?_)
    · omega
    · have := hv i hi
      omega
    · have h1 := hv i (by omega)
      have h2 := hv j hj
      exact hno ⟨i, j, hij, hj, by omega⟩
  obtain ⟨i, j, hij, hj, hq⟩ := hx
  obtain ⟨k, hk⟩ := he c h0 hc
  have ht : ∀ t : Nat, itf (stp og) (i + t * (j - i)) c = itf (stp og) i c := by
    intro t
    induction t with
    | zero => rw [Nat.zero_mul, Nat.add_zero]
    | succ t ih =>
      rw [show i + (t + 1) * (j - i) = (i + t * (j - i)) + (j - i) by rw [Nat.succ_mul, Nat.add_assoc], itf_add, ih, ← itf_add, show i + (j - i) = j by omega]
      exact hq.symm
  have h1 := ht k
  have h2 : k ≤ i + k * (j - i) := by
    have : k * 1 ≤ k * (j - i) := Nat.mul_le_mul_left k (by omega)
    omega
  rw [itf_mono hk h2] at h1
  exact hr i (by omega) h1.symm
theorem srcE_of {dg og : Int → Int} : ∀ (k : Nat) (c : Int), ¬ c = -1 → itf (stp og) (k + 1) c = -1 → srcE dg og k c
  | 0, c, hc, h => by
    have h' : stp og c = -1 := h
    unfold stp at h'
    rw [if_neg hc] at h'
    exact Or.inr h'
  | k + 1, c, hc, h => by
    by_cases q : og c = -1
    · exact Or.inl (Or.inr q)
    · refine Or.inr (srcE_of k (og c) q ?_)
      have h' : itf (stp og) (k + 1) (stp og c) = -1 := h
      unfold stp at h'
      rw [if_neg hc] at h'
      exact h'
theorem srcE_64 {n : Int} {dg og : Int → Int} (hn : n ≤ 64) (ho : OgR n og) (he : Ends n og) {c : Int} (h0 : 0 ≤ c) (hc : c < n) : srcE dg og 64 c :=
  srcE_of 64 c (by omega) (itf_mono (ends_n ho he h0 hc) (by omega))
/-- e is c, or c was carried from it over others -/
def hits (og : Int → Int) (c e : Int) : Prop := ∃ k, itf (stp og) k c = e
theorem hits_me (og : Int → Int) (c : Int) : hits og c c := ⟨0, rfl⟩
theorem hits_up {og : Int → Int} {c e : Int} (hc : ¬ c = -1) (hce : ¬ c = e) : hits og c e ↔ hits og (og c) e := by
  have hs : stp og c = og c := if_neg hc
  constructor
  · rintro ⟨k, hk⟩
    cases k with
    | zero => exact absurd hk hce
    | succ k =>
      refine ⟨k, ?_⟩
      have hk' : itf (stp og) k (stp og c) = e := hk
      rw [hs] at hk'
      exact hk'
  · rintro ⟨k, hk⟩
    refine ⟨k + 1, ?_⟩
    show itf (stp og) k (stp og c) = e
    rw [hs]
    exact hk
/-- a cell may come from another just if that one doesn't come from it -/
theorem ends_carry {n : Int} {og : Int → Int} (he : Ends n og) {c f : Int} (h0 : 0 ≤ c ∧ c < n) (hf : f = -1 ∨ (0 ≤ f ∧ f < n ∧ ¬ hits og f c)) : Ends n (fun e => if e = c then f else og e) := by
  -- ways that never meet c are as they were
  have hsame : ∀ (k : Nat) (x : Int), ¬ hits og x c → itf (stp (fun e => if e = c then f else og e)) k x = itf (stp og) k x := by
    intro k
    induction k with
    | zero => intro x _; rfl
    | succ k ih =>
      intro x hx
      have hxc : ¬ x = c := fun q => hx (q ▸ hits_me og x)
      have e1 : stp (fun e => if e = c then f else og e) x = stp og x := by
        unfold stp
        split
        · rfl
        · exact if_neg hxc
      show itf _ k (stp _ x) = itf _ k (stp og x)
      rw [e1]
      refine ih _ (fun q => hx ?_)
      obtain ⟨m, hm⟩ := q
      exact ⟨m + 1, hm⟩
  have hfe : ∃ k, itf (stp (fun e => if e = c then f else og e)) k f = -1 := by
    rcases hf with q | ⟨a, b, q⟩
    · exact ⟨0, q⟩
    · obtain ⟨k, hk⟩ := he f a b
      exact ⟨k, by rw [hsame k f q]; exact hk⟩
  have hce : ∃ k, itf (stp (fun e => if e = c then f else og e)) k c = -1 := by
    obtain ⟨k, hk⟩ := hfe
    refine ⟨k + 1, ?_⟩
    show itf _ k (stp _ c) = -1
    rw [show stp (fun e => if e = c then f else og e) c = f by unfold stp; rw [if_neg (by omega)]; exact if_pos rfl]
    exact hk
  have key : ∀ (k : Nat) (x : Int), itf (stp og) k x = -1 → ∃ m, itf (stp (fun e => if e = c then f else og e)) m x = -1 := by
    intro k
    induction k with
    | zero => intro x h; exact ⟨0, h⟩
    | succ k ih =>
      intro x h
      by_cases hxc : x = c
      · rw [hxc]; exact hce
      · obtain ⟨m, hm⟩ := ih (stp og x) h
        refine ⟨m + 1, ?_⟩
        show itf _ m (stp _ x) = -1
        rw [show stp (fun e => if e = c then f else og e) x = stp og x by unfold stp; split <;> first | rfl | exact if_neg hxc]
        exact hm
  intro x hx0 hxn
  obtain ⟨k, hk⟩ := he x hx0 hxn
  exact key k x hk
