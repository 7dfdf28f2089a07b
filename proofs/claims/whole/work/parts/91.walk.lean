/-! THE PURE LAYER 61: the walk, said plainly -/
/-- compaction: layer l laid where m is -/
def cmG (g : Int → Int) (m l : Int) : Int → Int := fun k => if 5 * m ≤ k ∧ k < 5 * m + 5 then g (5 * l + (k - 5 * m)) else g k
def cmS : Nat → Int → Int → (Int → Int) → Int × (Int → Int)
  | 0, _, m, g => (m, g)
  | r + 1, l, m, g => if 1 ≤ sum5 g (5 * l) then cmS r (l + 1) (m + 1) (cmG g m l) else cmS r (l + 1) m g
theorem cmS_1 {g : Int → Int} {l : Int} (q : 1 ≤ sum5 g (5 * l)) (r : Nat) (m : Int) : cmS (r + 1) l m g = cmS r (l + 1) (m + 1) (cmG g m l) := if_pos q
theorem cmS_0 {g : Int → Int} {l : Int} (q : ¬ 1 ≤ sum5 g (5 * l)) (r : Nat) (m : Int) : cmS (r + 1) l m g = cmS r (l + 1) m g := if_neg q
def rgF (n : Int) (f : Int → Int) : Prop := ∀ k, 0 ≤ k → k < 5 * n → 0 ≤ f k ∧ f k ≤ 999
def msF (n : Int) (f : Int → Int) : Prop := ∀ l, 0 ≤ l → l < n → 1 ≤ sum5 f (5 * l)
def wkI (n : Int) (f : Int → Int) : Prop := (0 ≤ n ∧ n ≤ 8) ∧ rgF n f ∧ msF n f
theorem cmG_sum {g : Int → Int} {m l j : Int} (h : ¬ j = m) : sum5 (cmG g m l) (5 * j) = sum5 g (5 * j) := sum5_congr (fun k a b => by
  unfold cmG
  rw [if_neg (by omega)])
theorem cmG_sum_self (g : Int → Int) (m l : Int) : sum5 (cmG g m l) (5 * m) = sum5 g (5 * l) := by
  unfold sum5 cmG
  rw [if_pos (by omega), if_pos (by omega), if_pos (by omega), if_pos (by omega), if_pos (by omega), show 5 * l + (5 * m - 5 * m) = 5 * l by omega, show 5 * l + (5 * m + 1 - 5 * m) = 5 * l + 1 by omega, show 5 * l + (5 * m + 2 - 5 * m) = 5 * l + 2 by omega, show 5 * l + (5 * m + 3 - 5 * m) = 5 * l + 3 by omega, show 5 * l + (5 * m + 4 - 5 * m) = 5 * l + 4 by omega]
theorem cmG_rg {n : Int} {g : Int → Int} {m l : Int} (hm : 0 ≤ m ∧ m ≤ l ∧ l < n) (h : rgF n g) : rgF n (cmG g m l) := fun k a b => by
  unfold cmG
  by_cases q : 5 * m ≤ k ∧ k < 5 * m + 5
  · rw [if_pos q]
    exact h _ (by omega) (by omega)
  · rw [if_neg q]
    exact h k a b
theorem cmS_ok {n : Int} : ∀ (r : Nat) (l m : Int) (g : Int → Int), 0 ≤ m → m ≤ l → l + r = n → rgF n g → msF m g → (m ≤ (cmS r l m g).1 ∧ (cmS r l m g).1 ≤ n) ∧ rgF n (cmS r l m g).2 ∧ msF (cmS r l m g).1 (cmS r l m g).2
  | 0, l, m, g, a, b, e, R, M => ⟨⟨Int.le_refl _, show m ≤ n by omega⟩, R, M⟩
  | r + 1, l, m, g, a, b, e, R, M => by
    by_cases q : 1 ≤ sum5 g (5 * l)
    · rw [cmS_1 q]
      have z := cmS_ok (n := n) r (l + 1) (m + 1) (cmG g m l) (by omega) (by omega) (by omega) (cmG_rg ⟨a, b, by omega⟩ R) (fun j x y => by
        by_cases p : j = m
        · rw [p, cmG_sum_self]
          exact q
        · rw [cmG_sum p]
          exact M j x (by omega))
      exact ⟨⟨by omega, z.1.2⟩, z.2⟩
    · rw [cmS_0 q]
      exact cmS_ok (n := n) r (l + 1) m g a (by omega) (by omega) R M
theorem rgF_le {n n' : Int} {f : Int → Int} (h : rgF n f) (l : n' ≤ n) : rgF n' f := fun k a b => h k a (by omega)
/-- what a step takes of each -/
def lsF (f : Int → Int) (a : Int) : Int → Int := fun k => f k - (f k * a).tdiv 100
theorem ls_1 {x a : Int} (hx : 0 ≤ x ∧ x ≤ 999) (ha : 0 ≤ a ∧ a ≤ 100) : (0 ≤ x * a ∧ x * a ≤ 99900) ∧ (0 ≤ (x * a).tdiv 100 ∧ (x * a).tdiv 100 ≤ x) := by
  have h0 : 0 ≤ x * a := Int.mul_nonneg hx.1 ha.1
  have h1 : x * a ≤ x * 100 := Int.mul_le_mul_of_nonneg_left ha.2 hx.1
  have h2 : (x * a).tdiv 100 = x * a / 100 := Int.tdiv_eq_ediv_of_nonneg h0
  rw [h2]
  omega
theorem lsF_rg {n a : Int} {f : Int → Int} (ha : 0 ≤ a ∧ a ≤ 100) (h : rgF n f) : rgF n (lsF f a) := fun k x y => by
  have := (ls_1 (h k x y) ha).2
  have := h k x y
  unfold lsF
  omega
/-- the words of a law at a step -/
def wdV (n : Int) (f G : Int → Int) (T a b c : Int) : Int → Int := fun i => if i = 0 then a else if i = 1 then b else if 2 ≤ i ∧ i ≤ 6 then (1000 * G (i - 2)).tdiv T else if i = 7 then n else if i = 8 then (if 0 < n then sum5 f (5 * (n - 1)) else 0) else if i = 9 then (if n < 1 then 1000 else farV (fun s => f (5 * (n - 1) + s)) G) else c
theorem wdV_0 (n : Int) (f G : Int → Int) (T a b c : Int) : wdV n f G T a b c 0 = a := rfl
theorem wdV_1 (n : Int) (f G : Int → Int) (T a b c : Int) : wdV n f G T a b c 1 = b := rfl
theorem wdV_s (n : Int) (f G : Int → Int) (T a b c : Int) {i : Int} (h : 2 ≤ i ∧ i ≤ 6) : wdV n f G T a b c i = (1000 * G (i - 2)).tdiv T := by
  unfold wdV
  rw [if_neg (by omega), if_neg (by omega), if_pos h]
theorem wdV_7 (n : Int) (f G : Int → Int) (T a b c : Int) : wdV n f G T a b c 7 = n := rfl
theorem wdV_8 (n : Int) (f G : Int → Int) (T a b c : Int) : wdV n f G T a b c 8 = (if 0 < n then sum5 f (5 * (n - 1)) else 0) := rfl
theorem wdV_9 (n : Int) (f G : Int → Int) (T a b c : Int) : wdV n f G T a b c 9 = (if n < 1 then 1000 else farV (fun s => f (5 * (n - 1) + s)) G) := rfl
theorem wdV_10 (n : Int) (f G : Int → Int) (T a b c : Int) : wdV n f G T a b c 10 = c := rfl
/-- ground and its mass, the step's numbers -/
def gdI (G : Int → Int) (T a b c : Int) : Prop := (∀ s, 0 ≤ s → s < 5 → 0 ≤ G s ∧ G s ≤ 576) ∧ T = sum5 G 0 ∧ 1 ≤ T ∧ (0 ≤ a ∧ a ≤ 9) ∧ (0 ≤ b ∧ b ≤ 23) ∧ (0 ≤ c ∧ c ≤ 20)
theorem gdI_T {G : Int → Int} {T a b c : Int} (h : gdI G T a b c) : 1 ≤ T ∧ T ≤ 2880 ∧ ∀ s, 0 ≤ s → s < 5 → G s ≤ T := by
  have z := sum5_rng (f := G) (i := 0) (M := 576) (fun s p q => by rw [Int.zero_add]; exact h.1 s p q)
  refine ⟨h.2.2.1, by rw [h.2.1]; omega, fun s p q => ?_⟩
  have y := sum5_ge (f := G) (i := 0) (s := s) (fun s p q => by rw [Int.zero_add]; exact (h.1 s p q).1) ⟨p, q⟩
  rw [Int.zero_add, ← h.2.1] at y
  exact y
/-- a share: x times the sort's part of the ground -/
theorem gr_1 {G : Int → Int} {T a b c x s : Int} (h : gdI G T a b c) (hs : 0 ≤ s ∧ s < 5) (hx : 0 ≤ x ∧ x ≤ 1000) : (0 ≤ x * G s ∧ x * G s ≤ 576000) ∧ 0 ≤ (x * G s).tdiv T ∧ (x * G s).tdiv T ≤ 576000 := by
  have g := h.1 s hs.1 hs.2
  have h0 : 0 ≤ x * G s := Int.mul_nonneg hx.1 g.1
  have h1 : x * G s ≤ 1000 * 576 := Int.le_trans (Int.mul_le_mul_of_nonneg_right hx.2 g.1) (Int.mul_le_mul_of_nonneg_left g.2 (by decide))
  refine ⟨⟨h0, h1⟩, ?_⟩
  have h2 := h.2.2.1
  rw [Int.tdiv_eq_ediv_of_nonneg h0]
  have h3 : 0 ≤ x * G s / T := Int.ediv_nonneg h0 (by omega)
  have h4 : x * G s / T ≤ x * G s := Int.ediv_le_self _ h0
  omega
theorem wdV_rng {n : Int} {f G : Int → Int} {T a b c : Int} (hn : 0 ≤ n ∧ n ≤ 8) (hf : rgF n f) (hg : gdI G T a b c) : ∀ i, 0 ≤ i → i ≤ 10 → -1000000 ≤ wdV n f G T a b c i ∧ wdV n f G T a b c i ≤ 1000000 := fun i p q => by
  obtain ⟨g1, g2, g3, ga, gb, gc⟩ := hg
  rcases (show i = 0 ∨ i = 1 ∨ (2 ≤ i ∧ i ≤ 6) ∨ i = 7 ∨ i = 8 ∨ i = 9 ∨ i = 10 by omega) with e | e | e | e | e | e | e
  · subst e
    rw [wdV_0]
    omega
  · subst e
    rw [wdV_1]
    omega
  · rw [wdV_s _ _ _ _ _ _ _ e]
    have := (gr_1 (x := 1000) (s := i - 2) (h := ⟨g1, g2, g3, ga, gb, gc⟩) ⟨by omega, by omega⟩ ⟨by decide, by decide⟩).2
    omega
  · subst e
    rw [wdV_7]
    omega
  · subst e
    rw [wdV_8]
    split
    · have := sum5_rng (f := f) (i := 5 * (n - 1)) (M := 999) (fun s a b => hf _ (by omega) (by omega))
      omega
    · omega
  · subst e
    rw [wdV_9]
    split
    · omega
    · have := farV_rng (a := fun s => f (5 * (n - 1) + s)) (b := G) (fun s a b => (hf _ (by omega) (by omega)).1) (fun s a b => (g1 s a b).1)
      omega
  · subst e
    rw [wdV_10]
    omega
/-- what a law that may be none says -/
noncomputable def tlV (lo : Option (List (Int × List Int))) (w : Int → Int) (c u : Int) : Int := match lo with
  | none => u
  | some L => jdV w c L u
theorem evS_cg {w w' : Int → Int} (h : ∀ i, 0 ≤ i → i ≤ 10 → w i = w' i) (x : Int) (s : List Int) : evS w x s = evS w' x s := by
  unfold evS
  split
  · rfl
  · split
    · next q => rw [h _ (by omega) (by omega)]
    · rfl
theorem evR_cg {w w' : Int → Int} (h : ∀ i, 0 ≤ i → i ≤ 10 → w i = w' i) : ∀ (c s : List Int), evR w c s = evR w' c s
  | [], _ => rfl
  | x :: c, s => by
    show evR w c (evS w x s) = evR w' c (evS w' x s)
    rw [evS_cg h, evR_cg h c]
theorem valS_cg {w w' : Int → Int} (h : ∀ i, 0 ≤ i → i ≤ 10 → w i = w' i) (c : List Int) : valS w c = valS w' c := by
  unfold valS
  rw [evR_cg h]
theorem jdV_cg {w w' : Int → Int} (h : ∀ i, 0 ≤ i → i ≤ 10 → w i = w' i) (c : Int) : ∀ (L : List (Int × List Int)) (u : Int), jdV w c L u = jdV w' c L u
  | [], _ => rfl
  | p :: L, u => by
    unfold jdV
    rw [valS_cg h, jdV_cg h c L]
def loOk (lo : Option (List (Int × List Int))) : Prop := ∀ L, lo = some L → ∀ p ∈ L, clOk p
theorem tlV_rng {lo : Option (List (Int × List Int))} {w : Int → Int} {u : Int} (o : loOk lo) (hw : ∀ i, 0 ≤ i → i ≤ 10 → -1000000 ≤ w i ∧ w i ≤ 1000000) (c : Int) (hu : -1000000 ≤ u ∧ u ≤ 1000000) : -1000000 ≤ tlV lo w c u ∧ tlV lo w c u ≤ 1000000 := by
  cases lo with
  | none => exact hu
  | some L => exact jdV_rng hw c L u (o L rfl) hu
theorem jdV_01 {w : Int → Int} (hw : ∀ i, 0 ≤ i → i ≤ 10 → -1000000 ≤ w i ∧ w i ≤ 1000000) {c : Int} (hc : 2 ≤ c) : ∀ (L : List (Int × List Int)) (u : Int), (∀ p ∈ L, clOk p) → (u = 0 ∨ u = 1) → jdV w c L u = 0 ∨ jdV w c L u = 1
  | [], u, _, hu => hu
  | p :: L, u, h, hu => by
    obtain ⟨b, -, -, -, v⟩ := val_cl hw (h p List.mem_cons_self)
    unfold jdV
    refine jdV_01 hw hc L _ (fun q hq => h q (List.mem_cons_of_mem _ hq)) ?_
    split
    · next q => exact v (by omega)
    · exact hu
theorem tlV_01 {lo : Option (List (Int × List Int))} {w : Int → Int} (o : loOk lo) (hw : ∀ i, 0 ≤ i → i ≤ 10 → -1000000 ≤ w i ∧ w i ≤ 1000000) {c : Int} (hc : 2 ≤ c) : tlV lo w c 0 = 0 ∨ tlV lo w c 0 = 1 := by
  cases lo with
  | none => exact Or.inl rfl
  | some L => exact jdV_01 hw hc L 0 (o L rfl) (Or.inl rfl)
/-- one step of a walk, in three -/
noncomputable def wqA (lo : Option (List (Int × List Int))) (W : Int → (Int → Int) → Int → Int) (n : Int) (f : Int → Int) : Int × (Int → Int) := cmS n.toNat 0 0 (lsF f (max 0 (min 100 (tlV lo (W n f) 1 0))))
noncomputable def wqB (lo : Option (List (Int × List Int))) (W : Int → (Int → Int) → Int → Int) (n : Int) (f : Int → Int) : Int := if 0 < n ∧ ¬ tlV lo (W n f) 3 0 = 0 then n - 1 else n
def grV (t : Int) (G : Int → Int) (T : Int) (s : Int) : Int := (t * G s).tdiv T
def zrF (f : Int → Int) (n : Int) : Int → Int := fun k => if 5 * n ≤ k ∧ k < 5 * n + 5 then 0 else f k
def ptF (t : Int) (G : Int → Int) (T n : Int) (f : Int → Int) : Int → Int := fun k => if 5 * (n - 1) ≤ k ∧ k < 5 * n then min 999 (f k + grV t G T (k - 5 * (n - 1))) else f k
noncomputable def tkV (lo : Option (List (Int × List Int))) (W : Int → (Int → Int) → Int → Int) (n : Int) (f : Int → Int) : Int := max 0 (min 99 (tlV lo (W n f) 0 10))
noncomputable def wqC (lo : Option (List (Int × List Int))) (W : Int → (Int → Int) → Int → Int) (G : Int → Int) (T n : Int) (f : Int → Int) : Int × (Int → Int) := if sum5 (grV (tkV lo W n f) G T) 0 < 1 then (n, f) else if n < 1 ∨ (n < 8 ∧ ¬ tlV lo (W n f) 2 0 = 0) then (n + 1, ptF (tkV lo W n f) G T (n + 1) (zrF f n)) else (n, ptF (tkV lo W n f) G T n f)
noncomputable def wqW (lo : Option (List (Int × List Int))) (W : Int → (Int → Int) → Int → Int) (G : Int → Int) (T n : Int) (f : Int → Int) : Int × (Int → Int) := wqC lo W G T (wqB lo W (wqA lo W n f).1 (wqA lo W n f).2) (wqA lo W n f).2
theorem wqA_ok {lo : Option (List (Int × List Int))} {W : Int → (Int → Int) → Int → Int} {n : Int} {f : Int → Int} (h : wkI n f) : wkI (wqA lo W n f).1 (wqA lo W n f).2 := by
  unfold wqA
  have z := cmS_ok (n := n) n.toNat 0 0 (lsF f (max 0 (min 100 (tlV lo (W n f) 1 0)))) (Int.le_refl _) (Int.le_refl _) (by have := h.1; omega) (lsF_rg (by omega) h.2.1) (fun j a b => absurd b (by omega))
  exact ⟨⟨z.1.1, Int.le_trans z.1.2 h.1.2⟩, rgF_le z.2.1 z.1.2, z.2.2⟩
theorem wqB_ok {lo : Option (List (Int × List Int))} {W : Int → (Int → Int) → Int → Int} {n : Int} {f : Int → Int} (h : wkI n f) : wkI (wqB lo W n f) f := by
  have := h.1
  unfold wqB
  split
  · exact ⟨by omega, rgF_le h.2.1 (by omega), fun l a b => h.2.2 l a (by omega)⟩
  · exact h
theorem ptF_ok {G : Int → Int} {T a b c t n : Int} {f : Int → Int} (g : gdI G T a b c) (ht : 0 ≤ t ∧ t ≤ 99) (hn : 1 ≤ n ∧ n ≤ 8) (hr : rgF n f) (hm : msF (n - 1) f) (hs : 1 ≤ sum5 f (5 * (n - 1)) ∨ ¬ sum5 (grV t G T) 0 < 1) : wkI n (ptF t G T n f) := by
  have gs := fun s (p : 0 ≤ s ∧ s < 5) => (gr_1 (x := t) g p ⟨ht.1, by omega⟩).2
  refine ⟨by omega, fun k x y => ?_, fun l x y => ?_⟩
  · have := hr k x y
    unfold ptF
    split
    · next q =>
      have := gs (k - 5 * (n - 1)) (by omega)
      unfold grV
      omega
    · exact this
  · by_cases q : l = n - 1
    · subst q
      have e : ∀ s, 0 ≤ s → s < 5 → ptF t G T n f (5 * (n - 1) + s) = min 999 (f (5 * (n - 1) + s) + grV t G T s) := fun s p q => by
        unfold ptF
        rw [if_pos (by omega), show 5 * (n - 1) + s - 5 * (n - 1) = s by omega]
      have r := fun s (p : 0 ≤ s) (q : s < 5) => hr (5 * (n - 1) + s) (by omega) (by omega)
      have e0 := e 0 (by decide) (by decide)
      rw [Int.add_zero] at e0
      have r0 := r 0 (by decide) (by decide)
      rw [Int.add_zero] at r0
      have r1 := r 1 (by decide) (by decide)
      have r2 := r 2 (by decide) (by decide)
      have r3 := r 3 (by decide) (by decide)
      have r4 := r 4 (by decide) (by decide)
      have s0 : 0 ≤ grV t G T 0 := (gs 0 (by omega)).1
      have s1 : 0 ≤ grV t G T 1 := (gs 1 (by omega)).1
      have s2 : 0 ≤ grV t G T 2 := (gs 2 (by omega)).1
      have s3 : 0 ≤ grV t G T 3 := (gs 3 (by omega)).1
      have s4 : 0 ≤ grV t G T 4 := (gs 4 (by omega)).1
      rw [sum5_0] at hs
      unfold sum5 at hs ⊢
      rw [e0, e 1 (by decide) (by decide), e 2 (by decide) (by decide), e 3 (by decide) (by decide), e 4 (by decide) (by decide)]
      omega
    · have := hm l x (by omega)
      rw [sum5_congr (f := f) (fun k x y => by
        unfold ptF
        rw [if_neg (by omega)])]
      exact this
theorem wqC_ok {lo : Option (List (Int × List Int))} {W : Int → (Int → Int) → Int → Int} {G : Int → Int} {T a b c n : Int} {f : Int → Int} (g : gdI G T a b c) (h : wkI n f) : wkI (wqC lo W G T n f).1 (wqC lo W G T n f).2 := by
  have h1 := h.1
  have ht : 0 ≤ tkV lo W n f ∧ tkV lo W n f ≤ 99 := by
    unfold tkV
    omega
  unfold wqC
  split
  · exact h
  · next q =>
    split
    · next q2 =>
      refine ptF_ok (n := n + 1) g ht (by omega) (fun k x y => ?_) (fun l x y => ?_) (Or.inr q)
      · unfold zrF
        split
        · omega
        · exact h.2.1 k x (by omega)
      · rw [sum5_congr (f := f) (fun k x y => by
          unfold zrF
          rw [if_neg (by omega)])]
        exact h.2.2 l x (by omega)
    · next q2 => exact ptF_ok g ht (by omega) h.2.1 (fun l x y => h.2.2 l x (by omega)) (Or.inl (h.2.2 _ (by omega) (by omega)))
theorem wqW_ok {lo : Option (List (Int × List Int))} {W : Int → (Int → Int) → Int → Int} {G : Int → Int} {T a b c n : Int} {f : Int → Int} (g : gdI G T a b c) (h : wkI n f) : wkI (wqW lo W G T n f).1 (wqW lo W G T n f).2 := wqC_ok g (wqB_ok (wqA_ok h))
