/-! THE PURE LAYER 49: tokens, the model -/
/-- what a token is to the model: its sort and what is told -/
def tkR (k v s u : Int) : Prop := ((0 ≤ k ∧ k ≤ 17) ∧ s = 1 ∧ u = k) ∨ (k = 20 ∧ s = 2 ∧ ((v ≤ 9999 ∧ u = v) ∨ (v = 10000 ∧ 10000 ≤ u)) ∧ 0 ≤ u ∧ u ≤ 2000000) ∨ (s = 3 ∧ ((k = 30 ∧ u = 60) ∨ (k = 31 ∧ u = 62) ∨ (k = 32 ∧ u = 61) ∨ (k = 33 ∧ u = 35) ∨ (k = 34 ∧ u = 43) ∨ (k = 35 ∧ u = 45) ∨ (k = 36 ∧ u = 42) ∨ (k = 37 ∧ u = 47) ∨ (k = 38 ∧ u = 40) ∨ (k = 39 ∧ u = 41) ∨ (k = 40 ∧ u = 59) ∨ (k = 41 ∧ u = 300) ∨ (k = 42 ∧ u = 301))) ∨ (k = 22 ∧ (s = 4 ∨ (s = 3 ∧ u = 44)) ∧ -128 ≤ u ∧ u ≤ 127)
def nxF (H h : XH) : Prop := (∀ o, ¬ o = 67 → h o = H o) ∧ ∀ k, ¬ (25 ≤ k ∧ k ≤ 28) → h 67 k = H 67 k
theorem nxF_refl (H : XH) : nxF H H := ⟨fun _ _ => rfl, fun _ _ => rfl⟩
theorem nxF_up {H h : XH} (f : nxF H h) {k x : Int} (hk : 25 ≤ k ∧ k ≤ 28) : nxF H (xup h 67 k x) := ⟨fun o a => by rw [xup_ne a]; exact f.1 o a, fun j a => by rw [xup_k (by omega)]; exact f.2 j a⟩
theorem byR_o {c b : Int} (h : byR c b) : (-128 ≤ b ∧ b ≤ 127) ∧ ((b < 0 ∧ c = b + 256) ∨ (0 ≤ b ∧ c = b)) := by
  obtain ⟨a, b', c'⟩ := h
  split at c' <;> omega
/-- letters as a number -/
def enV (f : Int → Int) (s : Int) : Nat → Int
  | 0 => 0
  | m + 1 => 64 * enV f s m + f (s + m) - 64
theorem enV_rng {f : Int → Int} {s : Int} : ∀ m : Nat, m ≤ 8 → (∀ i : Int, 0 ≤ i → i < m → 65 ≤ f (s + i) ∧ f (s + i) ≤ 126) → 0 ≤ enV f s m ∧ enV f s m ≤ 281474976710656
  | 0, _, _ => ⟨Int.le_refl _, by unfold enV; decide⟩
  | 1, _, h => by
    have z := h 0 (by decide) (by decide)
    have e : enV f s 1 = 64 * 0 + f (s + ((0 : Nat) : Int)) - 64 := rfl
    rw [e, show s + ((0 : Nat) : Int) = s + 0 by omega]
    omega
  | m + 2, l, h => by
    have key : ∀ j : Nat, j ≤ 8 → j ≤ m + 2 → 0 ≤ enV f s j ∧ enV f s j < 64 ^ j := by
      intro j
      induction j with
      | zero => exact fun _ _ => ⟨Int.le_refl _, by show (0 : Int) < 64 ^ 0; rw [Int.pow_zero]; decide⟩
      | succ j ih =>
        intro a b
        have ih := ih (by omega) (by omega)
        have z := h j (by omega) (by omega)
        have e : enV f s (j + 1) = 64 * enV f s j + f (s + j) - 64 := rfl
        have p : (64 : Int) ^ (j + 1) = 64 ^ j * 64 := Int.pow_succ 64 j
        rw [e, p]
        omega
    have z := key (m + 2) l (Nat.le_refl _)
    refine ⟨z.1, ?_⟩
    have : (64 : Int) ^ (m + 2) ≤ 64 ^ 8 := by
      have q : (64 : Nat) ^ (m + 2) ≤ 64 ^ 8 := Nat.pow_le_pow_right (by decide) l
      exact_mod_cast q
    have e8 : (64 : Int) ^ 8 = 281474976710656 := by decide
    omega
theorem enV_inj {f g : Int → Int} {s u : Int} : ∀ m m' : Nat, (∀ i : Int, 0 ≤ i → i < m → 65 ≤ f (s + i) ∧ f (s + i) ≤ 126) → (∀ i : Int, 0 ≤ i → i < m' → 65 ≤ g (u + i) ∧ g (u + i) ≤ 126) → enV f s m = enV g u m' → m = m' ∧ ∀ i : Int, 0 ≤ i → i < m → f (s + i) = g (u + i)
  | 0, 0, _, _, _ => ⟨rfl, fun i a b => by omega⟩
  | 0, m' + 1, _, h', e => by
    have z := h' m' (by omega) (by omega)
    have n : 0 ≤ enV g u m' := by
      clear e
      have : ∀ j : Nat, j ≤ m' → 0 ≤ enV g u j := by
        intro j
        induction j with
        | zero => exact fun _ => Int.le_refl _
        | succ j ih =>
          intro a
          have ih := ih (by omega)
          have y := h' j (by omega) (by omega)
          have e : enV g u (j + 1) = 64 * enV g u j + g (u + j) - 64 := rfl
          omega
      exact this m' (Nat.le_refl _)
    have e0 : enV f s 0 = 0 := rfl
    have e1 : enV g u (m' + 1) = 64 * enV g u m' + g (u + m') - 64 := rfl
    omega
  | m + 1, 0, h, _, e => by
    have z := h m (by omega) (by omega)
    have n : 0 ≤ enV f s m := by
      clear e
      have : ∀ j : Nat, j ≤ m → 0 ≤ enV f s j := by
        intro j
        induction j with
        | zero => exact fun _ => Int.le_refl _
        | succ j ih =>
          intro a
          have ih := ih (by omega)
          have y := h j (by omega) (by omega)
          have e : enV f s (j + 1) = 64 * enV f s j + f (s + j) - 64 := rfl
          omega
      exact this m (Nat.le_refl _)
    have e0 : enV g u 0 = 0 := rfl
    have e1 : enV f s (m + 1) = 64 * enV f s m + f (s + m) - 64 := rfl
    omega
  | m + 1, m' + 1, h, h', e => by
    have z := h m (by omega) (by omega)
    have z' := h' m' (by omega) (by omega)
    have e1 : enV f s (m + 1) = 64 * enV f s m + f (s + m) - 64 := rfl
    have e2 : enV g u (m' + 1) = 64 * enV g u m' + g (u + m') - 64 := rfl
    have ih := enV_inj m m' (fun i a b => h i a (by omega)) (fun i a b => h' i a (by omega)) (by omega)
    refine ⟨by omega, fun i a b => ?_⟩
    by_cases q : i < m
    · exact ih.2 i a q
    · have ei : i = m := by omega
      have em : m = m' := ih.1
      subst em
      rw [ei]
      omega
def wdC (j : Int) : Int := ([13769445, 11730149, 190839, 646368051, 3058, 138148, 191476, 227700, 10681714, 207204, 10430841, 597826347, 13507492, 14588839, 47813385395, 11934963, 157810, 869424179] : List Int).getD j.toNat 0
theorem wdC_tab : ∀ j : Nat, j < 18 → wdC (j : Int) = enV nmA (wdO (j : Int)) (wdL (j : Int)).toNat := by decide +kernel
theorem wd_let : ∀ j : Nat, j < 18 → ∀ i : Nat, i < 10 → (i : Int) < wdL (j : Int) → 65 ≤ nmA (wdO (j : Int) + (i : Int)) ∧ nmA (wdO (j : Int) + (i : Int)) ≤ 126 := by decide +kernel
/-- the number of the letters is that of a word just where the word stands there -/
theorem wd_iff {t : Int → Int} {b e j : Int} (hj : 0 ≤ j ∧ j ≤ 17) (hb : b ≤ e) (ht : ∀ i, b ≤ i → i < e → isLt (t i)) : enV t b (e - b).toNat = wdC j ↔ wdE t b e j := by
  have l6 := wdL_6 j.toNat (by omega)
  have ct := wdC_tab j.toNat (by omega)
  have wl := wd_let j.toNat (by omega)
  have wa := wd_at hj
  rw [Int.toNat_of_nonneg hj.1] at l6 ct wl
  have hn : ∀ i : Int, 0 ≤ i → i < (wdL j).toNat → 65 ≤ nmA (wdO j + i) ∧ nmA (wdO j + i) ≤ 126 := fun i a b' => by
    have z := wl i.toNat (by omega)
    rw [Int.toNat_of_nonneg a] at z
    exact z (by omega)
  have hl : ∀ i : Int, 0 ≤ i → i < (e - b).toNat → 65 ≤ t (b + i) ∧ t (b + i) ≤ 126 := fun i a b' => by
    have z := ht (b + i) (by omega) (by omega)
    unfold isLt at z
    omega
  rw [ct]
  constructor
  · intro q
    have z := enV_inj _ _ hl hn q
    refine ⟨by omega, fun i a c => ?_⟩
    have y := z.2 (i - b) (by omega) (by omega)
    rw [show b + (i - b) = i by omega, show wdO j + (i - b) = wdO j + i - b by omega] at y
    exact y.symm
  · rintro ⟨q1, q2⟩
    rw [q1]
    have cg : ∀ m : Nat, (m : Int) ≤ wdL j → enV t b m = enV nmA (wdO j) m := by
      intro m
      induction m with
      | zero => exact fun _ => rfl
      | succ m ih =>
        intro a
        have y := q2 (b + m) (by omega) (by omega)
        rw [show wdO j + (b + (m : Int)) - b = wdO j + m by omega] at y
        show 64 * enV t b m + t (b + m) - 64 = 64 * enV nmA (wdO j) m + nmA (wdO j + m) - 64
        rw [ih (by omega), y]
    exact cg _ (by omega)
def nmF (f : Int → Int) (b : Int) : Nat → Int
  | 0 => 0
  | m + 1 => if nmF f b m ≤ 99999 then 10 * nmF f b m + f (b + m) - 48 else nmF f b m
theorem nm_nc {t f : Int → Int} {b : Int} : ∀ m : Nat, (∀ i : Int, b ≤ i → i < b + m → isDg (t i) ∧ f i = t i) → ((ncF t b m ≤ 9999 ∧ nmF f b m = ncF t b m) ∨ (ncF t b m = 10000 ∧ 10000 ≤ nmF f b m)) ∧ 0 ≤ nmF f b m ∧ nmF f b m ≤ 1000009
  | 0, _ => ⟨Or.inl ⟨by unfold ncF; decide, rfl⟩, by unfold nmF; decide, by unfold nmF; decide⟩
  | m + 1, h => by
    have ih := nm_nc m (fun i a b => h i a (by omega))
    have r := ncF_rng (t := t) (b := b) m (fun i x y => (h i x (by omega)).1)
    have z := h (b + m) (by omega) (by omega)
    unfold isDg at z
    unfold nmF ncF
    split <;> omega
theorem sg_cases (c : Int) : (c = 60 ∧ sgI c = 0) ∨ (c = 62 ∧ sgI c = 1) ∨ (c = 61 ∧ sgI c = 2) ∨ (c = 35 ∧ sgI c = 3) ∨ (c = 43 ∧ sgI c = 4) ∨ (c = 45 ∧ sgI c = 5) ∨ (c = 42 ∧ sgI c = 6) ∨ (c = 47 ∧ sgI c = 7) ∨ (c = 40 ∧ sgI c = 8) ∨ (c = 41 ∧ sgI c = 9) ∨ (c = 59 ∧ sgI c = 10) ∨ (sgI c = -1 ∧ ¬ c = 60 ∧ ¬ c = 62 ∧ ¬ c = 61 ∧ ¬ c = 35 ∧ ¬ c = 43 ∧ ¬ c = 45 ∧ ¬ c = 42 ∧ ¬ c = 47 ∧ ¬ c = 40 ∧ ¬ c = 41 ∧ ¬ c = 59) := by
  unfold sgI
  repeat' split
  all_goals omega

theorem U_169 {X : Int × (Int → Int)} {d : Nat} {Q : Int → XH → Prop} (hd : 1 ≤ d) (x : Int) (H : XH) (h : ((((97 ≤ x ∧ x ≤ 122)) → Q 1 H) ∧ (¬ ((97 ≤ x ∧ x ≤ 122)) → ((((65 ≤ x ∧ x ≤ 90)) → Q 1 H) ∧ (¬ ((65 ≤ x ∧ x ≤ 90)) → Q 0 H))))) : xc X (d + 1) 169 [(0, x)] H Q := by
  refine ⟨rfl, ?_⟩
  show xq X d 169 Q 100000 [(0, (0, x))] [] H
  refine xq_run [8, 19] 300 ?_
  show xWM (xE X) xMC d 23 [(0, x), (0, 97), (0, 122)] xKZ H _
  refine xc_in (s_23 (by omega) x 97 122 H  ?_)
  replace h := h
  show xq X d 169 Q 8 [(0, (0, x))] [(0, xb (97 ≤ x ∧ x ≤ 122))] H
  refine xq_run [8, 19] 300 ?_
  show ((¬ xb (97 ≤ x ∧ x ≤ 122) = 0) → xfR 3 1 ∧ xKZ = xKZ ∧ Q 1 H) ∧ (¬ (¬ xb (97 ≤ x ∧ x ≤ 122) = 0) → xWM (xE X) xMC d 23 [(0, x), (0, 65), (0, 90)] xKZ H _)
  refine ⟨fun k_ => ?_, fun k_ => ?_⟩
  · replace h := h.1 (xbe_1.mp k_)
    exact ⟨xfR3_1, rfl, h⟩
  · replace h := h.2 (xbe_n.mp k_)
    refine xc_in (s_23 (by omega) x 65 90 H  ?_)
    replace h := h
    show xq X d 169 Q 19 [(0, (0, x))] [(0, xb (65 ≤ x ∧ x ≤ 90))] H
    refine xq_run [8, 19] 300 ?_
    show ((xb (65 ≤ x ∧ x ≤ 90) = 0) → xfR 3 0 ∧ xKZ = xKZ ∧ Q 0 H) ∧ (¬ (xb (65 ≤ x ∧ x ≤ 90) = 0) → xfR 3 1 ∧ xKZ = xKZ ∧ Q 1 H)
    refine ⟨fun k_ => ?_, fun k_ => ?_⟩
    · replace h := h.2 (xbe_0.mp k_)
      exact ⟨xfR3_0, rfl, h⟩
    · replace h := h.1 (xbe_1.mp k_)
      exact ⟨xfR3_1, rfl, h⟩

theorem s_169 {X : Int × (Int → Int)} {d : Nat} {Q : Int → XH → Prop} (hd : 2 ≤ d) (x : Int) (H : XH) (hQ : Q (xb ((97 ≤ x ∧ x ≤ 122) ∨ (65 ≤ x ∧ x ≤ 90))) H) : xc X d 169 [(0, x)] H Q := by
  cases d with
  | zero => omega
  | succ d =>
  refine U_169 (by omega) x H ?_
  refine ⟨fun c1 => ?_, fun c1 => ?_⟩
  · skip
    exact xQr hQ (by unfold xb; split <;> omega)
  · skip
    refine ⟨fun c2 => ?_, fun c2 => ?_⟩
    · skip
      exact xQr hQ (by unfold xb; split <;> omega)
    · skip
      exact xQr hQ (by unfold xb; split <;> omega)

set_option maxRecDepth 8000 in
theorem U_170 {X : Int × (Int → Int)} {d : Nat} {Q : Int → XH → Prop} (hd : 0 ≤ d) (x : Int) (H : XH) (h : ((¬ x = 13769445) → ((¬ x = 11730149) → ((¬ x = 190839) → ((¬ x = 646368051) → ((¬ x = 3058) → ((¬ x = 138148) → ((¬ x = 191476) → ((¬ x = 227700) → ((¬ x = 10681714) → ((¬ x = 207204) → ((¬ x = 10430841) → ((¬ x = 597826347) → ((¬ x = 13507492) → ((¬ x = 14588839) → ((¬ x = 47813385395) → ((¬ x = 11934963) → ((¬ x = 157810) → ((¬ x = 869424179) → Q (-1) H) ∧ (¬ (¬ x = 869424179) → Q 17 H)) ∧ (¬ (¬ x = 157810) → Q 16 H)) ∧ (¬ (¬ x = 11934963) → Q 15 H)) ∧ (¬ (¬ x = 47813385395) → Q 14 H)) ∧ (¬ (¬ x = 14588839) → Q 13 H)) ∧ (¬ (¬ x = 13507492) → Q 12 H)) ∧ (¬ (¬ x = 597826347) → Q 11 H)) ∧ (¬ (¬ x = 10430841) → Q 10 H)) ∧ (¬ (¬ x = 207204) → Q 9 H)) ∧ (¬ (¬ x = 10681714) → Q 8 H)) ∧ (¬ (¬ x = 227700) → Q 7 H)) ∧ (¬ (¬ x = 191476) → Q 6 H)) ∧ (¬ (¬ x = 138148) → Q 5 H)) ∧ (¬ (¬ x = 3058) → Q 4 H)) ∧ (¬ (¬ x = 646368051) → Q 3 H)) ∧ (¬ (¬ x = 190839) → Q 2 H)) ∧ (¬ (¬ x = 11730149) → Q 1 H)) ∧ (¬ (¬ x = 13769445) → Q 0 H)) : xc X (d + 1) 170 [(1, x)] H Q := by
  refine ⟨rfl, ?_⟩
  show xq X d 170 Q 100000 [(0, (1, x))] [] H
  refine xq_run [] 300 ?_
  show ((¬ xcmp x 13769445 = 0) → ((¬ xcmp x 11730149 = 0) → ((¬ xcmp x 190839 = 0) → ((¬ xcmp x 646368051 = 0) → ((¬ xcmp x 3058 = 0) → ((¬ xcmp x 138148 = 0) → ((¬ xcmp x 191476 = 0) → ((¬ xcmp x 227700 = 0) → ((¬ xcmp x 10681714 = 0) → ((¬ xcmp x 207204 = 0) → ((¬ xcmp x 10430841 = 0) → ((¬ xcmp x 597826347 = 0) → ((¬ xcmp x 13507492 = 0) → ((¬ xcmp x 14588839 = 0) → ((¬ xcmp x 47813385395 = 0) → ((¬ xcmp x 11934963 = 0) → ((¬ xcmp x 157810 = 0) → ((¬ xcmp x 869424179 = 0) → xfR 0 (-1) ∧ xKZ = xKZ ∧ Q (-1) H) ∧ (¬ (¬ xcmp x 869424179 = 0) → xfR 0 17 ∧ xKZ = xKZ ∧ Q 17 H)) ∧ (¬ (¬ xcmp x 157810 = 0) → xfR 0 16 ∧ xKZ = xKZ ∧ Q 16 H)) ∧ (¬ (¬ xcmp x 11934963 = 0) → xfR 0 15 ∧ xKZ = xKZ ∧ Q 15 H)) ∧ (¬ (¬ xcmp x 47813385395 = 0) → xfR 0 14 ∧ xKZ = xKZ ∧ Q 14 H)) ∧ (¬ (¬ xcmp x 14588839 = 0) → xfR 0 13 ∧ xKZ = xKZ ∧ Q 13 H)) ∧ (¬ (¬ xcmp x 13507492 = 0) → xfR 0 12 ∧ xKZ = xKZ ∧ Q 12 H)) ∧ (¬ (¬ xcmp x 597826347 = 0) → xfR 0 11 ∧ xKZ = xKZ ∧ Q 11 H)) ∧ (¬ (¬ xcmp x 10430841 = 0) → xfR 0 10 ∧ xKZ = xKZ ∧ Q 10 H)) ∧ (¬ (¬ xcmp x 207204 = 0) → xfR 0 9 ∧ xKZ = xKZ ∧ Q 9 H)) ∧ (¬ (¬ xcmp x 10681714 = 0) → xfR 0 8 ∧ xKZ = xKZ ∧ Q 8 H)) ∧ (¬ (¬ xcmp x 227700 = 0) → xfR 0 7 ∧ xKZ = xKZ ∧ Q 7 H)) ∧ (¬ (¬ xcmp x 191476 = 0) → xfR 0 6 ∧ xKZ = xKZ ∧ Q 6 H)) ∧ (¬ (¬ xcmp x 138148 = 0) → xfR 0 5 ∧ xKZ = xKZ ∧ Q 5 H)) ∧ (¬ (¬ xcmp x 3058 = 0) → xfR 0 4 ∧ xKZ = xKZ ∧ Q 4 H)) ∧ (¬ (¬ xcmp x 646368051 = 0) → xfR 0 3 ∧ xKZ = xKZ ∧ Q 3 H)) ∧ (¬ (¬ xcmp x 190839 = 0) → xfR 0 2 ∧ xKZ = xKZ ∧ Q 2 H)) ∧ (¬ (¬ xcmp x 11730149 = 0) → xfR 0 1 ∧ xKZ = xKZ ∧ Q 1 H)) ∧ (¬ (¬ xcmp x 13769445 = 0) → xfR 0 0 ∧ xKZ = xKZ ∧ Q 0 H)
  refine ⟨fun k_ => ?_, fun k_ => ?_⟩
  · replace h := h.1 (xcmp_ne.mp k_)
    refine ⟨fun k_ => ?_, fun k_ => ?_⟩
    · replace h := h.1 (xcmp_ne.mp k_)
      refine ⟨fun k_ => ?_, fun k_ => ?_⟩
      · replace h := h.1 (xcmp_ne.mp k_)
        refine ⟨fun k_ => ?_, fun k_ => ?_⟩
        · replace h := h.1 (xcmp_ne.mp k_)
          refine ⟨fun k_ => ?_, fun k_ => ?_⟩
          · replace h := h.1 (xcmp_ne.mp k_)
            refine ⟨fun k_ => ?_, fun k_ => ?_⟩
            · replace h := h.1 (xcmp_ne.mp k_)
              refine ⟨fun k_ => ?_, fun k_ => ?_⟩
              · replace h := h.1 (xcmp_ne.mp k_)
                refine ⟨fun k_ => ?_, fun k_ => ?_⟩
                · replace h := h.1 (xcmp_ne.mp k_)
                  refine ⟨fun k_ => ?_, fun k_ => ?_⟩
                  · replace h := h.1 (xcmp_ne.mp k_)
                    refine ⟨fun k_ => ?_, fun k_ => ?_⟩
                    · replace h := h.1 (xcmp_ne.mp k_)
                      refine ⟨fun k_ => ?_, fun k_ => ?_⟩
                      · replace h := h.1 (xcmp_ne.mp k_)
                        refine ⟨fun k_ => ?_, fun k_ => ?_⟩
                        · replace h := h.1 (xcmp_ne.mp k_)
                          refine ⟨fun k_ => ?_, fun k_ => ?_⟩
                          · replace h := h.1 (xcmp_ne.mp k_)
                            refine ⟨fun k_ => ?_, fun k_ => ?_⟩
                            · replace h := h.1 (xcmp_ne.mp k_)
                              refine ⟨fun k_ => ?_, fun k_ => ?_⟩
                              · replace h := h.1 (xcmp_ne.mp k_)
                                refine ⟨fun k_ => ?_, fun k_ => ?_⟩
                                · replace h := h.1 (xcmp_ne.mp k_)
                                  refine ⟨fun k_ => ?_, fun k_ => ?_⟩
                                  · replace h := h.1 (xcmp_ne.mp k_)
                                    refine ⟨fun k_ => ?_, fun k_ => ?_⟩
                                    · replace h := h.1 (xcmp_ne.mp k_)
                                      exact ⟨trivial, rfl, h⟩
                                    · replace h := h.2 (fun q => k_ (xcmp_ne.mpr q))
                                      exact ⟨trivial, rfl, h⟩
                                  · replace h := h.2 (fun q => k_ (xcmp_ne.mpr q))
                                    exact ⟨trivial, rfl, h⟩
                                · replace h := h.2 (fun q => k_ (xcmp_ne.mpr q))
                                  exact ⟨trivial, rfl, h⟩
                              · replace h := h.2 (fun q => k_ (xcmp_ne.mpr q))
                                exact ⟨trivial, rfl, h⟩
                            · replace h := h.2 (fun q => k_ (xcmp_ne.mpr q))
                              exact ⟨trivial, rfl, h⟩
                          · replace h := h.2 (fun q => k_ (xcmp_ne.mpr q))
                            exact ⟨trivial, rfl, h⟩
                        · replace h := h.2 (fun q => k_ (xcmp_ne.mpr q))
                          exact ⟨trivial, rfl, h⟩
                      · replace h := h.2 (fun q => k_ (xcmp_ne.mpr q))
                        exact ⟨trivial, rfl, h⟩
                    · replace h := h.2 (fun q => k_ (xcmp_ne.mpr q))
                      exact ⟨trivial, rfl, h⟩
                  · replace h := h.2 (fun q => k_ (xcmp_ne.mpr q))
                    exact ⟨trivial, rfl, h⟩
                · replace h := h.2 (fun q => k_ (xcmp_ne.mpr q))
                  exact ⟨trivial, rfl, h⟩
              · replace h := h.2 (fun q => k_ (xcmp_ne.mpr q))
                exact ⟨trivial, rfl, h⟩
            · replace h := h.2 (fun q => k_ (xcmp_ne.mpr q))
              exact ⟨trivial, rfl, h⟩
          · replace h := h.2 (fun q => k_ (xcmp_ne.mpr q))
            exact ⟨trivial, rfl, h⟩
        · replace h := h.2 (fun q => k_ (xcmp_ne.mpr q))
          exact ⟨trivial, rfl, h⟩
      · replace h := h.2 (fun q => k_ (xcmp_ne.mpr q))
        exact ⟨trivial, rfl, h⟩
    · replace h := h.2 (fun q => k_ (xcmp_ne.mpr q))
      exact ⟨trivial, rfl, h⟩
  · replace h := h.2 (fun q => k_ (xcmp_ne.mpr q))
    exact ⟨trivial, rfl, h⟩

/-- the number of a word, or none -/
def woP (x r : Int) : Prop := (0 ≤ r ∧ r ≤ 17 ∧ x = wdC r) ∨ (r = -1 ∧ ∀ j, 0 ≤ j → j ≤ 17 → ¬ x = wdC j)
theorem wdC_v : wdC 0 = 13769445 ∧ wdC 1 = 11730149 ∧ wdC 2 = 190839 ∧ wdC 3 = 646368051 ∧ wdC 4 = 3058 ∧ wdC 5 = 138148 ∧ wdC 6 = 191476 ∧ wdC 7 = 227700 ∧ wdC 8 = 10681714 ∧ wdC 9 = 207204 ∧ wdC 10 = 10430841 ∧ wdC 11 = 597826347 ∧ wdC 12 = 13507492 ∧ wdC 13 = 14588839 ∧ wdC 14 = 47813385395 ∧ wdC 15 = 11934963 ∧ wdC 16 = 157810 ∧ wdC 17 = 869424179 := by decide +kernel
theorem s_170 {X : Int × (Int → Int)} {d : Nat} {Q : Int → XH → Prop} (hd : 1 ≤ d) (x : Int) (H : XH) (hQ : ∀ r, woP x r → Q r H) : xc X d 170 [(1, x)] H Q := by
  cases d with
  | zero => omega
  | succ d =>
  obtain ⟨w0, w1, w2, w3, w4, w5, w6, w7, w8, w9, w10, w11, w12, w13, w14, w15, w16, w17⟩ := wdC_v
  have no : ¬ x = 13769445 → ¬ x = 11730149 → ¬ x = 190839 → ¬ x = 646368051 → ¬ x = 3058 → ¬ x = 138148 → ¬ x = 191476 → ¬ x = 227700 → ¬ x = 10681714 → ¬ x = 207204 → ¬ x = 10430841 → ¬ x = 597826347 → ¬ x = 13507492 → ¬ x = 14588839 → ¬ x = 47813385395 → ¬ x = 11934963 → ¬ x = 157810 → ¬ x = 869424179 → Q (-1) H := fun n0 n1 n2 n3 n4 n5 n6 n7 n8 n9 n10 n11 n12 n13 n14 n15 n16 n17 => hQ (-1) (Or.inr ⟨rfl, fun j a b e => by
    rcases (show j = 0 ∨ j = 1 ∨ j = 2 ∨ j = 3 ∨ j = 4 ∨ j = 5 ∨ j = 6 ∨ j = 7 ∨ j = 8 ∨ j = 9 ∨ j = 10 ∨ j = 11 ∨ j = 12 ∨ j = 13 ∨ j = 14 ∨ j = 15 ∨ j = 16 ∨ j = 17 by omega) with q | q | q | q | q | q | q | q | q | q | q | q | q | q | q | q | q | q
    · rw [q, w0] at e
      exact n0 e
    · rw [q, w1] at e
      exact n1 e
    · rw [q, w2] at e
      exact n2 e
    · rw [q, w3] at e
      exact n3 e
    · rw [q, w4] at e
      exact n4 e
    · rw [q, w5] at e
      exact n5 e
    · rw [q, w6] at e
      exact n6 e
    · rw [q, w7] at e
      exact n7 e
    · rw [q, w8] at e
      exact n8 e
    · rw [q, w9] at e
      exact n9 e
    · rw [q, w10] at e
      exact n10 e
    · rw [q, w11] at e
      exact n11 e
    · rw [q, w12] at e
      exact n12 e
    · rw [q, w13] at e
      exact n13 e
    · rw [q, w14] at e
      exact n14 e
    · rw [q, w15] at e
      exact n15 e
    · rw [q, w16] at e
      exact n16 e
    · rw [q, w17] at e
      exact n17 e⟩)
  refine U_170 (by omega) x H ?_
  refine ⟨fun c1 => ?_, fun c1 => ?_⟩
  · skip
    refine ⟨fun c2 => ?_, fun c2 => ?_⟩
    · skip
      refine ⟨fun c3 => ?_, fun c3 => ?_⟩
      · skip
        refine ⟨fun c4 => ?_, fun c4 => ?_⟩
        · skip
          refine ⟨fun c5 => ?_, fun c5 => ?_⟩
          · skip
            refine ⟨fun c6 => ?_, fun c6 => ?_⟩
            · skip
              refine ⟨fun c7 => ?_, fun c7 => ?_⟩
              · skip
                refine ⟨fun c8 => ?_, fun c8 => ?_⟩
                · skip
                  refine ⟨fun c9 => ?_, fun c9 => ?_⟩
                  · skip
                    refine ⟨fun c10 => ?_, fun c10 => ?_⟩
                    · skip
                      refine ⟨fun c11 => ?_, fun c11 => ?_⟩
                      · skip
                        refine ⟨fun c12 => ?_, fun c12 => ?_⟩
                        · skip
                          refine ⟨fun c13 => ?_, fun c13 => ?_⟩
                          · skip
                            refine ⟨fun c14 => ?_, fun c14 => ?_⟩
                            · skip
                              refine ⟨fun c15 => ?_, fun c15 => ?_⟩
                              · skip
                                refine ⟨fun c16 => ?_, fun c16 => ?_⟩
                                · skip
                                  refine ⟨fun c17 => ?_, fun c17 => ?_⟩
                                  · skip
                                    refine ⟨fun c18 => ?_, fun c18 => ?_⟩
                                    · skip
                                      exact no (by assumption) (by assumption) (by assumption) (by assumption) (by assumption) (by assumption) (by assumption) (by assumption) (by assumption) (by assumption) (by assumption) (by assumption) (by assumption) (by assumption) (by assumption) (by assumption) (by assumption) (by assumption)
                                    · skip
                                      exact hQ 17 (Or.inl ⟨by decide, by decide, by rw [w17]; omega⟩)
                                  · skip
                                    exact hQ 16 (Or.inl ⟨by decide, by decide, by rw [w16]; omega⟩)
                                · skip
                                  exact hQ 15 (Or.inl ⟨by decide, by decide, by rw [w15]; omega⟩)
                              · skip
                                exact hQ 14 (Or.inl ⟨by decide, by decide, by rw [w14]; omega⟩)
                            · skip
                              exact hQ 13 (Or.inl ⟨by decide, by decide, by rw [w13]; omega⟩)
                          · skip
                            exact hQ 12 (Or.inl ⟨by decide, by decide, by rw [w12]; omega⟩)
                        · skip
                          exact hQ 11 (Or.inl ⟨by decide, by decide, by rw [w11]; omega⟩)
                      · skip
                        exact hQ 10 (Or.inl ⟨by decide, by decide, by rw [w10]; omega⟩)
                    · skip
                      exact hQ 9 (Or.inl ⟨by decide, by decide, by rw [w9]; omega⟩)
                  · skip
                    exact hQ 8 (Or.inl ⟨by decide, by decide, by rw [w8]; omega⟩)
                · skip
                  exact hQ 7 (Or.inl ⟨by decide, by decide, by rw [w7]; omega⟩)
              · skip
                exact hQ 6 (Or.inl ⟨by decide, by decide, by rw [w6]; omega⟩)
            · skip
              exact hQ 5 (Or.inl ⟨by decide, by decide, by rw [w5]; omega⟩)
          · skip
            exact hQ 4 (Or.inl ⟨by decide, by decide, by rw [w4]; omega⟩)
        · skip
          exact hQ 3 (Or.inl ⟨by decide, by decide, by rw [w3]; omega⟩)
      · skip
        exact hQ 2 (Or.inl ⟨by decide, by decide, by rw [w2]; omega⟩)
    · skip
      exact hQ 1 (Or.inl ⟨by decide, by decide, by rw [w1]; omega⟩)
  · skip
    exact hQ 0 (Or.inl ⟨by decide, by decide, by rw [w0]; omega⟩)
