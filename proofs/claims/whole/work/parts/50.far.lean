/-! THE PURE LAYER 20: soils and how far layers are from them -/
theorem sumTo_rngM {f : Int → Int} {n M : Int} (hn : 0 ≤ n) (h : ∀ e, 0 ≤ e → e < n → 0 ≤ f e ∧ f e ≤ M) : 0 ≤ sumTo f n ∧ sumTo f n ≤ M * n := by
  have k := xfor_inv (f := fun e v => v + f e) (b := n) (R := fun j v => 0 ≤ j ∧ 0 ≤ v ∧ v ≤ M * j) (fun j v hj hr => ?_) 0 0 hn ⟨Int.le_refl _, Int.le_refl _, by rw [Int.mul_zero]; exact Int.le_refl _⟩
  · exact k.2
  · have := h j hr.1 hj
    have e : M * (j + 1) = M * j + M := by rw [Int.mul_add, Int.mul_one]
    exact ⟨by omega, by omega, by omega⟩
theorem sumTo_nn {f : Int → Int} {n : Int} (hn : 0 ≤ n) (h : ∀ e, 0 ≤ e → e < n → 0 ≤ f e) : 0 ≤ sumTo f n := by
  have k := xfor_inv (f := fun e v => v + f e) (b := n) (R := fun j v => 0 ≤ j ∧ 0 ≤ v) (fun j v hj hr => ?_) 0 0 hn ⟨Int.le_refl _, Int.le_refl _⟩
  · exact k.2
  · have := h j hr.1 hj
    exact ⟨by omega, by omega⟩
theorem sumTo_ge {f : Int → Int} {n c : Int} (hc : 0 ≤ c ∧ c < n) (h : ∀ e, 0 ≤ e → e < n → 0 ≤ f e) : f c ≤ sumTo f n := by
  have k := sumTo_up (f := f) (f' := fun e => if e = c then 0 else f e) (n := n) (v := 0) hc (if_pos rfl) (fun e _ _ q => if_neg q)
  have k2 := sumTo_nn (f := fun e => if e = c then 0 else f e) (n := n) (by omega) (fun e a b => by
    try dsimp only
    have := h e a b
    split <;> omega)
  omega
theorem slS_sum (w n : Int) (dg am : Int → Int) (c near s : Int) : slS w n dg am c near s = sumTo (fun o => if ¬ dg o = 0 ∧ btw w c o = near then am (o * 5 + s) else 0) n := by
  unfold slS sumTo
  refine xfor_congr (fun j v _ _ => ?_) _
  unfold slF
  dsimp only
  split
  · rfl
  · omega
theorem slS_rng {w n : Int} {dg am : Int → Int} {c near s : Int} (hn : 0 ≤ n ∧ n ≤ 64) (ha : ∀ k, 0 ≤ k → k < 320 → 0 ≤ am k ∧ am k ≤ 9) (hs : 0 ≤ s ∧ s < 5) : 0 ≤ slS w n dg am c near s ∧ slS w n dg am c near s ≤ 576 := by
  rw [slS_sum]
  have k := sumTo_rngM (f := fun o => if ¬ dg o = 0 ∧ btw w c o = near then am (o * 5 + s) else 0) (n := n) (M := 9) hn.1 (fun e a b => by
    have := ha (e * 5 + s) (by omega) (by omega)
    try dsimp only
    split <;> omega)
  omega
theorem slS_ge {w n : Int} {dg am : Int → Int} {c near s o : Int} (hn : 0 ≤ n ∧ n ≤ 64) (ha : ∀ k, 0 ≤ k → k < 320 → 0 ≤ am k ∧ am k ≤ 9) (hs : 0 ≤ s ∧ s < 5) (ho : 0 ≤ o ∧ o < n) (h : ¬ dg o = 0 ∧ btw w c o = near) : am (o * 5 + s) ≤ slS w n dg am c near s := by
  rw [slS_sum]
  have k := sumTo_ge (f := fun o => if ¬ dg o = 0 ∧ btw w c o = near then am (o * 5 + s) else 0) (n := n) ho (fun e a b => by
    have := ha (e * 5 + s) (by omega) (by omega)
    try dsimp only
    split <;> omega)
  rw [if_pos h] at k
  exact k
theorem nrS_at {w n : Int} {dg : Int → Int} {c : Int} (hw : 1 ≤ w ∧ w ≤ 8) (hn : 0 ≤ n ∧ n ≤ 64) (hc : 0 ≤ c ∧ c < 64) : (nrS w n dg c = -1 ∧ ∀ o, 0 ≤ o → o < n → dg o = 0) ∨ (0 ≤ nrS w n dg c ∧ ∃ o, 0 ≤ o ∧ o < n ∧ ¬ dg o = 0 ∧ btw w c o = nrS w n dg c) := by
  have k := xfor_inv (f := nrF w dg c) (b := n) (R := fun j m => 0 ≤ j ∧ ((m = -1 ∧ ∀ o, 0 ≤ o → o < j → dg o = 0) ∨ (0 ≤ m ∧ ∃ o, 0 ≤ o ∧ o < j ∧ ¬ dg o = 0 ∧ btw w c o = m))) (fun j m hj hr => ?_) 0 (-1) hn.1 ⟨Int.le_refl _, Or.inl ⟨rfl, fun o a b => by omega⟩⟩
  · exact k.2
  · obtain ⟨h0, h⟩ := hr
    have hb := btw_rng hw hc (e := j) ⟨h0, by omega⟩
    refine ⟨by omega, ?_⟩
    unfold nrF
    by_cases hd : dg j = 0
    · rw [if_pos hd]
      rcases h with ⟨h1, h2⟩ | ⟨h1, o, o0, o1, o2, o3⟩
      · exact Or.inl ⟨h1, fun o a b => by
          by_cases e : o = j
          · rw [e]; exact hd
          · exact h2 o a (by omega)⟩
      · exact Or.inr ⟨h1, o, o0, by omega, o2, o3⟩
    · rw [if_neg hd]
      by_cases hm : m = -1 ∨ btw w c j < m
      · rw [if_pos hm]
        exact Or.inr ⟨hb.1, j, h0, by omega, hd, rfl⟩
      · rw [if_neg hm]
        rcases h with ⟨h1, h2⟩ | ⟨h1, o, o0, o1, o2, o3⟩
        · exact absurd (Or.inl h1) hm
        · exact Or.inr ⟨h1, o, o0, by omega, o2, o3⟩
theorem xb_congr {c c' : Prop} [Decidable c] [Decidable c'] (h : c ↔ c') : xb c = xb c' := by
  unfold xb
  by_cases k : c
  · rw [if_pos k, if_pos (h.mp k)]
  · rw [if_neg k, if_neg (fun q => k (h.mpr q))]
/-- the soil of a cell, out of the model's row -/
def soF (w n : Int) (g : Int → Int) (c s : Int) : Int := soilF w n (fun e => g (160 + e)) (fun e => g (90 + e)) (fun k => g (230 + k)) c s
def soT (w n : Int) (g : Int → Int) (c : Int) : Int := soilT w n (fun e => g (160 + e)) (fun e => g (90 + e)) (fun k => g (230 + k)) c
def soN (w n : Int) (g : Int → Int) (c : Int) : Int := nrS w n (fun e => g (160 + e)) (srcS n (fun e => g (160 + e)) (fun e => g (90 + e)) 64 c)
theorem soT_F (w n : Int) (g : Int → Int) (c : Int) : soT w n g c = sum5 (soF w n g c) 0 := rfl
theorem soF_rng {w n : Int} {g : Int → Int} (hg : GOk w n g) {c s : Int} (hs : 0 ≤ s ∧ s < 5) : 0 ≤ soF w n g c s ∧ soF w n g c s ≤ 576 := by
  have nn := hg.nn
  exact slS_rng ⟨by omega, nn.2⟩ hg.amb hs
theorem soT_rng {w n : Int} {g : Int → Int} (hg : GOk w n g) (c : Int) : 0 ≤ soT w n g c ∧ soT w n g c ≤ 2880 := by
  have k := sum5_rng (f := soF w n g c) (i := 0) (M := 576) (fun s a b => by
    rw [Int.zero_add]
    exact soF_rng hg ⟨a, b⟩)
  rw [soT_F]
  omega
theorem soT_no {w n : Int} {g : Int → Int} (hg : GOk w n g) {c : Int} (hc : 0 ≤ c ∧ c < n) : soT w n g c < 1 ↔ soN w n g c = -1 := by
  have nn := hg.nn
  have ww := hg.ww
  have hs := srcS_rng (n := n) (dg := fun e => g (160 + e)) (og := fun e => g (90 + e)) 64 c hc
  constructor
  · intro h
    rcases nrS_at (w := w) (n := n) (dg := fun e => g (160 + e)) (c := srcS n (fun e => g (160 + e)) (fun e => g (90 + e)) 64 c) (by omega) (by omega) (by omega) with ⟨h1, _⟩ | ⟨h1, o, o0, o1, o2, o3⟩
    · exact h1
    · exfalso
      have hd := hg.dgb o o0 (by omega)
      have hm := hg.ams o o0 (by omega) (by omega)
      have k : ∀ s, 0 ≤ s ∧ s < 5 → g (230 + (o * 5 + s)) ≤ soF w n g c s := fun s hs => slS_ge (am := fun k => g (230 + k)) ⟨by omega, nn.2⟩ hg.amb hs ⟨o0, o1⟩ ⟨o2, o3⟩
      have k0 := k 0 (by omega)
      have k1 := k 1 (by omega)
      have k2 := k 2 (by omega)
      have k3 := k 3 (by omega)
      have k4 := k 4 (by omega)
      rw [soT_F, sum5_0] at h
      unfold sum5 at hm
      dsimp only at hm
      rw [show 230 + 5 * o = 230 + (o * 5 + 0) by omega, show 230 + (5 * o + 1) = 230 + (o * 5 + 1) by omega, show 230 + (5 * o + 2) = 230 + (o * 5 + 2) by omega, show 230 + (5 * o + 3) = 230 + (o * 5 + 3) by omega, show 230 + (5 * o + 4) = 230 + (o * 5 + 4) by omega] at hm
      omega
  · intro h
    have z : ∀ s, soF w n g c s = 0 := fun s => by
      unfold soF soilF
      rw [show nrS w n (fun e => g (160 + e)) (srcS n (fun e => g (160 + e)) (fun e => g (90 + e)) 64 c) = -1 from h]
      exact slS_none (by omega) (by omega) (by omega)
    rw [soT_F, sum5_0, z, z, z, z, z]
    omega
/-- how far layer l is from the soil of cell c; -1 without soil -/
def frV (w n : Int) (g : Int → Int) (l c : Int) : Int := if soT w n g c < 1 then -1 else farV (fun s => g (560 + 5 * l + s)) (soF w n g c)
def alB (w n : Int) (g : Int → Int) (l c : Int) : Int := if ¬ frV w n g l c = -1 ∧ frV w n g l c ≤ g 6 then 1 else 0
theorem alB_01 (w n : Int) (g : Int → Int) (l c : Int) : 0 ≤ alB w n g l c ∧ alB w n g l c ≤ 1 := by
  unfold alB
  split <;> omega
theorem frV_rng {w n : Int} {g : Int → Int} (hg : GOk w n g) {l c : Int} (hl : 0 ≤ l ∧ l < g 1) : -1 ≤ frV w n g l c ∧ frV w n g l c ≤ 1000 := by
  unfold frV
  split
  · omega
  · have k := farV_rng (a := fun s => g (560 + 5 * l + s)) (b := soF w n g c) (fun s a b => by
      have := hg.lya (5 * l + s) (by omega) (by omega)
      rw [← Int.add_assoc] at this
      exact this.1) (fun s a b => (soF_rng hg ⟨a, b⟩).1)
    omega
theorem frV_no {w n : Int} {g : Int → Int} (hg : GOk w n g) {l c : Int} (hl : 0 ≤ l ∧ l < g 1) : frV w n g l c = -1 ↔ soT w n g c < 1 := by
  constructor
  · intro h
    unfold frV at h
    split at h
    · assumption
    · exfalso
      have k := farV_rng (a := fun s => g (560 + 5 * l + s)) (b := soF w n g c) (fun s a b => by
        have := hg.lya (5 * l + s) (by omega) (by omega)
        rw [← Int.add_assoc] at this
        exact this.1) (fun s a b => (soF_rng hg ⟨a, b⟩).1)
      omega
  · intro h
    exact if_pos h
/-- the model's soil -/
theorem s_43g {X : Int × (Int → Int)} {d : Nat} {Q : Int → XH → Prop} (hd : 4 ≤ d) (c : Int) (H : XH) (hg : GOk (H 67 0) (H 67 1) (H 68)) (pc : 0 ≤ c ∧ c < H 67 1) (hQ : ∀ h1 : XH, (frM H h1 ∧ h1 67 14 = soT (H 67 0) (H 67 1) (H 68) c ∧ ∀ s, 0 ≤ s → s < 5 → h1 76 s = soF (H 67 0) (H 67 1) (H 68) c s) → Q (xb (¬ soT (H 67 0) (H 67 1) (H 68) c < 1)) h1) : xc X d 43 [(2, 67), (0, c)] H Q := by
  have nn := hg.nn
  have ww := hg.ww
  refine s_43 hd c H (by omega) (by omega) hg.dgb hg.ogr hg.amb pc (srcE_64 nn.2 (fun e a b => hg.ogr e a (by omega)) hg.ogE pc.1 pc.2) ?_
  have e : xb (¬ nrS (H 67 0) (H 67 1) (fun e => H 68 (160 + e)) (srcS (H 67 1) (fun e => H 68 (160 + e)) (fun e => H 68 (90 + e)) 64 c) = -1) = xb (¬ soT (H 67 0) (H 67 1) (H 68) c < 1) := by
    exact xb_congr (not_congr (soT_no hg pc).symm)
  rw [e]
  refine hQ _ ⟨frM_set (frM_67 (frM_refl H) (by decide)) (by decide), ?_, fun s a b => ?_⟩
  · rw [xset_o (by decide), xup_self]
    rfl
  · rw [xset_at, if_pos ⟨a, b⟩]
    rfl

theorem s_64b {X : Int × (Int → Int)} {d : Nat} {Q : Int → XH → Prop} (hd : 1 ≤ d) (l : Int) (H : XH) (pl : 0 ≤ l ∧ l < 8) (hQ : ∀ h1 : XH, (frM H h1 ∧ (∀ s, 0 ≤ s → s < 5 → h1 77 s = H 68 (560 + 5 * l + s)) ∧ ∀ o, ¬ o = 77 → h1 o = H o) → Q 0 h1) : xc X d 64 [(2, 67), (0, l)] H Q :=
  s_64 hd l H pl (fun H' a b c => hQ H' ⟨a, b, c⟩)

theorem U_66 {X : Int × (Int → Int)} {d : Nat} {Q : Int → XH → Prop} (hd : 4 ≤ d) (l c : Int) (H : XH) (h : (GOk (H 67 0) (H 67 1) (H 68)) ∧ (0 ≤ c ∧ c < H 67 1) ∧ (∀ (h1 : XH), (frM H h1 ∧ h1 67 14 = soT (H 67 0) (H 67 1) (H 68) c ∧ ∀ s, 0 ≤ s → s < 5 → h1 76 s = soF (H 67 0) (H 67 1) (H 68) c s) → (((¬ soT (H 67 0) (H 67 1) (H 68) c < 1)) → (0 ≤ l ∧ l < 8) ∧ (∀ (h2 : XH), (frM h1 h2 ∧ (∀ s, 0 ≤ s → s < 5 → h2 77 s = h1 68 (560 + 5 * l + s)) ∧ ∀ o, ¬ o = 77 → h2 o = h1 o) → xq X d 66 Q 17 [(0, (2, 67)), (3, (0, 0))] [] h2)) ∧ (¬ ((¬ soT (H 67 0) (H 67 1) (H 68) c < 1)) → Q (-1) h1))) : xc X (d + 1) 66 [(2, 67), (0, l), (0, c)] H Q := by
  refine ⟨rfl, ?_⟩
  show xq X d 66 Q 100000 [(0, (2, 67)), (1, (0, l)), (2, (0, c))] [] H
  refine xq_run [5, 15, 17, 45] 300 ?_
  show xWM (xE X) xMC d 43 [(2, 67), (0, c)] xKZ H _
  refine xc_in (s_43g (by omega) c H (h.1) (h.2.1) ?_)
  intro h1 q_0
  replace h := h.2.2 h1 q_0
  show xq X d 66 Q 5 [(0, (2, 67)), (1, (0, l)), (2, (0, c))] [(0, xb (¬ soT (H 67 0) (H 67 1) (H 68) c < 1))] h1
  refine xq_run [5, 15, 17, 45] 300 ?_
  show ((¬ xb (¬ soT (H 67 0) (H 67 1) (H 68) c < 1) = 0) → xWM (xE X) xMC d 64 [(2, 67), (0, l)] xKZ h1 _) ∧ (¬ (¬ xb (¬ soT (H 67 0) (H 67 1) (H 68) c < 1) = 0) → xfR 0 (-1) ∧ xKZ = xKZ ∧ Q (-1) h1)
  refine ⟨fun k_ => ?_, fun k_ => ?_⟩
  · replace h := h.1 (xbe_1.mp k_)
    refine xc_in (s_64b (by omega) l h1 (h.1) ?_)
    intro h2 q_0
    replace h := h.2 h2 q_0
    show xq X d 66 Q 15 [(0, (2, 67)), (1, (0, l)), (2, (0, c))] [] h2
    refine xq_run [5, 15, 17, 45] 300 ?_
    show xq X d 66 Q 17 [(0, (2, 67)), (3, (0, 0))] [] h2
    exact h
  · replace h := h.2 (xbe_n.mp k_)
    exact ⟨trivial, rfl, h⟩
theorem U_66_17 {X : Int × (Int → Int)} {d : Nat} {Q : Int → XH → Prop} (hd : 1 ≤ d) (v3 : Int) (H : XH) (h : ((5 ≤ v3) → (∀ s, 0 ≤ s → s < 5 → 0 ≤ H 77 s ∧ H 77 s ≤ 1000) ∧ (∀ s, 0 ≤ s → s < 5 → 0 ≤ H 78 s ∧ H 78 s ≤ 20000000) ∧ (1 ≤ sum5 (H 77) 0) ∧ (1 ≤ sum5 (H 78) 0) ∧ (Q (farV (H 77) (H 78)) H)) ∧ (¬ (5 ≤ v3) → ((0 : Int) ≤ v3 ∧ (v3 : Int) < 5) ∧ ((0 : Int) ≤ v3 ∧ (v3 : Int) < 5) ∧ (xI (v3 + 1)) ∧ xq X d 66 Q 17 [(0, (2, 67)), (3, (0, v3 + 1))] [] (xup H 78 v3 (H 76 v3)))) : xq X d 66 Q 17 [(0, (2, 67)), (3, (0, v3))] [] H := by
  show xq X d 66 Q 17 [(0, (2, 67)), (3, (0, v3))] [] H
  refine xq_run [5, 15, 17, 45] 300 ?_
  show ((5 ≤ v3) → xWM (xE X) xMC d 65 [(2, 67)] xKZ H _) ∧ (¬ (5 ≤ v3) → ((0 : Int) ≤ v3 ∧ (v3 : Int) < 5) ∧ ((0 : Int) ≤ v3 ∧ (v3 : Int) < 5) ∧ (xI (v3 + 1)) ∧ xq X d 66 Q 17 [(0, (2, 67)), (3, (0, v3 + 1))] [] (xup H 78 v3 (H 76 v3)))
  refine ⟨fun k_ => ?_, fun k_ => ?_⟩
  · replace h := h.1 k_
    refine xc_in (s_65 (by omega) H (h.1) (h.2.1) (h.2.2.1) (h.2.2.2.1) ?_)
    replace h := h.2.2.2.2
    show xq X d 66 Q 45 [(0, (2, 67)), (3, (0, v3))] [(0, farV (H 77) (H 78))] H
    refine xq_run [5, 15, 17, 45] 300 ?_
    show xfR 0 (farV (H 77) (H 78)) ∧ xKZ = xKZ ∧ Q (farV (H 77) (H 78)) H
    exact ⟨trivial, rfl, h⟩
  · replace h := h.2 k_
    refine ⟨h.1, ?_⟩
    replace h := h.2
    refine ⟨h.1, ?_⟩
    replace h := h.2
    refine ⟨h.1, ?_⟩
    replace h := h.2
    exact h

theorem s_66 {X : Int × (Int → Int)} {d : Nat} {Q : Int → XH → Prop} (hd : 5 ≤ d) (l c : Int) (H : XH) (hg : GOk (H 67 0) (H 67 1) (H 68)) (pl : 0 ≤ l ∧ l < H 68 1) (pc : 0 ≤ c ∧ c < H 67 1) (hQ : ∀ h1 : XH, frM H h1 → Q (frV (H 67 0) (H 67 1) (H 68) l c) h1) : xc X d 66 [(2, 67), (0, l), (0, c)] H Q := by
  cases d with
  | zero => omega
  | succ d =>
  have ly := hg.lyb
  refine U_66 (by omega) l c H ?_
  refine ⟨?_, ?_⟩
  · first | omega | exact hg | (unfold xI; omega)
  refine ⟨?_, ?_⟩
  · first | omega | exact hg | (unfold xI; omega)
  intro h3 c1
  refine ⟨fun c2 => ?_, fun c2 => ?_⟩
  · skip
    refine ⟨?_, ?_⟩
    · first | omega | exact hg | (unfold xI; omega)
    intro h4 c3
    refine xlR 5 (fun i (H' : XH) => 0 ≤ i ∧ frM H H' ∧ (∀ s, 0 ≤ s → s < 5 → H' 76 s = soF (H 67 0) (H 67 1) (H 68) c s) ∧ (∀ s, 0 ≤ s → s < 5 → H' 77 s = H 68 (560 + 5 * l + s)) ∧ ∀ s, 0 ≤ s → s < i → s < 5 → H' 78 s = soF (H 67 0) (H 67 1) (H 68) c s) (fun i H' => xq X d 66 Q 17 [(0, (2, 67)), (3, (0, i))] [] H') (fun i H' hb hi => ?_) (fun i H' hb hi hk => ?_) 0 _ ⟨Int.le_refl _, frM_trans c1.1 c3.1, fun s a b => by rw [c3.2.2 76 (by decide)]; exact c1.2.2 s a b, fun s a b => by rw [c3.2.1 s a b, frM_o c1.1 68 (by decide) (by decide)], fun s a b => by omega⟩
    · obtain ⟨h0, h1, h2, h3, h4⟩ := hi
      have e1 : ∀ s, 0 ≤ s → s < 5 → H' 78 s = soF (H 67 0) (H 67 1) (H 68) c s := fun s a b => h4 s a (by omega) b
      have ev : farV (H' 77) (H' 78) = frV (H 67 0) (H 67 1) (H 68) l c := by
        unfold frV
        rw [if_neg c2]
        exact farV_congr h3 e1
      refine U_66_17 (by omega) i H' ⟨fun _ => ⟨fun s a b => ?_, fun s a b => ?_, ?_, ?_, ?_⟩, fun q => absurd hb q⟩
      · have k := hg.lya (5 * l + s) (by omega) (by omega)
        rw [h3 s a b]
        rw [← Int.add_assoc] at k
        omega
      · have k := soF_rng hg (c := c) (s := s) ⟨a, b⟩
        rw [e1 s a b]
        omega
      · have k := hg.lys l pl.1 pl.2
        rw [sum5_0, h3 0 (by decide) (by decide), h3 1 (by decide) (by decide), h3 2 (by decide) (by decide), h3 3 (by decide) (by decide), h3 4 (by decide) (by decide)]
        unfold sum5 at k
        dsimp only at k
        rw [← Int.add_assoc, ← Int.add_assoc, ← Int.add_assoc, ← Int.add_assoc] at k
        rw [Int.add_zero]
        exact k
      · rw [sum5_0, e1 0 (by decide) (by decide), e1 1 (by decide) (by decide), e1 2 (by decide) (by decide), e1 3 (by decide) (by decide), e1 4 (by decide) (by decide)]
        rw [soT_F, sum5_0] at c2
        omega
      · rw [ev]
        exact hQ H' h1
    · obtain ⟨h0, h1, h2, h3, h4⟩ := hi
      have hk' := hk (xup H' 78 i (H' 76 i)) ⟨by omega, frM_up h1 (by decide), fun s a b => h2 s a b, fun s a b => h3 s a b, fun s a b c' => by
        rw [xup_eq]
        split
        · next e => rw [e]; exact h2 i h0 hb
        · exact h4 s a (by omega) c'⟩
      refine U_66_17 (by omega) i H' ?_
      refine ⟨fun e1 => ?_, fun e1 => ?_⟩
      · skip
        refine ⟨?_, ?_⟩
        · first | omega | (unfold xI; omega) | (exfalso; omega) | (exact absurd hb (by omega))
        refine ⟨?_, ?_⟩
        · first | omega | (unfold xI; omega) | (exfalso; omega) | (exact absurd hb (by omega))
        refine ⟨?_, ?_⟩
        · first | omega | (unfold xI; omega) | (exfalso; omega) | (exact absurd hb (by omega))
        refine ⟨?_, ?_⟩
        · first | omega | (unfold xI; omega) | (exfalso; omega) | (exact absurd hb (by omega))
        first | exact hk' | (exfalso; omega)
      · skip
        refine ⟨?_, ?_⟩
        · first | omega | (unfold xI; omega) | (exfalso; omega) | (exact absurd hb (by omega))
        refine ⟨?_, ?_⟩
        · first | omega | (unfold xI; omega) | (exfalso; omega) | (exact absurd hb (by omega))
        refine ⟨?_, ?_⟩
        · first | omega | (unfold xI; omega) | (exfalso; omega) | (exact absurd hb (by omega))
        first | exact hk' | (exfalso; omega)
  · skip
    rw [show (-1 : Int) = frV (H 67 0) (H 67 1) (H 68) l c from (if_pos (Classical.not_not.mp c2)).symm]
    exact hQ _ c1.1

theorem U_73 {X : Int × (Int → Int)} {d : Nat} {Q : Int → XH → Prop} (hd : 5 ≤ d) (l c : Int) (H : XH) (h : (GOk (H 67 0) (H 67 1) (H 68)) ∧ (0 ≤ l ∧ l < H 68 1) ∧ (0 ≤ c ∧ c < H 67 1) ∧ (∀ (h7 : XH), (frM H h7) → ((frV (H 67 0) (H 67 1) (H 68) l c = (-1)) → Q 0 h7) ∧ (¬ (frV (H 67 0) (H 67 1) (H 68) l c = (-1)) → ((h7 68 6 < frV (H 67 0) (H 67 1) (H 68) l c) → Q 0 h7) ∧ (¬ (h7 68 6 < frV (H 67 0) (H 67 1) (H 68) l c) → Q 1 h7)))) : xc X (d + 1) 73 [(2, 67), (0, l), (0, c)] H Q := by
  refine ⟨rfl, ?_⟩
  show xq X d 73 Q 100000 [(0, (2, 67)), (1, (0, l)), (2, (0, c))] [] H
  refine xq_run [6] 300 ?_
  show xWM (xE X) xMC d 66 [(2, 67), (0, l), (0, c)] xKZ H _
  refine xc_in (s_66 (by omega) l c H (h.1) (h.2.1) (h.2.2.1) ?_)
  intro h7 q_0
  replace h := h.2.2.2 h7 q_0
  show xq X d 73 Q 6 [(0, (2, 67)), (1, (0, l)), (2, (0, c))] [(0, frV (H 67 0) (H 67 1) (H 68) l c)] h7
  refine xq_run [6] 300 ?_
  show ((frV (H 67 0) (H 67 1) (H 68) l c = (-1)) → xfR 3 0 ∧ xKZ = xKZ ∧ Q 0 h7) ∧ (¬ (frV (H 67 0) (H 67 1) (H 68) l c = (-1)) → ((0 : Int) ≤ 6 ∧ (6 : Int) < 1180) ∧ ((h7 68 6 < frV (H 67 0) (H 67 1) (H 68) l c) → xfR 3 0 ∧ xKZ = xKZ ∧ Q 0 h7) ∧ (¬ (h7 68 6 < frV (H 67 0) (H 67 1) (H 68) l c) → xfR 3 1 ∧ xKZ = xKZ ∧ Q 1 h7))
  refine ⟨fun k_ => ?_, fun k_ => ?_⟩
  · replace h := h.1 k_
    exact ⟨xfR3_0, rfl, h⟩
  · replace h := h.2 k_
    refine ⟨⟨by decide, by decide⟩, ?_⟩
    refine ⟨fun k_ => ?_, fun k_ => ?_⟩
    · replace h := h.1 k_
      exact ⟨xfR3_0, rfl, h⟩
    · replace h := h.2 k_
      exact ⟨xfR3_1, rfl, h⟩

theorem s_73 {X : Int × (Int → Int)} {d : Nat} {Q : Int → XH → Prop} (hd : 6 ≤ d) (l c : Int) (H : XH) (hg : GOk (H 67 0) (H 67 1) (H 68)) (pl : 0 ≤ l ∧ l < H 68 1) (pc : 0 ≤ c ∧ c < H 67 1) (hQ : ∀ h1 : XH, frM H h1 → Q (alB (H 67 0) (H 67 1) (H 68) l c) h1) : xc X d 73 [(2, 67), (0, l), (0, c)] H Q := by
  cases d with
  | zero => omega
  | succ d =>
  refine U_73 (by omega) l c H ?_
  refine ⟨?_, ?_⟩
  · first | omega | exact hg | (unfold xI; omega)
  refine ⟨?_, ?_⟩
  · first | omega | exact hg | (unfold xI; omega)
  refine ⟨?_, ?_⟩
  · first | omega | exact hg | (unfold xI; omega)
  intro h8 c1
  refine ⟨fun c2 => ?_, fun c2 => ?_⟩
  · skip
    have k := hQ _ c1
    unfold alB at k
    have k68 := congrFun (frM_o c1 68 (by decide) (by decide)) 6
    first | (rw [if_pos (by omega)] at k; exact k) | (rw [if_neg (by omega)] at k; exact k)
  · skip
    refine ⟨fun c3 => ?_, fun c3 => ?_⟩
    · skip
      have k := hQ _ c1
      unfold alB at k
      have k68 := congrFun (frM_o c1 68 (by decide) (by decide)) 6
      first | (rw [if_pos (by omega)] at k; exact k) | (rw [if_neg (by omega)] at k; exact k)
    · skip
      have k := hQ _ c1
      unfold alB at k
      have k68 := congrFun (frM_o c1 68 (by decide) (by decide)) 6
      first | (rw [if_pos (by omega)] at k; exact k) | (rw [if_neg (by omega)] at k; exact k)
