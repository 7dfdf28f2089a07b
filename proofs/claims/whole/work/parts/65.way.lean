/-! THE PURE LAYER 35: ways: what they cost -/
/-- only the rows that how far mud is works with may be others -/
def frF (H H' : XH) : Prop := (∀ o, ¬ o = 67 → ¬ (76 ≤ o ∧ o ≤ 78) → H' o = H o) ∧ ∀ k, ¬ k = 14 → H' 67 k = H 67 k
theorem frF_refl (H : XH) : frF H H := ⟨fun _ _ _ => rfl, fun _ _ => rfl⟩
theorem frF_trans {H H' H'' : XH} (h : frF H H') (h' : frF H' H'') : frF H H'' := ⟨fun o a b => (h'.1 o a b).trans (h.1 o a b), fun k a => (h'.2 k a).trans (h.2 k a)⟩
theorem frF_up {H H' : XH} {a i x : Int} (h : frF H H') (ha : 76 ≤ a ∧ a ≤ 78) : frF H (xup H' a i x) :=
  ⟨fun o p q => by rw [xup_ne (by omega)]; exact h.1 o p q, fun k q => by rw [xup_ne (by omega)]; exact h.2 k q⟩
theorem frF_M {H H' : XH} (h : frF H H') : frM H H' := ⟨fun o a b => h.1 o a (by omega), fun k a => h.2 k (by omega)⟩

theorem U_66_h {X : Int × (Int → Int)} {d : Nat} {Q : Int → XH → Prop} (hd : 4 ≤ d) (l c : Int) (H : XH) (h : (GOk (H 67 0) (H 67 1) (H 68)) ∧ (0 ≤ c ∧ c < H 67 1) ∧ (∀ (h346 : XH), (frM H h346 ∧ h346 67 14 = soT (H 67 0) (H 67 1) (H 68) c ∧ (∀ s, 0 ≤ s → s < 5 → h346 76 s = soF (H 67 0) (H 67 1) (H 68) c s) ∧ (∀ o, ¬ o = 67 → ¬ o = 76 → h346 o = H o) ∧ ∀ k, ¬ k = 14 → h346 67 k = H 67 k) → (((¬ soT (H 67 0) (H 67 1) (H 68) c < 1)) → (0 ≤ l ∧ l < 8) ∧ (∀ (h347 : XH), (frM h346 h347 ∧ (∀ s, 0 ≤ s → s < 5 → h347 77 s = h346 68 (560 + 5 * l + s)) ∧ ∀ o, ¬ o = 77 → h347 o = h346 o) → xq X d 66 Q 17 [(0, (2, 67)), (3, (0, 0))] [] h347)) ∧ (¬ ((¬ soT (H 67 0) (H 67 1) (H 68) c < 1)) → Q (-1) h346))) : xc X (d + 1) 66 [(2, 67), (0, l), (0, c)] H Q := by
  refine ⟨rfl, ?_⟩
  show xq X d 66 Q 100000 [(0, (2, 67)), (1, (0, l)), (2, (0, c))] [] H
  refine xq_run [5, 15, 17, 45] 300 ?_
  show xWM (xE X) xMC d 43 [(2, 67), (0, c)] xKZ H _
  refine xc_in (s_43h (by omega) c H (h.1) (h.2.1) ?_)
  intro h346 q_0
  replace h := h.2.2 h346 q_0
  show xq X d 66 Q 5 [(0, (2, 67)), (1, (0, l)), (2, (0, c))] [(0, xb (¬ soT (H 67 0) (H 67 1) (H 68) c < 1))] h346
  refine xq_run [5, 15, 17, 45] 300 ?_
  show ((¬ xb (¬ soT (H 67 0) (H 67 1) (H 68) c < 1) = 0) → xWM (xE X) xMC d 64 [(2, 67), (0, l)] xKZ h346 _) ∧ (¬ (¬ xb (¬ soT (H 67 0) (H 67 1) (H 68) c < 1) = 0) → xfR 0 (-1) ∧ xKZ = xKZ ∧ Q (-1) h346)
  refine ⟨fun k_ => ?_, fun k_ => ?_⟩
  · replace h := h.1 (xbe_1.mp k_)
    refine xc_in (s_64b (by omega) l h346 (h.1) ?_)
    intro h347 q_0
    replace h := h.2 h347 q_0
    show xq X d 66 Q 15 [(0, (2, 67)), (1, (0, l)), (2, (0, c))] [] h347
    refine xq_run [5, 15, 17, 45] 300 ?_
    show xq X d 66 Q 17 [(0, (2, 67)), (3, (0, 0))] [] h347
    exact h
  · replace h := h.2 (xbe_n.mp k_)
    exact ⟨trivial, rfl, h⟩
theorem U_66_17_h {X : Int × (Int → Int)} {d : Nat} {Q : Int → XH → Prop} (hd : 1 ≤ d) (v3 : Int) (H : XH) (h : ((5 ≤ v3) → (∀ s, 0 ≤ s → s < 5 → 0 ≤ H 77 s ∧ H 77 s ≤ 1000) ∧ (∀ s, 0 ≤ s → s < 5 → 0 ≤ H 78 s ∧ H 78 s ≤ 20000000) ∧ (1 ≤ sum5 (H 77) 0) ∧ (1 ≤ sum5 (H 78) 0) ∧ (Q (farV (H 77) (H 78)) H)) ∧ (¬ (5 ≤ v3) → ((0 : Int) ≤ v3 ∧ (v3 : Int) < 5) ∧ ((0 : Int) ≤ v3 ∧ (v3 : Int) < 5) ∧ (xI (v3 + 1)) ∧ xq X d 66 Q 17 [(0, (2, 67)), (3, (0, v3 + 1))] [] (xup H 78 v3 (H 76 v3)))) : xq X d 66 Q 17 [(0, (2, 67)), (3, (0, v3))] [] H := by
  show xq X d 66 Q 17 [(0, (2, 67)), (3, (0, v3))] [] H
  refine xq_run [5, 15, 17, 45] 300 ?_
  show ((5 ≤ v3) → xWM (xE X) xMC d 65 [(2, 67)] xKZ H _) ∧ (¬ (5 ≤ v3) → ((0 : Int) ≤ v3 ∧ (v3 : Int) < 5) ∧ ((0 : Int) ≤ v3 ∧ (v3 : Int) < 5) ∧ (xI (v3 + 1)) ∧ xq X d 66 Q 17 [(0, (2, 67)), (3, (0, v3 + 1))] [] (xup H 78 v3 (H 76 v3)))
  refine ⟨fun k_ => ?_, fun k_ => ?_⟩
  · replace h := h.1 k_
    refine xc_in (s_65 (by omega) H (h.1) (h.2.1) (h.2.2.1) (h.2.2.2.1) ?_)
    replace h := h.2.2.2.2
    show xq X d 66 Q 45 [(0, (2, 67)), (3, (0, v3))] [(0, farV (H 77) (H 78))] H
    refine xq_run [5, 15, 17, 45] 300 ?_
    show xfR 0 (farV (H 77) (H 78)) ∧ xKZ = xKZ ∧ Q (farV (H 77) (H 78)) H
    exact ⟨trivial, rfl, h⟩
  · replace h := h.2 k_
    refine ⟨h.1, ?_⟩
    replace h := h.2
    refine ⟨h.1, ?_⟩
    replace h := h.2
    refine ⟨h.1, ?_⟩
    replace h := h.2
    exact h

theorem s_66h {X : Int × (Int → Int)} {d : Nat} {Q : Int → XH → Prop} (hd : 5 ≤ d) (l c : Int) (H : XH) (hg : GOk (H 67 0) (H 67 1) (H 68)) (pl : 0 ≤ l ∧ l < H 68 1) (pc : 0 ≤ c ∧ c < H 67 1) (hQ : ∀ h1 : XH, frF H h1 → Q (frV (H 67 0) (H 67 1) (H 68) l c) h1) : xc X d 66 [(2, 67), (0, l), (0, c)] H Q := by
  cases d with
  | zero => omega
  | succ d =>
  have ly := hg.lyb
  refine U_66_h (by omega) l c H ?_
  refine ⟨?_, ?_⟩
  · first | omega | exact hg | (unfold xI; omega)
  refine ⟨?_, ?_⟩
  · first | omega | exact hg | (unfold xI; omega)
  intro h348 c1
  have g1 : frF H h348 := ⟨fun o a b => c1.2.2.2.1 o a (by omega), c1.2.2.2.2⟩
  refine ⟨fun c2 => ?_, fun c2 => ?_⟩
  · skip
    refine ⟨?_, ?_⟩
    · first | omega | exact hg | (unfold xI; omega)
    intro h349 c3
    have g3 : frF _ h349 := ⟨fun o a b => c3.2.2 o (by omega), fun k _ => congrFun (c3.2.2 67 (by decide)) k⟩
    refine xlR 5 (fun i (H' : XH) => 0 ≤ i ∧ frF H H' ∧ (∀ s, 0 ≤ s → s < 5 → H' 76 s = soF (H 67 0) (H 67 1) (H 68) c s) ∧ (∀ s, 0 ≤ s → s < 5 → H' 77 s = H 68 (560 + 5 * l + s)) ∧ ∀ s, 0 ≤ s → s < i → s < 5 → H' 78 s = soF (H 67 0) (H 67 1) (H 68) c s) (fun i H' => xq X d 66 Q 17 [(0, (2, 67)), (3, (0, i))] [] H') (fun i H' hb hi => ?_) (fun i H' hb hi hk => ?_) 0 _ ⟨Int.le_refl _, frF_trans g1 g3, fun s a b => by rw [c3.2.2 76 (by decide)]; exact c1.2.2.1 s a b, fun s a b => by rw [c3.2.1 s a b, g1.1 68 (by decide) (by decide)], fun s a b => by omega⟩
    · obtain ⟨h0, h1, h2, h3, h4⟩ := hi
      have e1 : ∀ s, 0 ≤ s → s < 5 → H' 78 s = soF (H 67 0) (H 67 1) (H 68) c s := fun s a b => h4 s a (by omega) b
      have ev : farV (H' 77) (H' 78) = frV (H 67 0) (H 67 1) (H 68) l c := by
        unfold frV
        rw [if_neg c2]
        exact farV_congr h3 e1
      refine U_66_17_h (by omega) i H' ⟨fun _ => ⟨fun s a b => ?_, fun s a b => ?_, ?_, ?_, ?_⟩, fun q => absurd hb q⟩
      · have k := hg.lya (5 * l + s) (by omega) (by omega)
        rw [h3 s a b]
        rw [← Int.add_assoc] at k
        omega
      · have k := soF_rng hg (c := c) (s := s) ⟨a, b⟩
        rw [e1 s a b]
        omega
      · have k := hg.lys l pl.1 pl.2
        rw [sum5_0, h3 0 (by decide) (by decide), h3 1 (by decide) (by decide), h3 2 (by decide) (by decide), h3 3 (by decide) (by decide), h3 4 (by decide) (by decide)]
        unfold sum5 at k
        dsimp only at k
        rw [← Int.add_assoc, ← Int.add_assoc, ← Int.add_assoc, ← Int.add_assoc] at k
        rw [Int.add_zero]
        exact k
      · rw [sum5_0, e1 0 (by decide) (by decide), e1 1 (by decide) (by decide), e1 2 (by decide) (by decide), e1 3 (by decide) (by decide), e1 4 (by decide) (by decide)]
        rw [soT_F, sum5_0] at c2
        omega
      · rw [ev]
        exact hQ H' h1
    · obtain ⟨h0, h1, h2, h3, h4⟩ := hi
      have hk' := hk (xup H' 78 i (H' 76 i)) ⟨by omega, frF_up h1 (by decide), fun s a b => h2 s a b, fun s a b => h3 s a b, fun s a b c' => by
        rw [xup_eq]
        split
        · next e => rw [e]; exact h2 i h0 hb
        · exact h4 s a (by omega) c'⟩
      refine U_66_17_h (by omega) i H' ?_
      refine ⟨fun e1 => ?_, fun e1 => ?_⟩
      · skip
        refine ⟨?_, ?_⟩
        · first | omega | (unfold xI; omega) | (exfalso; omega) | (exact absurd hb (by omega))
        refine ⟨?_, ?_⟩
        · first | omega | (unfold xI; omega) | (exfalso; omega) | (exact absurd hb (by omega))
        refine ⟨?_, ?_⟩
        · first | omega | (unfold xI; omega) | (exfalso; omega) | (exact absurd hb (by omega))
        refine ⟨?_, ?_⟩
        · first | omega | (unfold xI; omega) | (exfalso; omega) | (exact absurd hb (by omega))
        first | exact hk' | (exfalso; omega)
      · skip
        refine ⟨?_, ?_⟩
        · first | omega | (unfold xI; omega) | (exfalso; omega) | (exact absurd hb (by omega))
        refine ⟨?_, ?_⟩
        · first | omega | (unfold xI; omega) | (exfalso; omega) | (exact absurd hb (by omega))
        refine ⟨?_, ?_⟩
        · first | omega | (unfold xI; omega) | (exfalso; omega) | (exact absurd hb (by omega))
        first | exact hk' | (exfalso; omega)
  · skip
    rw [show (-1 : Int) = frV (H 67 0) (H 67 1) (H 68) l c from (if_pos (Classical.not_not.mp c2)).symm]
    exact hQ _ g1

/-- the least that is not -1, and where it is first -/
def mnR (ct : Int → Int) : Nat → Int
  | 0 => -1
  | j + 1 => if ct j = -1 then mnR ct j else if mnR ct j = -1 ∨ ct j < mnR ct j then ct j else mnR ct j
def mnB (ct : Int → Int) : Nat → Int
  | 0 => -1
  | j + 1 => if ct j = -1 then mnB ct j else if mnR ct j = -1 ∨ ct j < mnR ct j then (j : Int) else mnB ct j
theorem mn_at {ct : Int → Int} : ∀ j : Nat, (∀ e : Int, 0 ≤ e → e < j → -1 ≤ ct e) → (mnR ct j = -1 ∧ mnB ct j = -1 ∧ ∀ e : Int, 0 ≤ e → e < j → ct e = -1) ∨ ((0 ≤ mnB ct j ∧ mnB ct j < j) ∧ ct (mnB ct j) = mnR ct j ∧ 0 ≤ mnR ct j ∧ (∀ e : Int, 0 ≤ e → e < j → ct e = -1 ∨ mnR ct j ≤ ct e) ∧ ∀ e : Int, 0 ≤ e → e < mnB ct j → ct e = -1 ∨ mnR ct j < ct e)
  | 0, _ => Or.inl ⟨rfl, rfl, fun e a b => by omega⟩
  | j + 1, h => by
    have ih := mn_at j (fun e a b => h e a (by omega))
    have hj := h j (by omega) (by omega)
    unfold mnR mnB
    by_cases q : ct j = -1
    · rw [if_pos q, if_pos q]
      rcases ih with ⟨a, b, c⟩ | ⟨a, b, c, e, f⟩
      · exact Or.inl ⟨a, b, fun x x0 x1 => by
          by_cases y : x = j
          · rw [y]; exact q
          · exact c x x0 (by omega)⟩
      · exact Or.inr ⟨⟨a.1, by omega⟩, b, c, fun x x0 x1 => by
          by_cases y : x = j
          · rw [y]; exact Or.inl q
          · exact e x x0 (by omega), f⟩
    · rw [if_neg q, if_neg q]
      by_cases q2 : mnR ct j = -1 ∨ ct j < mnR ct j
      · rw [if_pos q2, if_pos q2]
        refine Or.inr ⟨⟨by omega, by omega⟩, rfl, by omega, fun x x0 x1 => ?_, fun x x0 x1 => ?_⟩
        · by_cases y : x = j
          · rw [y]; exact Or.inr (Int.le_refl _)
          · rcases ih with ⟨a, b, c⟩ | ⟨a, b, c, e, f⟩
            · exact Or.inl (c x x0 (by omega))
            · rcases e x x0 (by omega) with z | z
              · exact Or.inl z
              · exact Or.inr (by omega)
        · rcases ih with ⟨a, b, c⟩ | ⟨a, b, c, e, f⟩
          · exact Or.inl (c x x0 (by omega))
          · rcases e x x0 (by omega) with z | z
            · exact Or.inl z
            · exact Or.inr (by omega)
      · rw [if_neg q2, if_neg q2]
        rcases ih with ⟨a, b, c⟩ | ⟨a, b, c, e, f⟩
        · exact absurd (Or.inl a) q2
        · refine Or.inr ⟨⟨a.1, by omega⟩, b, c, fun x x0 x1 => ?_, f⟩
          by_cases y : x = j
          · rw [y]; exact Or.inr (by omega)
          · exact e x x0 (by omega)
theorem mn_congr {ct ct' : Int → Int} : ∀ j : Nat, (∀ e : Int, 0 ≤ e → e < j → ct e = ct' e) → mnR ct j = mnR ct' j ∧ mnB ct j = mnB ct' j
  | 0, _ => ⟨rfl, rfl⟩
  | j + 1, h => by
    have ih := mn_congr j (fun e a b => h e a (by omega))
    unfold mnR mnB
    rw [ih.1, ih.2, h j (by omega) (by omega)]
    exact ⟨rfl, rfl⟩
theorem mnR_rng {ct : Int → Int} {M : Int} (hM : -1 ≤ M) {j : Nat} (h : ∀ e : Int, 0 ≤ e → e < j → -1 ≤ ct e ∧ ct e ≤ M) : -1 ≤ mnR ct j ∧ mnR ct j ≤ M := by
  rcases mn_at j (fun e a b => (h e a b).1) with ⟨a, -⟩ | ⟨a, b, c, -⟩
  · omega
  · have := h _ a.1 a.2
    omega
/-- the least cost from a cell over the last k layers -/
def wyR (D al fr : Int → Int → Int) (p : Int) (n : Nat) (m : Int) : Nat → Int → Int
  | 0, _ => 0
  | k + 1, f => mnR (fun c => if f = -1 ∨ D f c = -1 ∨ al (m - ((k + 1 : Nat) : Int)) c = 0 ∨ wyR D al fr p n m k c = -1 then -1 else D f c * p + (fr (m - ((k + 1 : Nat) : Int)) c + wyR D al fr p n m k c)) n
def wyT (D al fr : Int → Int → Int) (p : Int) (n : Nat) (m : Int) (k : Nat) (f c : Int) : Int := if f = -1 ∨ D f c = -1 ∨ al (m - ((k + 1 : Nat) : Int)) c = 0 ∨ wyR D al fr p n m k c = -1 then -1 else D f c * p + (fr (m - ((k + 1 : Nat) : Int)) c + wyR D al fr p n m k c)
theorem wyR_s (D al fr : Int → Int → Int) (p : Int) (n : Nat) (m : Int) (k : Nat) (f : Int) : wyR D al fr p n m (k + 1) f = mnR (wyT D al fr p n m k f) n := rfl
/-- where the best way from s goes: behind l layers of M -/
def wyA (D al fr : Int → Int → Int) (p : Int) (n : Nat) (M : Nat) (s : Int) : Nat → Int
  | 0 => s
  | l + 1 => mnB (wyT D al fr p n M (M - (l + 1)) (wyA D al fr p n M s l)) n
noncomputable def wyD (w n : Int) (g : Int → Int) (a b : Int) : Int := dsV w n (fun e => g (20 + e)) a b
noncomputable def yR (w n : Int) (g : Int → Int) (k : Nat) (f : Int) : Int := wyR (wyD w n g) (alB w n g) (frV w n g) (g 7) n.toNat (g 1) k f
noncomputable def yT (w n : Int) (g : Int → Int) (k : Nat) (f c : Int) : Int := wyT (wyD w n g) (alB w n g) (frV w n g) (g 7) n.toNat (g 1) k f c
noncomputable def yA (w n : Int) (g : Int → Int) (l : Nat) : Int := wyA (wyD w n g) (alB w n g) (frV w n g) (g 7) n.toNat (g 1).toNat (g 5) l
/-- all rows of paces are well said -/
def yOk (w n : Int) (g : Int → Int) : Prop := ∀ f, 0 ≤ f → f < n → DS w n (fun e => g (20 + e)) f (wyD w n g f)
theorem yT_rng {w n : Int} {g : Int → Int} (hg : GOk w n g) (hy : yOk w n g) : ∀ (k : Nat), (k : Int) + 1 ≤ g 1 → ∀ f, -1 ≤ f → f < n → (∀ c : Int, 0 ≤ c → c < n.toNat → -1 ≤ yT w n g k f c ∧ yT w n g k f c ≤ 7400 * ((k : Int) + 1)) ∧ (-1 ≤ yR w n g (k + 1) f ∧ yR w n g (k + 1) f ≤ 7400 * ((k : Int) + 1)) := by
  intro k
  have nn := hg.nn
  have lyb := hg.lyb
  have pce := hg.pce
  induction k with
  | zero =>
    intro hk f f0 f1
    have t : ∀ c : Int, 0 ≤ c → c < n.toNat → -1 ≤ yT w n g 0 f c ∧ yT w n g 0 f c ≤ 7400 * (((0 : Nat) : Int) + 1) := by
      intro c c0 c1
      unfold yT wyT
      split
      · omega
      · next h =>
        have hf := hy f (by omega) f1
        have r := hf.rg c c0 (by omega)
        have m := mulB (x := wyD w n g f c) (y := g 7) (A := 64) (B := 99) (by omega) (by omega)
        have a := alB_fr hg (l := g 1 - ((0 + 1 : Nat) : Int)) (c := c) (by omega) (by omega)
        have b := hg.bnd
        have e : wyR (wyD w n g) (alB w n g) (frV w n g) (g 7) n.toNat (g 1) 0 c = 0 := rfl
        omega
    exact ⟨t, mnR_rng (by omega) t⟩
  | succ k ih =>
    intro hk f f0 f1
    have t : ∀ c : Int, 0 ≤ c → c < n.toNat → -1 ≤ yT w n g (k + 1) f c ∧ yT w n g (k + 1) f c ≤ 7400 * (((k + 1 : Nat) : Int) + 1) := by
      intro c c0 c1
      have i := (ih (by omega) c (by omega) (by omega)).2
      unfold yR at i
      unfold yT wyT
      split
      · omega
      · next h =>
        have hf := hy f (by omega) f1
        have r := hf.rg c c0 (by omega)
        have m := mulB (x := wyD w n g f c) (y := g 7) (A := 64) (B := 99) (by omega) (by omega)
        have a := alB_fr hg (l := g 1 - ((k + 1 + 1 : Nat) : Int)) (c := c) (by omega) (by omega)
        have b := hg.bnd
        omega
    exact ⟨t, mnR_rng (by omega) t⟩
theorem yR_0 (w n : Int) (g : Int → Int) (f : Int) : yR w n g 0 f = 0 := rfl
theorem yR_rng {w n : Int} {g : Int → Int} (hg : GOk w n g) (hy : yOk w n g) (k : Nat) (hk : (k : Int) ≤ g 1) {f : Int} (f0 : -1 ≤ f) (f1 : f < n) : -1 ≤ yR w n g k f ∧ yR w n g k f ≤ 60000 := by
  have lyb := hg.lyb
  cases k with
  | zero => exact ⟨by rw [yR_0]; decide, by rw [yR_0]; decide⟩
  | succ k =>
    have := (yT_rng hg hy k (by omega) f f0 f1).2
    omega
noncomputable def vWay (w n : Int) (g : Int → Int) (l : Int) : Int := if ¬ g 1 < 1 ∧ (l = -1 ∨ (0 ≤ l ∧ l < g 1)) ∧ ¬ yR w n g (g 1).toNat (g 5) = -1 then (if l = -1 then yR w n g (g 1).toNat (g 5) else yA w n g (l + 1).toNat) else -1

def btH (H : XH) (a b : Int) : Int := if (0 ≤ a ∧ a ≤ 63) ∧ (0 ≤ b ∧ b ≤ 63) then H 47 (a * 64 + b) else -1
theorem s_91b {X : Int × (Int → Int)} {d : Nat} {Q : Int → XH → Prop} (hd : 2 ≤ d) (a b : Int) (H : XH) (hQ : Q (btH H a b) H) : xc X d 91 [(2, 46), (0, a), (0, b)] H Q := by
  cases d with
  | zero => omega
  | succ d =>
  unfold btH at hQ
  refine U_91 (by omega) a b H ?_
  refine ⟨fun c1 => ?_, fun c1 => ?_⟩
  · skip
    refine ⟨fun c2 => ?_, fun c2 => ?_⟩
    · skip
      refine ⟨?_, ?_⟩
      · first | omega | (unfold xI; omega)
      refine ⟨?_, ?_⟩
      · first | omega | (unfold xI; omega)
      refine ⟨?_, ?_⟩
      · first | omega | (unfold xI; omega)
      first | (rw [if_pos (by omega)] at hQ; exact hQ) | (rw [if_neg (by omega)] at hQ; exact hQ)
    · skip
      first | (rw [if_pos (by omega)] at hQ; exact hQ) | (rw [if_neg (by omega)] at hQ; exact hQ)
  · skip
    first | (rw [if_pos (by omega)] at hQ; exact hQ) | (rw [if_neg (by omega)] at hQ; exact hQ)

def ctH (H : XH) (f l c p : Int) : Int := if btH H f c = -1 ∨ H 49 (l * 64 + c) = -1 then -1 else btH H f c * p + H 49 (l * 64 + c)
/-- what the class reads when it looks for the next -/
def rdH (H : XH) (n f l p : Int) : Prop := (0 ≤ n ∧ n ≤ 64) ∧ (0 ≤ l ∧ l ≤ 7) ∧ (0 ≤ p ∧ p ≤ 99) ∧ (-1 ≤ f ∧ f < n) ∧ (∀ a b, 0 ≤ a → a < n → 0 ≤ b → b < n → -1 ≤ H 47 (a * 64 + b) ∧ H 47 (a * 64 + b) ≤ 64) ∧ ∀ c, 0 ≤ c → c < n → -1 ≤ H 49 (l * 64 + c) ∧ H 49 (l * 64 + c) ≤ 100000
theorem rdH_bt {H : XH} {n f l p c : Int} (h : rdH H n f l p) (h0 : -1 ≤ c ∧ c < n) : -1 ≤ btH H f c ∧ btH H f c ≤ 64 := by
  obtain ⟨a, b, c', e, k, m⟩ := h
  unfold btH
  split
  · exact k f c (by omega) (by omega) (by omega) (by omega)
  · omega
theorem rdH_ct {H : XH} {n f l p c : Int} (h : rdH H n f l p) (h0 : 0 ≤ c ∧ c < n) : -1 ≤ ctH H f l c p ∧ ctH H f l c p ≤ 110000 := by
  have a := rdH_bt h (c := c) (by omega)
  have b := h.2.2.2.2.2 c h0.1 h0.2
  unfold ctH
  split
  · omega
  · have := mulB (x := btH H f c) (y := p) (A := 64) (B := 99) (by omega) h.2.2.1
    omega

theorem U_96 {X : Int × (Int → Int)} {d : Nat} {Q : Int → XH → Prop} (hd : 2 ≤ d) (f l c p : Int) (H : XH) (h : (((btH H f c = (-1)) → Q (-1) H) ∧ (¬ (btH H f c = (-1)) → ((((0 ≤ l ∧ l ≤ 7)) → (xI (l * 64)) ∧ (xI ((l * 64) + c)) ∧ ((0 : Int) ≤ (l * 64) + c ∧ ((l * 64) + c : Int) < 512) ∧ ((¬ H 49 ((l * 64) + c) = (-1)) → (xI ((btH H f c) * p)) ∧ (xI (((btH H f c) * p) + (H 49 ((l * 64) + c)))) ∧ Q (((btH H f c) * p) + (H 49 ((l * 64) + c))) H) ∧ (¬ (¬ H 49 ((l * 64) + c) = (-1)) → Q (-1) H)) ∧ (¬ ((0 ≤ l ∧ l ≤ 7)) → Q (-1) H))))) : xc X (d + 1) 96 [(2, 46), (0, f), (0, l), (0, c), (0, p)] H Q := by
  refine ⟨rfl, ?_⟩
  show xq X d 96 Q 100000 [(0, (2, 46)), (1, (0, f)), (2, (0, l)), (3, (0, c)), (4, (0, p))] [] H
  refine xq_run [6, 21] 300 ?_
  show xWM (xE X) xMC d 91 [(2, 46), (0, f), (0, c)] xKZ H _
  refine xc_in (s_91b (by omega) f c H  ?_)
  replace h := h
  show xq X d 96 Q 6 [(0, (2, 46)), (1, (0, f)), (2, (0, l)), (3, (0, c)), (4, (0, p))] [(0, btH H f c)] H
  refine xq_run [6, 21] 300 ?_
  show ((btH H f c = (-1)) → xfR 0 (-1) ∧ xKZ = xKZ ∧ Q (-1) H) ∧ (¬ (btH H f c = (-1)) → xWM (xE X) xMC d 19 [(0, l), (0, 0), (0, 7)] xKZ H _)
  refine ⟨fun k_ => ?_, fun k_ => ?_⟩
  · replace h := h.1 k_
    exact ⟨trivial, rfl, h⟩
  · replace h := h.2 k_
    refine xc_in (s_19 (by omega) l 0 7 H  ?_)
    replace h := h
    show xq X d 96 Q 21 [(5, (0, btH H f c)), (0, (2, 46)), (1, (0, f)), (2, (0, l)), (3, (0, c)), (4, (0, p))] [(0, xb (0 ≤ l ∧ l ≤ 7))] H
    refine xq_run [6, 21] 300 ?_
    show ((¬ xb (0 ≤ l ∧ l ≤ 7) = 0) → (xI (l * 64)) ∧ (xI ((l * 64) + c)) ∧ ((0 : Int) ≤ (l * 64) + c ∧ ((l * 64) + c : Int) < 512) ∧ ((¬ H 49 ((l * 64) + c) = (-1)) → (xI ((btH H f c) * p)) ∧ (xI (((btH H f c) * p) + (H 49 ((l * 64) + c)))) ∧ xfR 0 (((btH H f c) * p) + (H 49 ((l * 64) + c))) ∧ xKZ = xKZ ∧ Q (((btH H f c) * p) + (H 49 ((l * 64) + c))) H) ∧ (¬ (¬ H 49 ((l * 64) + c) = (-1)) → xfR 0 (-1) ∧ xKZ = xKZ ∧ Q (-1) H)) ∧ (¬ (¬ xb (0 ≤ l ∧ l ≤ 7) = 0) → xfR 0 (-1) ∧ xKZ = xKZ ∧ Q (-1) H)
    refine ⟨fun k_ => ?_, fun k_ => ?_⟩
    · replace h := h.1 (xbe_1.mp k_)
      refine ⟨h.1, ?_⟩
      replace h := h.2
      refine ⟨h.1, ?_⟩
      replace h := h.2
      refine ⟨h.1, ?_⟩
      replace h := h.2
      refine ⟨fun k_ => ?_, fun k_ => ?_⟩
      · replace h := h.1 k_
        refine ⟨h.1, ?_⟩
        replace h := h.2
        refine ⟨h.1, ?_⟩
        replace h := h.2
        exact ⟨trivial, rfl, h⟩
      · replace h := h.2 k_
        exact ⟨trivial, rfl, h⟩
    · replace h := h.2 (xbe_n.mp k_)
      exact ⟨trivial, rfl, h⟩

theorem s_96 {X : Int × (Int → Int)} {d : Nat} {Q : Int → XH → Prop} (hd : 3 ≤ d) (f l c p n : Int) (H : XH) (h : rdH H n f l p) (pc : -1 ≤ c ∧ c < n) (hQ : Q (if c = -1 then -1 else ctH H f l c p) H) : xc X d 96 [(2, 46), (0, f), (0, l), (0, c), (0, p)] H Q := by
  cases d with
  | zero => omega
  | succ d =>
  obtain ⟨a1, a2, a3, a4, a5, a6⟩ := id h
  have rb := rdH_bt h pc
  have b0 : c = -1 → btH H f c = -1 := fun q => by
    unfold btH
    rw [if_neg (by omega)]
  have rc : ¬ c = -1 → -1 ≤ H 49 (l * 64 + c) ∧ H 49 (l * 64 + c) ≤ 100000 := fun q => a6 c (by omega) (by omega)
  have mm : ¬ btH H f c = -1 → 0 ≤ btH H f c * p ∧ btH H f c * p ≤ 6336 := fun q => mulB (x := btH H f c) (y := p) (A := 64) (B := 99) (by omega) a3
  unfold ctH at hQ
  have hQ1 : (btH H f c = -1 ∨ (¬ c = -1 ∧ H 49 (l * 64 + c) = -1)) → Q (-1) H := fun z => by
    by_cases q : c = -1
    · rw [if_pos q] at hQ
      exact hQ
    · rw [if_neg q, if_pos (by omega)] at hQ
      exact hQ
  have hQ2 : ¬ btH H f c = -1 → ¬ H 49 (l * 64 + c) = -1 → Q (btH H f c * p + H 49 (l * 64 + c)) H := fun z y => by
    rw [if_neg (fun q => z (b0 q)), if_neg (by omega)] at hQ
    exact hQ
  have nc : ¬ btH H f c = -1 → ¬ c = -1 := fun z q => z (b0 q)
  refine U_96 (by omega) f l c p H ?_
  refine ⟨fun c1 => ?_, fun c1 => ?_⟩
  · skip
    first | (exfalso; omega) | exact hQ2 (by assumption) (by assumption) | exact hQ1 (Or.inl (by omega)) | exact hQ1 (Or.inr ⟨nc (by assumption), by omega⟩)
  · skip
    refine ⟨fun c2 => ?_, fun c2 => ?_⟩
    · skip
      refine ⟨?_, ?_⟩
      · first | omega | (have mm := mm (by assumption); have z := nc (by assumption); have rc := rc z; unfold xI; omega) | (have z := nc (by assumption); omega) | (have z := nc (by assumption); unfold xI; omega) | (unfold xI; omega)
      refine ⟨?_, ?_⟩
      · first | omega | (have mm := mm (by assumption); have z := nc (by assumption); have rc := rc z; unfold xI; omega) | (have z := nc (by assumption); omega) | (have z := nc (by assumption); unfold xI; omega) | (unfold xI; omega)
      refine ⟨?_, ?_⟩
      · first | omega | (have mm := mm (by assumption); have z := nc (by assumption); have rc := rc z; unfold xI; omega) | (have z := nc (by assumption); omega) | (have z := nc (by assumption); unfold xI; omega) | (unfold xI; omega)
      refine ⟨fun c3 => ?_, fun c3 => ?_⟩
      · skip
        refine ⟨?_, ?_⟩
        · first | omega | (have mm := mm (by assumption); have z := nc (by assumption); have rc := rc z; unfold xI; omega) | (have z := nc (by assumption); omega) | (have z := nc (by assumption); unfold xI; omega) | (unfold xI; omega)
        refine ⟨?_, ?_⟩
        · first | omega | (have mm := mm (by assumption); have z := nc (by assumption); have rc := rc z; unfold xI; omega) | (have z := nc (by assumption); omega) | (have z := nc (by assumption); unfold xI; omega) | (unfold xI; omega)
        first | (exfalso; omega) | exact hQ2 (by assumption) (by assumption) | exact hQ1 (Or.inl (by omega)) | exact hQ1 (Or.inr ⟨nc (by assumption), by omega⟩)
      · skip
        first | (exfalso; omega) | exact hQ2 (by assumption) (by assumption) | exact hQ1 (Or.inl (by omega)) | exact hQ1 (Or.inr ⟨nc (by assumption), by omega⟩)
    · skip
      first | (exfalso; omega) | exact hQ2 (by assumption) (by assumption) | exact hQ1 (Or.inl (by omega)) | exact hQ1 (Or.inr ⟨nc (by assumption), by omega⟩)

theorem U_97 {X : Int × (Int → Int)} {d : Nat} {Q : Int → XH → Prop} (hd : 0 ≤ d) (f l n p : Int) (H : XH) (h : xq X d 97 Q 9 [(0, (2, 46)), (1, (0, f)), (2, (0, l)), (3, (0, n)), (4, (0, p)), (5, (0, (-1))), (6, (0, 0)), (7, (0, 0))] [] H) : xc X (d + 1) 97 [(2, 46), (0, f), (0, l), (0, n), (0, p)] H Q := by
  refine ⟨rfl, ?_⟩
  show xq X d 97 Q 100000 [(0, (2, 46)), (1, (0, f)), (2, (0, l)), (3, (0, n)), (4, (0, p))] [] H
  refine xq_run [9, 25] 300 ?_
  show xq X d 97 Q 9 [(0, (2, 46)), (1, (0, f)), (2, (0, l)), (3, (0, n)), (4, (0, p)), (5, (0, (-1))), (6, (0, 0)), (7, (0, 0))] [] H
  exact h
theorem U_97_9 {X : Int × (Int → Int)} {d : Nat} {Q : Int → XH → Prop} (hd : 3 ≤ d) (v1 v2 v3 v4 v5 v6 v7 : Int) (H : XH) (h : ((v3 ≤ v7) → Q v5 H) ∧ (¬ (v3 ≤ v7) → (rdH H v3 v1 v2 v4) ∧ (-1 ≤ v7 ∧ v7 < v3) ∧ ((((if v7 = -1 then -1 else ctH H v1 v2 v7 v4) = (-1)) → (xI (v7 + 1)) ∧ xq X d 97 Q 9 [(0, (2, 46)), (1, (0, v1)), (2, (0, v2)), (3, (0, v3)), (4, (0, v4)), (5, (0, v5)), (6, (0, v6)), (7, (0, v7 + 1))] [] H) ∧ (¬ ((if v7 = -1 then -1 else ctH H v1 v2 v7 v4) = (-1)) → ((v5 = (-1)) → (xI (v7 + 1)) ∧ xq X d 97 Q 9 [(0, (2, 46)), (1, (0, v1)), (2, (0, v2)), (3, (0, v3)), (4, (0, v4)), (5, (0, v7)), (6, (0, (if v7 = -1 then -1 else ctH H v1 v2 v7 v4))), (7, (0, v7 + 1))] [] H) ∧ (¬ (v5 = (-1)) → (((if v7 = -1 then -1 else ctH H v1 v2 v7 v4) < v6) → (xI (v7 + 1)) ∧ xq X d 97 Q 9 [(0, (2, 46)), (1, (0, v1)), (2, (0, v2)), (3, (0, v3)), (4, (0, v4)), (5, (0, v7)), (6, (0, (if v7 = -1 then -1 else ctH H v1 v2 v7 v4))), (7, (0, v7 + 1))] [] H) ∧ (¬ ((if v7 = -1 then -1 else ctH H v1 v2 v7 v4) < v6) → (xI (v7 + 1)) ∧ xq X d 97 Q 9 [(0, (2, 46)), (1, (0, v1)), (2, (0, v2)), (3, (0, v3)), (4, (0, v4)), (5, (0, v5)), (6, (0, v6)), (7, (0, v7 + 1))] [] H)))))) : xq X d 97 Q 9 [(0, (2, 46)), (1, (0, v1)), (2, (0, v2)), (3, (0, v3)), (4, (0, v4)), (5, (0, v5)), (6, (0, v6)), (7, (0, v7))] [] H := by
  show xq X d 97 Q 9 [(0, (2, 46)), (1, (0, v1)), (2, (0, v2)), (3, (0, v3)), (4, (0, v4)), (5, (0, v5)), (6, (0, v6)), (7, (0, v7))] [] H
  refine xq_run [9, 25] 300 ?_
  show ((v3 ≤ v7) → xfR 0 v5 ∧ xKZ = xKZ ∧ Q v5 H) ∧ (¬ (v3 ≤ v7) → xWM (xE X) xMC d 96 [(2, 46), (0, v1), (0, v2), (0, v7), (0, v4)] xKZ H _)
  refine ⟨fun k_ => ?_, fun k_ => ?_⟩
  · replace h := h.1 k_
    exact ⟨trivial, rfl, h⟩
  · replace h := h.2 k_
    refine xc_in (s_96 (by omega) v1 v2 v7 v4 v3 H (h.1) (h.2.1) ?_)
    replace h := h.2.2
    show xq X d 97 Q 25 [(0, (2, 46)), (1, (0, v1)), (2, (0, v2)), (3, (0, v3)), (4, (0, v4)), (5, (0, v5)), (6, (0, v6)), (7, (0, v7))] [(0, (if v7 = -1 then -1 else ctH H v1 v2 v7 v4))] H
    refine xq_run [9, 25] 300 ?_
    show (((if v7 = -1 then -1 else ctH H v1 v2 v7 v4) = (-1)) → (xI (v7 + 1)) ∧ xq X d 97 Q 9 [(0, (2, 46)), (1, (0, v1)), (2, (0, v2)), (3, (0, v3)), (4, (0, v4)), (5, (0, v5)), (6, (0, v6)), (7, (0, v7 + 1))] [] H) ∧ (¬ ((if v7 = -1 then -1 else ctH H v1 v2 v7 v4) = (-1)) → ((v5 = (-1)) → (xI (v7 + 1)) ∧ xq X d 97 Q 9 [(0, (2, 46)), (1, (0, v1)), (2, (0, v2)), (3, (0, v3)), (4, (0, v4)), (5, (0, v7)), (6, (0, (if v7 = -1 then -1 else ctH H v1 v2 v7 v4))), (7, (0, v7 + 1))] [] H) ∧ (¬ (v5 = (-1)) → (((if v7 = -1 then -1 else ctH H v1 v2 v7 v4) < v6) → (xI (v7 + 1)) ∧ xq X d 97 Q 9 [(0, (2, 46)), (1, (0, v1)), (2, (0, v2)), (3, (0, v3)), (4, (0, v4)), (5, (0, v7)), (6, (0, (if v7 = -1 then -1 else ctH H v1 v2 v7 v4))), (7, (0, v7 + 1))] [] H) ∧ (¬ ((if v7 = -1 then -1 else ctH H v1 v2 v7 v4) < v6) → (xI (v7 + 1)) ∧ xq X d 97 Q 9 [(0, (2, 46)), (1, (0, v1)), (2, (0, v2)), (3, (0, v3)), (4, (0, v4)), (5, (0, v5)), (6, (0, v6)), (7, (0, v7 + 1))] [] H)))
    refine ⟨fun k_ => ?_, fun k_ => ?_⟩
    · replace h := h.1 k_
      refine ⟨h.1, ?_⟩
      replace h := h.2
      exact h
    · replace h := h.2 k_
      refine ⟨fun k_ => ?_, fun k_ => ?_⟩
      · replace h := h.1 k_
        refine ⟨h.1, ?_⟩
        replace h := h.2
        exact h
      · replace h := h.2 k_
        refine ⟨fun k_ => ?_, fun k_ => ?_⟩
        · replace h := h.1 k_
          refine ⟨h.1, ?_⟩
          replace h := h.2
          exact h
        · replace h := h.2 k_
          refine ⟨h.1, ?_⟩
          replace h := h.2
          exact h

theorem s_97 {X : Int × (Int → Int)} {d : Nat} {Q : Int → XH → Prop} (hd : 4 ≤ d) (f l n p : Int) (H : XH) (h : rdH H n f l p) (hQ : Q (mnB (fun c => ctH H f l c p) n.toNat) H) : xc X d 97 [(2, 46), (0, f), (0, l), (0, n), (0, p)] H Q := by
  cases d with
  | zero => omega
  | succ d =>
  have nn := h.1
  have key : ∀ (k j : Nat), j + k = n.toNat → xq X d 97 Q 9 [(0, (2, 46)), (1, (0, f)), (2, (0, l)), (3, (0, n)), (4, (0, p)), (5, (0, mnB (fun c => ctH H f l c p) j)), (6, (0, if mnB (fun c => ctH H f l c p) j = -1 then 0 else mnR (fun c => ctH H f l c p) j)), (7, (0, (j : Int)))] [] H := by
    intro k
    induction k with
    | zero =>
      intro j hj
      have hj' : j = n.toNat := by omega
      rw [← hj'] at hQ
      refine U_97_9 (by omega) f l n p _ _ (j : Int) H ?_
      refine ⟨fun c1 => ?_, fun c1 => ?_⟩
      · skip
        exact hQ
      · skip
        refine ⟨?_, ?_⟩
        · first | exact h | omega | (unfold xI; omega) | (exfalso; omega)
        refine ⟨?_, ?_⟩
        · first | exact h | omega | (unfold xI; omega) | (exfalso; omega)
        refine ⟨fun c2 => ?_, fun c2 => ?_⟩
        · skip
          refine ⟨?_, ?_⟩
          · first | exact h | omega | (unfold xI; omega) | (exfalso; omega)
          exfalso
          omega
        · skip
          refine ⟨fun c3 => ?_, fun c3 => ?_⟩
          · skip
            refine ⟨?_, ?_⟩
            · first | exact h | omega | (unfold xI; omega) | (exfalso; omega)
            exfalso
            omega
          · skip
            refine ⟨fun c4 => ?_, fun c4 => ?_⟩
            · skip
              refine ⟨?_, ?_⟩
              · first | exact h | omega | (unfold xI; omega) | (exfalso; omega)
              exfalso
              omega
            · skip
              refine ⟨?_, ?_⟩
              · first | exact h | omega | (unfold xI; omega) | (exfalso; omega)
              exfalso
              omega
    | succ k ih =>
      intro j hj
      have ma := mn_at (ct := fun c => ctH H f l c p) j (fun e a b => (rdH_ct h ⟨a, by omega⟩).1)
      have z := ih (j + 1) (by omega)
      have sB : mnB (fun c => ctH H f l c p) (j + 1) = if ctH H f l (j : Int) p = -1 then mnB (fun c => ctH H f l c p) j else if mnR (fun c => ctH H f l c p) j = -1 ∨ ctH H f l (j : Int) p < mnR (fun c => ctH H f l c p) j then (j : Int) else mnB (fun c => ctH H f l c p) j := rfl
      have sR : mnR (fun c => ctH H f l c p) (j + 1) = if ctH H f l (j : Int) p = -1 then mnR (fun c => ctH H f l c p) j else if mnR (fun c => ctH H f l c p) j = -1 ∨ ctH H f l (j : Int) p < mnR (fun c => ctH H f l c p) j then ctH H f l (j : Int) p else mnR (fun c => ctH H f l c p) j := rfl
      have rc := rdH_ct h (c := (j : Int)) ⟨by omega, by omega⟩
      rw [sB, sR] at z
      generalize mnB (fun c => ctH H f l c p) j = B at *
      generalize mnR (fun c => ctH H f l c p) j = R at *
      generalize hC : ctH H f l (j : Int) p = T at *
      have nx : ∀ x y, x = (if T = -1 then B else if R = -1 ∨ T < R then (j : Int) else B) → y = (if (if T = -1 then B else if R = -1 ∨ T < R then (j : Int) else B) = -1 then 0 else if T = -1 then R else if R = -1 ∨ T < R then T else R) → xq X d 97 Q 9 [(0, (2, 46)), (1, (0, f)), (2, (0, l)), (3, (0, n)), (4, (0, p)), (5, (0, x)), (6, (0, y)), (7, (0, (j : Int) + 1))] [] H := fun x y hx hy => by
        rw [hx, hy]
        exact z
      have BR : B = -1 ↔ R = -1 := by
        rcases ma with ⟨a, b, -⟩ | ⟨a, -, b, -⟩ <;> omega
      refine U_97_9 (by omega) f l n p _ _ (j : Int) H ?_
      rw [if_neg (show ¬ (j : Int) = -1 by omega), hC]
      refine ⟨fun c1 => ?_, fun c1 => ?_⟩
      · skip
        exfalso
        omega
      · skip
        refine ⟨?_, ?_⟩
        · first | exact h | omega | (unfold xI; omega) | (exfalso; omega)
        refine ⟨?_, ?_⟩
        · first | exact h | omega | (unfold xI; omega) | (exfalso; omega)
        refine ⟨fun c2 => ?_, fun c2 => ?_⟩
        · skip
          refine ⟨?_, ?_⟩
          · first | exact h | omega | (unfold xI; omega) | (exfalso; omega)
          refine nx _ _ ?_ ?_
          · rw [if_pos (by assumption)]
          · rw [if_pos (show T = -1 by assumption), if_pos (show T = -1 by assumption)]
        · skip
          refine ⟨fun c3 => ?_, fun c3 => ?_⟩
          · skip
            refine ⟨?_, ?_⟩
            · first | exact h | omega | (unfold xI; omega) | (exfalso; omega)
            refine nx _ _ ?_ ?_
            · rw [if_neg (by assumption), if_pos (by omega)]
            · have e : R = -1 ∨ T < R := by omega
              simp only [if_neg (show ¬ T = -1 by assumption), if_pos e]
              rw [if_neg (show ¬ (j : Int) = -1 by omega)]
          · skip
            refine ⟨fun c4 => ?_, fun c4 => ?_⟩
            · skip
              refine ⟨?_, ?_⟩
              · first | exact h | omega | (unfold xI; omega) | (exfalso; omega)
              rw [if_neg (show ¬ B = -1 by assumption)] at c4
              refine nx _ _ ?_ ?_
              · rw [if_neg (by assumption), if_pos (by omega)]
              · have e : R = -1 ∨ T < R := by omega
                simp only [if_neg (show ¬ T = -1 by assumption), if_pos e]
                rw [if_neg (show ¬ (j : Int) = -1 by omega)]
            · skip
              refine ⟨?_, ?_⟩
              · first | exact h | omega | (unfold xI; omega) | (exfalso; omega)
              rw [if_neg (show ¬ B = -1 by assumption)] at c4
              refine nx _ _ ?_ ?_
              · rw [if_neg (by assumption), if_neg (by omega)]
              · rw [if_neg (show ¬ T = -1 by assumption), if_neg (show ¬ T = -1 by assumption), if_neg (show ¬ (R = -1 ∨ T < R) by omega), if_neg (show ¬ (R = -1 ∨ T < R) by omega)]
  refine U_97 (by omega) f l n p H ?_
  exact key n.toNat 0 (by omega)

theorem U_98 {X : Int × (Int → Int)} {d : Nat} {Q : Int → XH → Prop} (hd : 4 ≤ d) (f l n p : Int) (H : XH) (h : (rdH H n f l p) ∧ ((rdH H n f l p) ∧ (-1 ≤ mnB (fun c => ctH H f l c p) (n).toNat ∧ mnB (fun c => ctH H f l c p) (n).toNat < n) ∧ (Q (if mnB (fun c => ctH H f l c p) (n).toNat = -1 then -1 else ctH H f l (mnB (fun c => ctH H f l c p) (n).toNat) p) H))) : xc X (d + 1) 98 [(2, 46), (0, f), (0, l), (0, n), (0, p)] H Q := by
  refine ⟨rfl, ?_⟩
  show xq X d 98 Q 100000 [(0, (2, 46)), (1, (0, f)), (2, (0, l)), (3, (0, n)), (4, (0, p))] [] H
  refine xq_run [12, 17] 300 ?_
  show xWM (xE X) xMC d 97 [(2, 46), (0, f), (0, l), (0, n), (0, p)] xKZ H _
  refine xc_in (s_97 (by omega) f l n p H (h.1) ?_)
  replace h := h.2
  show xq X d 98 Q 12 [(0, (2, 46)), (1, (0, f)), (2, (0, l)), (3, (0, n)), (4, (0, p))] [(0, mnB (fun c => ctH H f l c p) (n).toNat), (0, l), (0, f), (2, 46)] H
  refine xq_run [12, 17] 300 ?_
  show xWM (xE X) xMC d 96 [(2, 46), (0, f), (0, l), (0, mnB (fun c => ctH H f l c p) (n).toNat), (0, p)] xKZ H _
  refine xc_in (s_96 (by omega) f l (mnB (fun c => ctH H f l c p) (n).toNat) p n H (h.1) (h.2.1) ?_)
  replace h := h.2.2
  show xq X d 98 Q 17 [(0, (2, 46)), (1, (0, f)), (2, (0, l)), (3, (0, n)), (4, (0, p))] [(0, (if mnB (fun c => ctH H f l c p) (n).toNat = -1 then -1 else ctH H f l (mnB (fun c => ctH H f l c p) (n).toNat) p))] H
  refine xq_run [12, 17] 300 ?_
  show xfR 0 (if mnB (fun c => ctH H f l c p) (n).toNat = -1 then -1 else ctH H f l (mnB (fun c => ctH H f l c p) (n).toNat) p) ∧ xKZ = xKZ ∧ Q (if mnB (fun c => ctH H f l c p) (n).toNat = -1 then -1 else ctH H f l (mnB (fun c => ctH H f l c p) (n).toNat) p) H
  exact ⟨trivial, rfl, h⟩

theorem s_98 {X : Int × (Int → Int)} {d : Nat} {Q : Int → XH → Prop} (hd : 5 ≤ d) (f l n p : Int) (H : XH) (h : rdH H n f l p) (hQ : Q (mnR (fun c => ctH H f l c p) n.toNat) H) : xc X d 98 [(2, 46), (0, f), (0, l), (0, n), (0, p)] H Q := by
  cases d with
  | zero => omega
  | succ d =>
  have nn := h.1
  have ma := mn_at (ct := fun c => ctH H f l c p) n.toNat (fun e a b => (rdH_ct h ⟨a, by omega⟩).1)
  have e : (if mnB (fun c => ctH H f l c p) n.toNat = -1 then -1 else ctH H f l (mnB (fun c => ctH H f l c p) n.toNat) p) = mnR (fun c => ctH H f l c p) n.toNat := by
    rcases ma with ⟨a, b, -⟩ | ⟨a, b, c, -⟩
    · rw [if_pos b, a]
    · rw [if_neg (by omega)]
      exact b
  refine U_98 (by omega) f l n p H ?_
  rw [e]
  refine ⟨?_, ?_⟩
  · first | exact h | omega
  refine ⟨?_, ?_⟩
  · first | exact h | omega
  refine ⟨?_, ?_⟩
  · first | exact h | omega
  exact hQ

/-- but for the roads' rows -/
def roI (H h : XH) : Prop := ∀ o, ¬ (46 ≤ o ∧ o ≤ 50) → h o = H o
theorem roI_S {H h : XH} (f : roI H h) (hi : InvS H) : InvS h := frC_S (fun o a b => f o (by omega)) hi
theorem roI_lk {w n : Int} {g : Int → Int} {H h : XH} (f : roI H h) (hk : lkA w n g H) : lkA w n g h := by
  unfold lkA
  rw [f 40 (by decide), f 41 (by decide), f 42 (by decide), f 39 (by decide)]
  exact hk
/-- the class's rows of paces -/
def roD (w n : Int) (g : Int → Int) (h : XH) : Prop := ∀ a b, 0 ≤ a → a < n → 0 ≤ b → b < n → h 47 (a * 64 + b) = wyD w n g a b
/-- the class's costs of the last k layers -/
def roK (w n : Int) (g : Int → Int) (k : Nat) (h : XH) : Prop := ∀ j : Nat, j < k → ∀ c, 0 ≤ c → c < n → h 49 ((g 1 - ((j + 1 : Nat) : Int)) * 64 + c) = if alB w n g (g 1 - ((j + 1 : Nat) : Int)) c = 0 ∨ yR w n g j c = -1 then -1 else frV w n g (g 1 - ((j + 1 : Nat) : Int)) c + yR w n g j c
theorem ro_ct {w n : Int} {g : Int → Int} {h : XH} (hg : GOk w n g) (hy : yOk w n g) (hn : n ≤ 64) (hd : roD w n g h) {k : Nat} (hkm : (k : Int) ≤ g 1) {j : Nat} (hj : j < k) (hk : roK w n g k h) {f c : Int} (f0 : -1 ≤ f) (f1 : f < n) (c0 : 0 ≤ c) (c1 : c < n) : ctH h f (g 1 - ((j + 1 : Nat) : Int)) c (g 7) = yT w n g j f c := by
  unfold ctH yT wyT
  rw [hk j hj c c0 c1]
  have e : yR w n g j c = wyR (wyD w n g) (alB w n g) (frV w n g) (g 7) n.toNat (g 1) j c := rfl
  rw [← e]
  have eb : btH h f c = if f = -1 then -1 else wyD w n g f c := by
    unfold btH
    by_cases q : f = -1
    · rw [if_neg (by omega), if_pos q]
    · rw [if_pos (by omega), if_neg q]
      exact hd f c (by omega) f1 c0 c1
  rw [eb]
  by_cases q : f = -1
  · rw [if_pos q, if_pos (Or.inl rfl), if_pos (Or.inl q)]
  · rw [if_neg q]
    by_cases q2 : wyD w n g f c = -1
    · rw [if_pos (Or.inl q2), if_pos (Or.inr (Or.inl q2))]
    · by_cases q3 : alB w n g (g 1 - ((j + 1 : Nat) : Int)) c = 0 ∨ yR w n g j c = -1
      · rw [if_pos q3, if_pos (Or.inr rfl), if_pos (Or.inr (Or.inr q3))]
      · rw [if_neg q3]
        have a := alB_fr hg (l := g 1 - ((j + 1 : Nat) : Int)) (c := c) (by omega) (fun z => q3 (Or.inl z))
        have b := yR_rng hg hy j (by omega) (f := c) (by omega) c1
        rw [if_neg (by omega)]
        rw [if_neg (fun z => by
          rcases z with z | z | z
          · exact q z
          · exact q2 z
          · exact q3 z)]
