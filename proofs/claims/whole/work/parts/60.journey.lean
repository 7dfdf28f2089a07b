/-! THE PURE LAYER 30: journeys, the trowel -/
/-- journeys from layer l on, k layers, p the cells that are alike to all of the journey so far -/
def jC (al : Int → Int → Int) (n : Nat) (i : Int) : Nat → Int → (Int → Int) → Int → Int → Int
  | 0, _, _, m, f => if i = -1 then m else f
  | k + 1, l, p, m, f => if maskR (al l) n 0 = 0 then -1 else if maskR (fun e => if p e = 0 then 0 else al l e) n 0 = 0 then jC al n i k (l + 1) (al l) (m + 1) (if m = i then l else f) else jC al n i k (l + 1) (fun e => if p e = 0 then 0 else al l e) m f
def vJ (w n : Int) (g : Int → Int) (i : Int) : Int := if -1 ≤ i then jC (alB w n g) n.toNat i (g 1).toNat 0 (fun _ => 0) 0 (-1) else -1
def runN (f : Int → Int) : Nat → Int → Int
  | 0, _ => 0
  | k + 1, l => if f l = 0 then 0 else 1 + runN f k (l + 1)
def tgM (al : Int → Int → Int) (g1 l : Int) : Nat → Int
  | 0 => 0
  | c + 1 => if tgM al g1 l c < runN (fun m => al m c) (g1 - l).toNat l then runN (fun m => al m c) (g1 - l).toNat l else tgM al g1 l c
theorem runN_at (f : Int → Int) : ∀ (k : Nat) (l : Int), (0 ≤ runN f k l ∧ runN f k l ≤ k) ∧ (∀ j, 0 ≤ j → j < runN f k l → ¬ f (l + j) = 0) ∧ (runN f k l < k → f (l + runN f k l) = 0)
  | 0, l => by
    unfold runN
    exact ⟨⟨Int.le_refl _, by omega⟩, fun j a b => by omega, fun h => by omega⟩
  | k + 1, l => by
    have ih := runN_at f k (l + 1)
    unfold runN
    by_cases h : f l = 0
    · rw [if_pos h]
      exact ⟨⟨Int.le_refl _, by omega⟩, fun j a b => by omega, fun _ => by rw [Int.add_zero]; exact h⟩
    · rw [if_neg h]
      refine ⟨⟨by omega, by omega⟩, fun j a b => ?_, fun q => ?_⟩
      · by_cases hj : j = 0
        · rw [hj, Int.add_zero]
          exact h
        · have := ih.2.1 (j - 1) (by omega) (by omega)
          rw [show l + 1 + (j - 1) = l + j by omega] at this
          exact this
      · have := ih.2.2 (by omega)
        rw [show l + 1 + runN f k (l + 1) = l + (1 + runN f k (l + 1)) by omega] at this
        exact this
theorem tgM_at (al : Int → Int → Int) (g1 l : Int) : ∀ c : Nat, 0 ≤ tgM al g1 l c ∧ (∀ e : Nat, e < c → runN (fun m => al m e) (g1 - l).toNat l ≤ tgM al g1 l c) ∧ (tgM al g1 l c = 0 ∨ ∃ e : Nat, e < c ∧ runN (fun m => al m e) (g1 - l).toNat l = tgM al g1 l c)
  | 0 => ⟨Int.le_refl _, fun e h => by omega, Or.inl rfl⟩
  | c + 1 => by
    have ih := tgM_at al g1 l c
    have r := runN_at (fun m => al m c) (g1 - l).toNat l
    unfold tgM
    split
    · next h =>
      refine ⟨r.1.1, fun e he => ?_, Or.inr ⟨c, by omega, rfl⟩⟩
      by_cases hc : e = c
      · rw [hc]
        exact Int.le_refl _
      · have := ih.2.1 e (by omega)
        omega
    · next h =>
      refine ⟨ih.1, fun e he => ?_, ?_⟩
      · by_cases hc : e = c
        · rw [hc]
          omega
        · exact ih.2.1 e (by omega)
      · rcases ih.2.2 with q | ⟨e, q1, q2⟩
        · exact Or.inl q
        · exact Or.inr ⟨e, by omega, q2⟩
theorem jC_go (al : Int → Int → Int) (n : Nat) (i : Int) (c : Nat) (hc : c < n) : ∀ (a k : Nat) (l : Int) (p : Int → Int) (m f : Int), ¬ p c = 0 → (∀ j : Int, 0 ≤ j → j < a → ¬ al (l + j) c = 0) → ∃ p' : Int → Int, (∀ e, ¬ p' e = 0 → ¬ p e = 0 ∧ ∀ j : Int, 0 ≤ j → j < a → ¬ al (l + j) e = 0) ∧ jC al n i (a + k) l p m f = jC al n i k (l + a) p' m f
  | 0, k, l, p, m, f, hp, ha => ⟨p, fun e q => ⟨q, fun j x y => by omega⟩, by rw [Nat.zero_add, Int.natCast_zero, Int.add_zero]⟩
  | a + 1, k, l, p, m, f, hp, ha => by
    have h0 : ¬ al l c = 0 := by
      have := ha 0 (by decide) (by omega)
      rw [Int.add_zero] at this
      exact this
    have h1 : ¬ maskR (al l) n 0 = 0 := fun q => h0 ((mask_0 _ _ _).mp q c (by omega) (by omega))
    have h2 : ¬ maskR (fun e => if p e = 0 then 0 else al l e) n 0 = 0 := fun q => by
      have := (mask_0 _ _ _).mp q c (by omega) (by omega)
      try dsimp only at this
      rw [if_neg hp] at this
      exact h0 this
    obtain ⟨p', k1, k2⟩ := jC_go al n i c hc a k (l + 1) (fun e => if p e = 0 then 0 else al l e) m f (by rw [if_neg hp]; exact h0) (fun j x y => by
      have := ha (j + 1) (by omega) (by omega)
      rw [show l + 1 + j = l + (j + 1) by omega]
      exact this)
    refine ⟨p', fun e q => ?_, ?_⟩
    · obtain ⟨q1, q2⟩ := k1 e q
      try dsimp only at q1
      by_cases hpe : p e = 0
      · rw [if_pos hpe] at q1
        exact absurd rfl q1
      · rw [if_neg hpe] at q1
        refine ⟨hpe, fun j x y => ?_⟩
        by_cases hj : j = 0
        · rw [hj, Int.add_zero]
          exact q1
        · have := q2 (j - 1) (by omega) (by omega)
          rw [show l + 1 + (j - 1) = l + j by omega] at this
          exact this
    · rw [show a + 1 + k = (a + k) + 1 by omega]
      show (if maskR (al l) n 0 = 0 then -1 else if maskR (fun e => if p e = 0 then 0 else al l e) n 0 = 0 then jC al n i (a + k) (l + 1) (al l) (m + 1) (if m = i then l else f) else jC al n i (a + k) (l + 1) (fun e => if p e = 0 then 0 else al l e) m f) = _
      rw [if_neg h1, if_neg h2, k2]
      congr 1
      omega
theorem jC_p (al : Int → Int → Int) (n : Nat) (i : Int) (k : Nat) (l : Int) (p : Int → Int) (m f : Int) (h : k = 0 ∨ maskR (fun e => if p e = 0 then 0 else al l e) n 0 = 0) : jC al n i k l p m f = jC al n i k l (fun _ => 0) m f := by
  cases k with
  | zero => rfl
  | succ k =>
    have h := h.resolve_left (by omega)
    have h2 : maskR (fun e => if (fun _ : Int => (0 : Int)) e = 0 then 0 else al l e) n 0 = 0 := (mask_0 _ _ _).mpr (fun e _ _ => if_pos rfl)
    show (if maskR (al l) n 0 = 0 then -1 else if maskR (fun e => if p e = 0 then 0 else al l e) n 0 = 0 then jC al n i k (l + 1) (al l) (m + 1) (if m = i then l else f) else jC al n i k (l + 1) (fun e => if p e = 0 then 0 else al l e) m f) = (if maskR (al l) n 0 = 0 then -1 else if maskR (fun e => if (fun _ : Int => (0 : Int)) e = 0 then 0 else al l e) n 0 = 0 then jC al n i k (l + 1) (al l) (m + 1) (if m = i then l else f) else jC al n i k (l + 1) (fun e => if (fun _ : Int => (0 : Int)) e = 0 then 0 else al l e) m f)
    rw [if_pos h, if_pos h2]
theorem jC_jump (al : Int → Int → Int) (n : Nat) (i g1 l m f : Int) (hl : l < g1) : (tgM al g1 l n = 0 → jC al n i (g1 - l).toNat l (fun _ => 0) m f = -1) ∧ (¬ tgM al g1 l n = 0 → 1 ≤ tgM al g1 l n ∧ l + tgM al g1 l n ≤ g1 ∧ jC al n i (g1 - l).toNat l (fun _ => 0) m f = jC al n i (g1 - (l + tgM al g1 l n)).toNat (l + tgM al g1 l n) (fun _ => 0) (m + 1) (if m = i then l else f)) := by
  obtain ⟨t0, t1, t2⟩ := tgM_at al g1 l n
  obtain ⟨K, hK⟩ : ∃ K : Nat, (g1 - l).toNat = K + 1 := ⟨(g1 - l).toNat - 1, by omega⟩
  have st : ∀ p, jC al n i (K + 1) l p m f = (if maskR (al l) n 0 = 0 then -1 else if maskR (fun e => if p e = 0 then 0 else al l e) n 0 = 0 then jC al n i K (l + 1) (al l) (m + 1) (if m = i then l else f) else jC al n i K (l + 1) (fun e => if p e = 0 then 0 else al l e) m f) := fun p => rfl
  constructor
  · intro hz
    rw [hK, st, if_pos]
    refine (mask_0 _ _ _).mpr (fun e a b => ?_)
    have h1 := t1 e.toNat (by omega)
    have h2 := runN_at (fun m => al m (e.toNat : Int)) (g1 - l).toNat l
    have h3 := h2.2.2 (by omega)
    rw [show runN (fun m => al m (e.toNat : Int)) (g1 - l).toNat l = 0 by omega, Int.add_zero, Int.toNat_of_nonneg a] at h3
    exact h3
  · intro hz
    obtain ⟨c, c1, c2⟩ := t2.resolve_left hz
    have hr := runN_at (fun m => al m (c : Int)) (g1 - l).toNat l
    rw [c2] at hr
    obtain ⟨T, hT⟩ : ∃ T : Nat, tgM al g1 l n = ((T + 1 : Nat) : Int) := ⟨(tgM al g1 l n).toNat - 1, by omega⟩
    rw [hT] at hr t1 ⊢
    refine ⟨by omega, by omega, ?_⟩
    have h0 : ¬ al l c = 0 := by
      have := hr.2.1 0 (by decide) (by omega)
      rw [Int.add_zero] at this
      exact this
    have h1 : ¬ maskR (al l) n 0 = 0 := fun q => h0 ((mask_0 _ _ _).mp q c (by omega) (by omega))
    have h2 : maskR (fun e => if (fun _ : Int => (0 : Int)) e = 0 then 0 else al l e) n 0 = 0 := (mask_0 _ _ _).mpr (fun e _ _ => if_pos rfl)
    obtain ⟨p', k1, k2⟩ := jC_go al n i c c1 T (K - T) (l + 1) (al l) (m + 1) (if m = i then l else f) h0 (fun j x y => by
      have := hr.2.1 (j + 1) (by omega) (by omega)
      rw [show l + 1 + j = l + (j + 1) by omega]
      exact this)
    rw [hK, st, if_neg h1, if_pos h2]
    rw [show T + (K - T) = K by omega] at k2
    rw [k2, show l + 1 + (T : Int) = l + ((T + 1 : Nat) : Int) by omega, show (g1 - (l + ((T + 1 : Nat) : Int))).toNat = K - T by omega]
    refine jC_p _ _ _ _ _ _ _ _ ?_
    by_cases hk : K - T = 0
    · exact Or.inl hk
    · refine Or.inr ((mask_0 _ _ _).mpr (fun e a b => ?_))
      by_cases hp : p' e = 0
      · exact if_pos hp
      · rw [if_neg hp]
        by_cases hal : al (l + ((T + 1 : Nat) : Int)) e = 0
        · exact hal
        · exfalso
          obtain ⟨q1, q2⟩ := k1 e hp
          have z1 := t1 e.toNat (by omega)
          have z2 := runN_at (fun m => al m (e.toNat : Int)) (g1 - l).toNat l
          generalize hR : runN (fun m => al m (e.toNat : Int)) (g1 - l).toNat l = R at z1 z2
          have z3 := z2.2.2 (by omega)
          try dsimp only at z3
          rw [Int.toNat_of_nonneg a] at z3
          by_cases r0 : R = 0
          · rw [r0, Int.add_zero] at z3
            exact q1 z3
          · by_cases r1 : R = ((T + 1 : Nat) : Int)
            · rw [r1] at z3
              exact hal z3
            · have := q2 (R - 1) (by omega) (by omega)
              rw [show l + 1 + (R - 1) = l + R by omega] at this
              exact this z3

theorem U_126 {X : Int × (Int → Int)} {d : Nat} {Q : Int → XH → Prop} (hd : 0 ≤ d) (w n : Int) (g : Int → Int) (H : XH) (h : xq X d 126 Q 7 [(0, (2, 39)), (1, (0, 0)), (2, (1, 0)), (4, (0, 0))] [] H) : xc X (d + 1) 126 [(2, 39)] H Q := by
  refine ⟨rfl, ?_⟩
  show xq X d 126 Q 100000 [(0, (2, 39))] [] H
  refine xq_run [7, 22] 300 ?_
  show xq X d 126 Q 7 [(0, (2, 39)), (1, (0, 0)), (2, (1, 0)), (4, (0, 0))] [] H
  exact h
theorem U_126_7 {X : Int × (Int → Int)} {d : Nat} {Q : Int → XH → Prop} (hd : 4 ≤ d) (v1 v2 v4 : Int) (w n : Int) (g : Int → Int) (H : XH) (h : ((H 39 7 ≤ v4) → Q v1 H) ∧ (¬ (H 39 7 ≤ v4) → (lkA w n g H) ∧ (0 ≤ v4 ∧ v4 < g 1) ∧ (((¬ xJn (maskR (alB w n g v4) n.toNat 0) = 0) → ((xandL v2 (xJn (maskR (alB w n g v4) n.toNat 0)) = 0) → ((0 : Int) ≤ v1 ∧ (v1 : Int) < 8) ∧ (xI (v1 + 1)) ∧ (xI (v4 + 1)) ∧ xq X d 126 Q 7 [(0, (2, 39)), (1, (0, v1 + 1)), (2, (1, xJn (maskR (alB w n g v4) n.toNat 0))), (4, (0, v4 + 1))] [] (xup H 45 v1 v4)) ∧ (¬ (xandL v2 (xJn (maskR (alB w n g v4) n.toNat 0)) = 0) → (xI (v4 + 1)) ∧ xq X d 126 Q 7 [(0, (2, 39)), (1, (0, v1)), (2, (1, xandL v2 (xJn (maskR (alB w n g v4) n.toNat 0)))), (4, (0, v4 + 1))] [] H)) ∧ (¬ (¬ xJn (maskR (alB w n g v4) n.toNat 0) = 0) → Q (-1) H)))) : xq X d 126 Q 7 [(0, (2, 39)), (1, (0, v1)), (2, (1, v2)), (4, (0, v4))] [] H := by
  show xq X d 126 Q 7 [(0, (2, 39)), (1, (0, v1)), (2, (1, v2)), (4, (0, v4))] [] H
  refine xq_run [7, 22] 300 ?_
  show ((H 39 7 ≤ v4) → xfR 0 v1 ∧ xKZ = xKZ ∧ Q v1 H) ∧ (¬ (H 39 7 ≤ v4) → xWM (xE X) xMC d 69 [(2, 39), (0, v4)] xKZ H _)
  refine ⟨fun k_ => ?_, fun k_ => ?_⟩
  · replace h := h.1 k_
    exact ⟨trivial, rfl, h⟩
  · replace h := h.2 k_
    refine xc_in (s_69 (by omega) w n g v4 H (h.1) (h.2.1) ?_)
    replace h := h.2.2
    show xq X d 126 Q 22 [(0, (2, 39)), (1, (0, v1)), (2, (1, v2)), (4, (0, v4))] [(1, xJn (maskR (alB w n g v4) n.toNat 0))] H
    refine xq_run [7, 22] 300 ?_
    show ((¬ xcmp (xJn (maskR (alB w n g v4) n.toNat 0)) 0 = 0) → ((xcmp (xandL v2 (xJn (maskR (alB w n g v4) n.toNat 0))) 0 = 0) → ((0 : Int) ≤ v1 ∧ (v1 : Int) < 8) ∧ (xI (v1 + 1)) ∧ (xI (v4 + 1)) ∧ xq X d 126 Q 7 [(0, (2, 39)), (1, (0, v1 + 1)), (2, (1, xJn (maskR (alB w n g v4) n.toNat 0))), (4, (0, v4 + 1))] [] (xup H 45 v1 v4)) ∧ (¬ (xcmp (xandL v2 (xJn (maskR (alB w n g v4) n.toNat 0))) 0 = 0) → (xI (v4 + 1)) ∧ xq X d 126 Q 7 [(0, (2, 39)), (1, (0, v1)), (2, (1, xandL v2 (xJn (maskR (alB w n g v4) n.toNat 0)))), (4, (0, v4 + 1))] [] H)) ∧ (¬ (¬ xcmp (xJn (maskR (alB w n g v4) n.toNat 0)) 0 = 0) → xfR 0 (-1) ∧ xKZ = xKZ ∧ Q (-1) H)
    refine ⟨fun k_ => ?_, fun k_ => ?_⟩
    · replace h := h.1 (xcmp_ne.mp k_)
      refine ⟨fun k_ => ?_, fun k_ => ?_⟩
      · replace h := h.1 (xcmp_eq.mp k_)
        refine ⟨h.1, ?_⟩
        replace h := h.2
        refine ⟨h.1, ?_⟩
        replace h := h.2
        refine ⟨h.1, ?_⟩
        replace h := h.2
        exact h
      · replace h := h.2 (fun q => k_ (xcmp_eq.mpr q))
        refine ⟨h.1, ?_⟩
        replace h := h.2
        exact h
    · replace h := h.2 (fun q => k_ (xcmp_ne.mpr q))
      exact ⟨trivial, rfl, h⟩

theorem s_126 {X : Int × (Int → Int)} {d : Nat} {Q : Int → XH → Prop} (hd : 5 ≤ d) (w n : Int) (g : Int → Int) (H : XH) (hk : lkA w n g H) (hQ : ∀ (J : Int) (h1 : XH), (frC H h1 ∧ -1 ≤ J ∧ ∀ i, -1 ≤ i → vJ w n g i = if J = -1 ∨ i = -1 then J else if i < J then h1 45 i else -1) ∧ J ≤ 8 → Q J h1) : xc X d 126 [(2, 39)] H Q := by
  cases d with
  | zero => omega
  | succ d =>
  obtain ⟨hg, e6, e7, e8, hk2⟩ := id hk
  have nn := hg.nn
  have ww := hg.ww
  have lyb := hg.lyb
  have bnd := hg.bnd
  have lk2 : ∀ h : XH, (∀ o, ¬ o = 45 → h o = H o) → lkA w n g h := fun h q => by
    unfold lkA
    rw [q 40 (by decide), q 41 (by decide), q 42 (by decide), q 39 (by decide)]
    exact hk
  have fr2 : ∀ h : XH, (∀ o, ¬ o = 45 → h o = H o) → frC H h := fun h q o a b => q o (by omega)
  have key : ∀ (k : Nat) (l m : Int) (p : Int → Int) (h : XH), (∀ o, ¬ o = 45 → h o = H o) → 0 ≤ l → l + k = g 1 → 0 ≤ m → m ≤ l → (∀ i, -1 ≤ i → jC (alB w n g) n.toNat i k l p m (if 0 ≤ i ∧ i < m then h 45 i else -1) = vJ w n g i) → xq X d 126 Q 7 [(0, (2, 39)), (1, (0, m)), (2, (1, xJn (maskR p n.toNat 0))), (4, (0, l))] [] h := by
    intro k
    induction k with
    | zero =>
      intro l m p h f h0 hl hm hml hV
      have f39 := f 39 (by decide)
      refine U_126_7 (by omega) m (xJn (maskR p n.toNat 0)) l w n g h ?_
      rw [f39]
      refine ⟨fun c1 => ?_, fun c1 => ?_⟩
      · skip
        refine hQ m h ⟨⟨fr2 h f, by omega, fun i hi => ?_⟩, by omega⟩
        rw [← hV i hi]
        unfold jC
        repeat' split
        all_goals omega
      · skip
        refine ⟨?_, ?_⟩
        · first | exact lk2 h f | omega | (unfold xI; omega) | (exfalso; omega)
        refine ⟨?_, ?_⟩
        · first | exact lk2 h f | omega | (unfold xI; omega) | (exfalso; omega)
        refine ⟨fun c2 => ?_, fun c2 => ?_⟩
        · skip
          refine ⟨fun c3 => ?_, fun c3 => ?_⟩
          · skip
            refine ⟨?_, ?_⟩
            · first | exact lk2 h f | omega | (unfold xI; omega) | (exfalso; omega)
            refine ⟨?_, ?_⟩
            · first | exact lk2 h f | omega | (unfold xI; omega) | (exfalso; omega)
            refine ⟨?_, ?_⟩
            · first | exact lk2 h f | omega | (unfold xI; omega) | (exfalso; omega)
            exfalso
            omega
          · skip
            refine ⟨?_, ?_⟩
            · first | exact lk2 h f | omega | (unfold xI; omega) | (exfalso; omega)
            exfalso
            omega
        · skip
          exfalso
          omega
    | succ k ih =>
      intro l m p h f h0 hl hm hml hV
      have f39 := f 39 (by decide)
      have M1 : maskR (alB w n g l) n.toNat 0 < 18446744073709551616 := maskR_64 _ _ _ (by omega)
      have M2 : maskR (fun e => if p e = 0 then 0 else alB w n g l e) n.toNat 0 < 18446744073709551616 := maskR_64 _ _ _ (by omega)
      have eA : xandL (xJn (maskR p n.toNat 0)) (xJn (maskR (alB w n g l) n.toNat 0)) = xJn (maskR (fun e => if p e = 0 then 0 else alB w n g l e) n.toNat 0) := by
        rw [xJn_and, mask_and]
      have st : ∀ i f, jC (alB w n g) n.toNat i (k + 1) l p m f = (if maskR (alB w n g l) n.toNat 0 = 0 then -1 else if maskR (fun e => if p e = 0 then 0 else alB w n g l e) n.toNat 0 = 0 then jC (alB w n g) n.toNat i k (l + 1) (alB w n g l) (m + 1) (if m = i then l else f) else jC (alB w n g) n.toNat i k (l + 1) (fun e => if p e = 0 then 0 else alB w n g l e) m f) := fun i f => rfl
      refine U_126_7 (by omega) m (xJn (maskR p n.toNat 0)) l w n g h ?_
      rw [f39, eA]
      refine ⟨fun c1 => ?_, fun c1 => ?_⟩
      · skip
        exfalso
        omega
      · skip
        refine ⟨?_, ?_⟩
        · first | exact lk2 h f | omega | (unfold xI; omega) | exact ⟨by omega, by omega⟩ | (exfalso; omega)
        refine ⟨?_, ?_⟩
        · first | exact lk2 h f | omega | (unfold xI; omega) | exact ⟨by omega, by omega⟩ | (exfalso; omega)
        refine ⟨fun c2 => ?_, fun c2 => ?_⟩
        · skip
          refine ⟨fun c3 => ?_, fun c3 => ?_⟩
          · skip
            refine ⟨?_, ?_⟩
            · first | exact lk2 h f | omega | (unfold xI; omega) | exact ⟨by omega, by omega⟩ | (exfalso; omega)
            refine ⟨?_, ?_⟩
            · first | exact lk2 h f | omega | (unfold xI; omega) | exact ⟨by omega, by omega⟩ | (exfalso; omega)
            refine ⟨?_, ?_⟩
            · first | exact lk2 h f | omega | (unfold xI; omega) | exact ⟨by omega, by omega⟩ | (exfalso; omega)
            have z1 : ¬ maskR (alB w n g l) n.toNat 0 = 0 := fun q => absurd ((xJn_0 M1).mpr q) (by assumption)
            have z2 := (xJn_0 M2).mp (by assumption)
            refine ih (l + 1) (m + 1) (alB w n g l) (xup h 45 m l) (fun o q => (xup_ne q).trans (f o q)) (by omega) (by omega) (by omega) (by omega) (fun i hi => ?_)
            have := hV i hi
            rw [st, if_neg z1, if_pos z2] at this
            rw [← this]
            congr 1
            rw [xup_eq]
            repeat' split
            all_goals omega
          · skip
            refine ⟨?_, ?_⟩
            · first | exact lk2 h f | omega | (unfold xI; omega) | exact ⟨by omega, by omega⟩ | (exfalso; omega)
            have z1 : ¬ maskR (alB w n g l) n.toNat 0 = 0 := fun q => absurd ((xJn_0 M1).mpr q) (by assumption)
            have z2 : ¬ maskR (fun e => if p e = 0 then 0 else alB w n g l e) n.toNat 0 = 0 := fun q => absurd ((xJn_0 M2).mpr q) (by assumption)
            refine ih (l + 1) m _ h f (by omega) (by omega) (by omega) (by omega) (fun i hi => ?_)
            have := hV i hi
            rw [st, if_neg z1, if_neg z2] at this
            exact this
        · skip
          have z1 : maskR (alB w n g l) n.toNat 0 = 0 := (xJn_0 M1).mp (by omega)
          refine hQ (-1) h ⟨⟨fr2 h f, Int.le_refl _, fun i hi => ?_⟩, by decide⟩
          have := hV i hi
          rw [st, if_pos z1] at this
          rw [← this, if_pos (Or.inl rfl)]
  refine U_126 (by omega) w n g H ?_
  have z := key (g 1).toNat 0 0 (fun _ => 0) H (fun _ _ => rfl) (by decide) (by omega) (by decide) (by decide) (fun i hi => by
    unfold vJ
    rw [if_pos hi, if_neg (by omega)])
  have e0 : maskR (fun _ => 0) n.toNat 0 = 0 := (mask_0 _ _ _).mpr (fun _ _ _ => rfl)
  rw [e0] at z
  exact z

theorem U_127 {X : Int × (Int → Int)} {d : Nat} {Q : Int → XH → Prop} (hd : 6 ≤ d) (i : Int) (w n : Int) (g : Int → Int) (H : XH) (h : (((-1) ≤ i) → (InvS H) ∧ (∀ (h54 : XH), (frC H h54 ∧ lkOk (H 67 0) (H 67 1) (H 68) (h54 40) (h54 41) (h54 42) (h54 39)) → (lkA w n g h54) ∧ (∀ (J56 : Int) (h55 : XH), ((frC h54 h55 ∧ -1 ≤ J56 ∧ ∀ i, -1 ≤ i → vJ w n g i = if J56 = -1 ∨ i = -1 then J56 else if i < J56 then h55 45 i else -1) ∧ J56 ≤ 8) → ((J56 = (-1)) → Q J56 h55) ∧ (¬ (J56 = (-1)) → ((¬ i = (-1)) → ((J56 ≤ i) → Q (-1) h55) ∧ (¬ (J56 ≤ i) → ((0 : Int) ≤ i ∧ (i : Int) < 8) ∧ Q (h55 45 i) h55)) ∧ (¬ (¬ i = (-1)) → Q J56 h55))))) ∧ (¬ ((-1) ≤ i) → Q (-1) H)) : xc X (d + 1) 127 [(2, 0), (0, i)] H Q := by
  refine ⟨rfl, ?_⟩
  show xq X d 127 Q 100000 [(0, (2, 0)), (1, (0, i))] [] H
  refine xq_run [18, 25] 300 ?_
  show (((-1) ≤ i) → xWM (xE X) xMC d 60 [(2, 39), (2, 1)] xKZ H _) ∧ (¬ ((-1) ≤ i) → xfR 0 (-1) ∧ xKZ = xKZ ∧ Q (-1) H)
  refine ⟨fun k_ => ?_, fun k_ => ?_⟩
  · replace h := h.1 k_
    refine xc_in (s_60 (by omega) H (h.1) ?_)
    intro h54 q_0
    replace h := h.2 h54 q_0
    show xq X d 127 Q 18 [(0, (2, 0)), (1, (0, i))] [] h54
    refine xq_run [18, 25] 300 ?_
    show xWM (xE X) xMC d 126 [(2, 39)] xKZ h54 _
    refine xc_in (s_126 (by omega) w n g h54 (h.1) ?_)
    intro J56 h55 q_0
    replace h := h.2 J56 h55 q_0
    show xq X d 127 Q 25 [(0, (2, 0)), (1, (0, i))] [(0, J56)] h55
    refine xq_run [18, 25] 300 ?_
    show ((J56 = (-1)) → xfR 0 J56 ∧ xKZ = xKZ ∧ Q J56 h55) ∧ (¬ (J56 = (-1)) → ((¬ i = (-1)) → ((J56 ≤ i) → xfR 0 (-1) ∧ xKZ = xKZ ∧ Q (-1) h55) ∧ (¬ (J56 ≤ i) → ((0 : Int) ≤ i ∧ (i : Int) < 8) ∧ xfR 0 (h55 45 i) ∧ xKZ = xKZ ∧ Q (h55 45 i) h55)) ∧ (¬ (¬ i = (-1)) → xfR 0 J56 ∧ xKZ = xKZ ∧ Q J56 h55))
    refine ⟨fun k_ => ?_, fun k_ => ?_⟩
    · replace h := h.1 k_
      exact ⟨trivial, rfl, h⟩
    · replace h := h.2 k_
      refine ⟨fun k_ => ?_, fun k_ => ?_⟩
      · replace h := h.1 k_
        refine ⟨fun k_ => ?_, fun k_ => ?_⟩
        · replace h := h.1 k_
          exact ⟨trivial, rfl, h⟩
        · replace h := h.2 k_
          refine ⟨h.1, ?_⟩
          replace h := h.2
          exact ⟨trivial, rfl, h⟩
      · replace h := h.2 k_
        exact ⟨trivial, rfl, h⟩
  · replace h := h.2 k_
    exact ⟨trivial, rfl, h⟩

theorem s_127 {X : Int × (Int → Int)} {d : Nat} {Q : Int → XH → Prop} (hd : 12 ≤ d) (i : Int) (H : XH) (hi : InvS H) (hQ : ∀ h1 : XH, frC H h1 → Q (vJ (H 67 0) (H 67 1) (H 68) i) h1) : xc X d 127 [(2, 0), (0, i)] H Q := by
  cases d with
  | zero => omega
  | succ d =>
  have hg := hi.1
  have hs := hi.2
  have nn := hg.nn
  have ww := hg.ww
  have l2 := hs.l2
  have hc := hs.c
  have lyb := hg.lyb
  have bnd := hg.bnd
  refine U_127 (by omega) i (H 67 0) (H 67 1) (H 68) H ?_
  refine ⟨fun c1 => ?_, fun c1 => ?_⟩
  · skip
    refine ⟨?_, ?_⟩
    · first | omega | exact hi | exact hg | exact lk | (unfold xI; omega)
    intro h57 c2
    have lk : lkA (H 67 0) (H 67 1) (H 68) h57 := And.intro hg c2.2
    have fr := c2.1
    refine ⟨?_, ?_⟩
    · first | omega | exact hi | exact hg | exact lk | (unfold xI; omega)
    intro J59 h58 c3
    have jj := c3
    refine ⟨fun c4 => ?_, fun c4 => ?_⟩
    · skip
      have k := hQ _ (frC_trans fr jj.1.1)
      rw [jj.1.2.2 i (by omega)] at k
      rw [if_pos (by omega)] at k
      exact k
    · skip
      refine ⟨fun c5 => ?_, fun c5 => ?_⟩
      · skip
        refine ⟨fun c6 => ?_, fun c6 => ?_⟩
        · skip
          have k := hQ _ (frC_trans fr jj.1.1)
          rw [jj.1.2.2 i (by omega)] at k
          rw [if_neg (by omega), if_neg (by omega)] at k
          exact k
        · skip
          refine ⟨?_, ?_⟩
          · first | omega | exact hi | exact hg | exact lk | (unfold xI; omega)
          have k := hQ _ (frC_trans fr jj.1.1)
          rw [jj.1.2.2 i (by omega)] at k
          rw [if_neg (by omega), if_pos (by omega)] at k
          exact k
      · skip
        have k := hQ _ (frC_trans fr jj.1.1)
        rw [jj.1.2.2 i (by omega)] at k
        rw [if_pos (by omega)] at k
        exact k
  · skip
    have k := hQ _ (frC_refl H)
    unfold vJ at k
    rw [if_neg (by omega)] at k
    exact k

theorem U_128 {X : Int × (Int → Int)} {d : Nat} {Q : Int → XH → Prop} (hd : 0 ≤ d) (l : Int) (H : XH) (h : xq X d 128 Q 4 [(0, (2, 67)), (1, (0, l)), (2, (0, 0)), (3, (0, 0))] [] H) : xc X (d + 1) 128 [(2, 67), (0, l)] H Q := by
  refine ⟨rfl, ?_⟩
  show xq X d 128 Q 100000 [(0, (2, 67)), (1, (0, l))] [] H
  refine xq_run [4, 15, 37] 300 ?_
  show xq X d 128 Q 4 [(0, (2, 67)), (1, (0, l)), (2, (0, 0)), (3, (0, 0))] [] H
  exact h
theorem U_128_4 {X : Int × (Int → Int)} {d : Nat} {Q : Int → XH → Prop} (hd : 0 ≤ d) (v1 v2 v3 : Int) (H : XH) (h : ((H 67 1 ≤ v3) → Q v2 H) ∧ (¬ (H 67 1 ≤ v3) → xq X d 128 Q 15 [(0, (2, 67)), (1, (0, v1)), (2, (0, v2)), (3, (0, v3)), (4, (0, 0))] [] H)) : xq X d 128 Q 4 [(0, (2, 67)), (1, (0, v1)), (2, (0, v2)), (3, (0, v3))] [] H := by
  show xq X d 128 Q 4 [(0, (2, 67)), (1, (0, v1)), (2, (0, v2)), (3, (0, v3))] [] H
  refine xq_run [4, 15, 37] 300 ?_
  show ((H 67 1 ≤ v3) → xfR 0 v2 ∧ xKZ = xKZ ∧ Q v2 H) ∧ (¬ (H 67 1 ≤ v3) → xq X d 128 Q 15 [(0, (2, 67)), (1, (0, v1)), (2, (0, v2)), (3, (0, v3)), (4, (0, 0))] [] H)
  refine ⟨fun k_ => ?_, fun k_ => ?_⟩
  · replace h := h.1 k_
    exact ⟨trivial, rfl, h⟩
  · replace h := h.2 k_
    exact h
theorem U_128_15 {X : Int × (Int → Int)} {d : Nat} {Q : Int → XH → Prop} (hd : 6 ≤ d) (v1 v2 v3 v4 : Int) (H : XH) (h : (xI (v1 + v4)) ∧ ((H 68 1 ≤ v1 + v4) → ((v4 ≤ v2) → (xI (v3 + 1)) ∧ xq X d 128 Q 4 [(0, (2, 67)), (1, (0, v1)), (2, (0, v2)), (3, (0, v3 + 1))] [] H) ∧ (¬ (v4 ≤ v2) → (xI (v3 + 1)) ∧ xq X d 128 Q 4 [(0, (2, 67)), (1, (0, v1)), (2, (0, v4)), (3, (0, v3 + 1))] [] H)) ∧ (¬ (H 68 1 ≤ v1 + v4) → (xI (v1 + v4)) ∧ (GOk (H 67 0) (H 67 1) (H 68)) ∧ (0 ≤ v1 + v4 ∧ v1 + v4 < H 68 1) ∧ (0 ≤ v3 ∧ v3 < H 67 1) ∧ (∀ (h60 : XH), (frM H h60) → ((alB (H 67 0) (H 67 1) (H 68) (v1 + v4) v3 = 0) → ((v4 ≤ v2) → (xI (v3 + 1)) ∧ xq X d 128 Q 4 [(0, (2, 67)), (1, (0, v1)), (2, (0, v2)), (3, (0, v3 + 1))] [] h60) ∧ (¬ (v4 ≤ v2) → (xI (v3 + 1)) ∧ xq X d 128 Q 4 [(0, (2, 67)), (1, (0, v1)), (2, (0, v4)), (3, (0, v3 + 1))] [] h60)) ∧ (¬ (alB (H 67 0) (H 67 1) (H 68) (v1 + v4) v3 = 0) → (xI (v4 + 1)) ∧ xq X d 128 Q 15 [(0, (2, 67)), (1, (0, v1)), (2, (0, v2)), (3, (0, v3)), (4, (0, v4 + 1))] [] h60)))) : xq X d 128 Q 15 [(0, (2, 67)), (1, (0, v1)), (2, (0, v2)), (3, (0, v3)), (4, (0, v4))] [] H := by
  show xq X d 128 Q 15 [(0, (2, 67)), (1, (0, v1)), (2, (0, v2)), (3, (0, v3)), (4, (0, v4))] [] H
  refine xq_run [4, 15, 37] 300 ?_
  show (xI (v1 + v4)) ∧ ((0 : Int) ≤ 1 ∧ (1 : Int) < 1180) ∧ ((H 68 1 ≤ v1 + v4) → ((v4 ≤ v2) → (xI (v3 + 1)) ∧ xq X d 128 Q 4 [(0, (2, 67)), (1, (0, v1)), (2, (0, v2)), (3, (0, v3 + 1))] [] H) ∧ (¬ (v4 ≤ v2) → (xI (v3 + 1)) ∧ xq X d 128 Q 4 [(0, (2, 67)), (1, (0, v1)), (2, (0, v4)), (3, (0, v3 + 1))] [] H)) ∧ (¬ (H 68 1 ≤ v1 + v4) → (xI (v1 + v4)) ∧ xWM (xE X) xMC d 73 [(2, 67), (0, v1 + v4), (0, v3)] xKZ H _)
  refine ⟨h.1, ?_⟩
  replace h := h.2
  refine ⟨⟨by decide, by decide⟩, ?_⟩
  refine ⟨fun k_ => ?_, fun k_ => ?_⟩
  · replace h := h.1 k_
    refine ⟨fun k_ => ?_, fun k_ => ?_⟩
    · replace h := h.1 k_
      refine ⟨h.1, ?_⟩
      replace h := h.2
      exact h
    · replace h := h.2 k_
      refine ⟨h.1, ?_⟩
      replace h := h.2
      exact h
  · replace h := h.2 k_
    refine ⟨h.1, ?_⟩
    replace h := h.2
    refine xc_in (s_73 (by omega) (v1 + v4) v3 H (h.1) (h.2.1) (h.2.2.1) ?_)
    intro h60 q_0
    replace h := h.2.2.2 h60 q_0
    show xq X d 128 Q 37 [(0, (2, 67)), (1, (0, v1)), (2, (0, v2)), (3, (0, v3)), (4, (0, v4))] [(0, alB (H 67 0) (H 67 1) (H 68) (v1 + v4) v3)] h60
    refine xq_run [4, 15, 37] 300 ?_
    show ((alB (H 67 0) (H 67 1) (H 68) (v1 + v4) v3 = 0) → ((v4 ≤ v2) → (xI (v3 + 1)) ∧ xq X d 128 Q 4 [(0, (2, 67)), (1, (0, v1)), (2, (0, v2)), (3, (0, v3 + 1))] [] h60) ∧ (¬ (v4 ≤ v2) → (xI (v3 + 1)) ∧ xq X d 128 Q 4 [(0, (2, 67)), (1, (0, v1)), (2, (0, v4)), (3, (0, v3 + 1))] [] h60)) ∧ (¬ (alB (H 67 0) (H 67 1) (H 68) (v1 + v4) v3 = 0) → (xI (v4 + 1)) ∧ xq X d 128 Q 15 [(0, (2, 67)), (1, (0, v1)), (2, (0, v2)), (3, (0, v3)), (4, (0, v4 + 1))] [] h60)
    refine ⟨fun k_ => ?_, fun k_ => ?_⟩
    · replace h := h.1 k_
      refine ⟨fun k_ => ?_, fun k_ => ?_⟩
      · replace h := h.1 k_
        refine ⟨h.1, ?_⟩
        replace h := h.2
        exact h
      · replace h := h.2 k_
        refine ⟨h.1, ?_⟩
        replace h := h.2
        exact h
    · replace h := h.2 k_
      refine ⟨h.1, ?_⟩
      replace h := h.2
      exact h

theorem s_128 {X : Int × (Int → Int)} {d : Nat} {Q : Int → XH → Prop} (hd : 8 ≤ d) (l : Int) (H : XH) (hg : GOk (H 67 0) (H 67 1) (H 68)) (pl : 0 ≤ l ∧ l < H 68 1) (hQ : ∀ h1 : XH, frM H h1 → Q (tgM (alB (H 67 0) (H 67 1) (H 68)) (H 68 1) l (H 67 1).toNat) h1) : xc X d 128 [(2, 67), (0, l)] H Q := by
  cases d with
  | zero => omega
  | succ d =>
  have nn := hg.nn
  have ww := hg.ww
  have lyb := hg.lyb
  have bnd := hg.bnd
  have keyO : ∀ (k c : Nat) (h : XH), frM H h → c + k = (H 67 1).toNat → xq X d 128 Q 4 [(0, (2, 67)), (1, (0, l)), (2, (0, tgM (alB (H 67 0) (H 67 1) (H 68)) (H 68 1) l c)), (3, (0, (c : Int)))] [] h := by
    intro k
    induction k with
    | zero =>
      intro c h f hc
      have a1 := f.2 1 (by decide)
      have hc' : c = (H 67 1).toNat := by omega
      have q := hQ h f
      rw [← hc'] at q
      refine U_128_4 (by omega) l _ (c : Int) h ?_
      rw [a1]
      refine ⟨fun c1 => ?_, fun c1 => ?_⟩
      · skip
        exact q
      · skip
        exfalso
        omega
    | succ k ih =>
      intro c h f hc
      have a1 := f.2 1 (by decide)
      have rr := runN_at (fun m => alB (H 67 0) (H 67 1) (H 68) m (c : Int)) (H 68 1 - l).toNat l
      have nx : ∀ (t : Int) (h' : XH), frM H h' → t = (if tgM (alB (H 67 0) (H 67 1) (H 68)) (H 68 1) l c < runN (fun m => alB (H 67 0) (H 67 1) (H 68) m (c : Int)) (H 68 1 - l).toNat l then runN (fun m => alB (H 67 0) (H 67 1) (H 68) m (c : Int)) (H 68 1 - l).toNat l else tgM (alB (H 67 0) (H 67 1) (H 68)) (H 68 1) l c) → xq X d 128 Q 4 [(0, (2, 67)), (1, (0, l)), (2, (0, t)), (3, (0, (c : Int) + 1))] [] h' := fun t h' f' ht => by
        rw [ht]
        exact ih (c + 1) h' f' (by omega)
      generalize hR : runN (fun m => alB (H 67 0) (H 67 1) (H 68) m (c : Int)) (H 68 1 - l).toNat l = R at *
      generalize hT : tgM (alB (H 67 0) (H 67 1) (H 68)) (H 68 1) l c = T at *
      have keyI : ∀ (k' : Nat) (m : Int) (h' : XH), frM H h' → 0 ≤ m → l + m + k' = H 68 1 → m + runN (fun m => alB (H 67 0) (H 67 1) (H 68) m (c : Int)) k' (l + m) = R → xq X d 128 Q 15 [(0, (2, 67)), (1, (0, l)), (2, (0, T)), (3, (0, (c : Int))), (4, (0, m))] [] h' := by
        intro k'
        induction k' with
        | zero =>
          intro m h' f' m0 hm hr
          have a1' := f'.2 1 (by decide)
          have a0' := f'.2 0 (by decide)
          have a8' := frM_o f' 68 (by decide) (by decide)
          unfold runN at hr
          rw [Int.add_zero] at hr
          refine U_128_15 (by omega) l T (c : Int) m h' ?_
          rw [a0', a1', a8']
          refine ⟨?_, ?_⟩
          · first | omega | exact hg | (unfold xI; omega) | (exfalso; omega)
          refine ⟨fun e1 => ?_, fun e1 => ?_⟩
          · skip
            refine ⟨fun e2 => ?_, fun e2 => ?_⟩
            · skip
              refine ⟨?_, ?_⟩
              · first | omega | exact hg | (unfold xI; omega) | (exfalso; omega)
              refine nx _ _ f' ?_
              rw [if_neg (by omega)]
            · skip
              refine ⟨?_, ?_⟩
              · first | omega | exact hg | (unfold xI; omega) | (exfalso; omega)
              refine nx _ _ f' ?_
              rw [if_pos (by omega)]
              exact hr
          · skip
            refine ⟨?_, ?_⟩
            · first | omega | exact hg | (unfold xI; omega) | (exfalso; omega)
            refine ⟨?_, ?_⟩
            · first | omega | exact hg | (unfold xI; omega) | (exfalso; omega)
            refine ⟨?_, ?_⟩
            · first | omega | exact hg | (unfold xI; omega) | (exfalso; omega)
            refine ⟨?_, ?_⟩
            · first | omega | exact hg | (unfold xI; omega) | (exfalso; omega)
            intro h61 e3
            refine ⟨fun e4 => ?_, fun e4 => ?_⟩
            · skip
              refine ⟨fun e5 => ?_, fun e5 => ?_⟩
              · skip
                refine ⟨?_, ?_⟩
                · first | omega | exact hg | (unfold xI; omega) | (exfalso; omega)
                exfalso
                omega
              · skip
                refine ⟨?_, ?_⟩
                · first | omega | exact hg | (unfold xI; omega) | (exfalso; omega)
                exfalso
                omega
            · skip
              refine ⟨?_, ?_⟩
              · first | omega | exact hg | (unfold xI; omega) | (exfalso; omega)
              exfalso
              omega
        | succ k' ih' =>
          intro m h' f' m0 hm hr
          have a1' := f'.2 1 (by decide)
          have a0' := f'.2 0 (by decide)
          have a8' := frM_o f' 68 (by decide) (by decide)
          unfold runN at hr
          try dsimp only at hr
          refine U_128_15 (by omega) l T (c : Int) m h' ?_
          rw [a0', a1', a8']
          refine ⟨?_, ?_⟩
          · first | omega | exact hg | (unfold xI; omega) | (exfalso; omega)
          refine ⟨fun e1 => ?_, fun e1 => ?_⟩
          · skip
            refine ⟨fun e2 => ?_, fun e2 => ?_⟩
            · skip
              refine ⟨?_, ?_⟩
              · first | omega | exact hg | (unfold xI; omega) | (exfalso; omega)
              exfalso
              omega
            · skip
              refine ⟨?_, ?_⟩
              · first | omega | exact hg | (unfold xI; omega) | (exfalso; omega)
              exfalso
              omega
          · skip
            refine ⟨?_, ?_⟩
            · first | omega | exact hg | (unfold xI; omega) | (exfalso; omega)
            refine ⟨?_, ?_⟩
            · first | omega | exact hg | (unfold xI; omega) | (exfalso; omega)
            refine ⟨?_, ?_⟩
            · first | omega | exact hg | (unfold xI; omega) | (exfalso; omega)
            refine ⟨?_, ?_⟩
            · first | omega | exact hg | (unfold xI; omega) | (exfalso; omega)
            intro h62 e3
            have ff := e3
            refine ⟨fun e4 => ?_, fun e4 => ?_⟩
            · skip
              refine ⟨fun e5 => ?_, fun e5 => ?_⟩
              · skip
                refine ⟨?_, ?_⟩
                · first | omega | exact hg | (unfold xI; omega) | (exfalso; omega)
                rw [if_pos (by assumption), Int.add_zero] at hr
                refine nx _ _ (frM_trans f' ff) ?_
                rw [if_neg (by omega)]
              · skip
                refine ⟨?_, ?_⟩
                · first | omega | exact hg | (unfold xI; omega) | (exfalso; omega)
                rw [if_pos (by assumption), Int.add_zero] at hr
                refine nx _ _ (frM_trans f' ff) ?_
                rw [if_pos (by omega)]
                exact hr
            · skip
              refine ⟨?_, ?_⟩
              · first | omega | exact hg | (unfold xI; omega) | (exfalso; omega)
              rw [if_neg (by assumption)] at hr
              refine ih' (m + 1) _ (frM_trans f' ff) (by omega) (by omega) ?_
              rw [show l + (m + 1) = l + m + 1 by omega]
              omega
      refine U_128_4 (by omega) l _ (c : Int) h ?_
      rw [a1]
      refine ⟨fun c1 => ?_, fun c1 => ?_⟩
      · skip
        exfalso
        omega
      · skip
        refine keyI (H 68 1 - l).toNat 0 h f (by decide) (by omega) ?_
        rw [Int.add_zero, Int.zero_add]
        exact hR
  refine U_128 (by omega) l H ?_
  exact keyO (H 67 1).toNat 0 H (frM_refl H) (by omega)

theorem U_129 {X : Int × (Int → Int)} {d : Nat} {Q : Int → XH → Prop} (hd : 0 ≤ d) (i : Int) (H : XH) (h : (((-1) ≤ i) → xq X d 129 Q 14 [(0, (2, 67)), (1, (0, i)), (2, (0, 0)), (3, (0, (-1))), (4, (0, 0))] [] H) ∧ (¬ ((-1) ≤ i) → Q (-1) H)) : xc X (d + 1) 129 [(2, 67), (0, i)] H Q := by
  refine ⟨rfl, ?_⟩
  show xq X d 129 Q 100000 [(0, (2, 67)), (1, (0, i))] [] H
  refine xq_run [14, 31] 300 ?_
  show (((-1) ≤ i) → xq X d 129 Q 14 [(0, (2, 67)), (1, (0, i)), (2, (0, 0)), (3, (0, (-1))), (4, (0, 0))] [] H) ∧ (¬ ((-1) ≤ i) → xfR 0 (-1) ∧ xKZ = xKZ ∧ Q (-1) H)
  refine ⟨fun k_ => ?_, fun k_ => ?_⟩
  · replace h := h.1 k_
    exact h
  · replace h := h.2 k_
    exact ⟨trivial, rfl, h⟩
theorem U_129_14 {X : Int × (Int → Int)} {d : Nat} {Q : Int → XH → Prop} (hd : 8 ≤ d) (v1 v2 v3 v4 : Int) (H : XH) (h : ((H 68 1 ≤ v4) → ((¬ v1 = (-1)) → Q v3 H) ∧ (¬ (¬ v1 = (-1)) → Q v2 H)) ∧ (¬ (H 68 1 ≤ v4) → (GOk (H 67 0) (H 67 1) (H 68)) ∧ (0 ≤ v4 ∧ v4 < H 68 1) ∧ (∀ (h63 : XH), (frM H h63) → ((¬ tgM (alB (H 67 0) (H 67 1) (H 68)) (H 68 1) v4 (H 67 1).toNat = 0) → ((¬ v2 = v1) → (xI (v2 + 1)) ∧ (xI (v4 + (tgM (alB (H 67 0) (H 67 1) (H 68)) (H 68 1) v4 (H 67 1).toNat))) ∧ xq X d 129 Q 14 [(0, (2, 67)), (1, (0, v1)), (2, (0, v2 + 1)), (3, (0, v3)), (4, (0, v4 + (tgM (alB (H 67 0) (H 67 1) (H 68)) (H 68 1) v4 (H 67 1).toNat)))] [] h63) ∧ (¬ (¬ v2 = v1) → (xI (v2 + 1)) ∧ (xI (v4 + (tgM (alB (H 67 0) (H 67 1) (H 68)) (H 68 1) v4 (H 67 1).toNat))) ∧ xq X d 129 Q 14 [(0, (2, 67)), (1, (0, v1)), (2, (0, v2 + 1)), (3, (0, v4)), (4, (0, v4 + (tgM (alB (H 67 0) (H 67 1) (H 68)) (H 68 1) v4 (H 67 1).toNat)))] [] h63)) ∧ (¬ (¬ tgM (alB (H 67 0) (H 67 1) (H 68)) (H 68 1) v4 (H 67 1).toNat = 0) → Q (-1) h63)))) : xq X d 129 Q 14 [(0, (2, 67)), (1, (0, v1)), (2, (0, v2)), (3, (0, v3)), (4, (0, v4))] [] H := by
  show xq X d 129 Q 14 [(0, (2, 67)), (1, (0, v1)), (2, (0, v2)), (3, (0, v3)), (4, (0, v4))] [] H
  refine xq_run [14, 31] 300 ?_
  show ((0 : Int) ≤ 1 ∧ (1 : Int) < 1180) ∧ ((H 68 1 ≤ v4) → ((¬ v1 = (-1)) → xfR 0 v3 ∧ xKZ = xKZ ∧ Q v3 H) ∧ (¬ (¬ v1 = (-1)) → xfR 0 v2 ∧ xKZ = xKZ ∧ Q v2 H)) ∧ (¬ (H 68 1 ≤ v4) → xWM (xE X) xMC d 128 [(2, 67), (0, v4)] xKZ H _)
  refine ⟨⟨by decide, by decide⟩, ?_⟩
  refine ⟨fun k_ => ?_, fun k_ => ?_⟩
  · replace h := h.1 k_
    refine ⟨fun k_ => ?_, fun k_ => ?_⟩
    · replace h := h.1 k_
      exact ⟨trivial, rfl, h⟩
    · replace h := h.2 k_
      exact ⟨trivial, rfl, h⟩
  · replace h := h.2 k_
    refine xc_in (s_128 (by omega) v4 H (h.1) (h.2.1) ?_)
    intro h63 q_0
    replace h := h.2.2 h63 q_0
    show xq X d 129 Q 31 [(0, (2, 67)), (1, (0, v1)), (2, (0, v2)), (3, (0, v3)), (4, (0, v4))] [(0, tgM (alB (H 67 0) (H 67 1) (H 68)) (H 68 1) v4 (H 67 1).toNat)] h63
    refine xq_run [14, 31] 300 ?_
    show ((¬ tgM (alB (H 67 0) (H 67 1) (H 68)) (H 68 1) v4 (H 67 1).toNat = 0) → ((¬ v2 = v1) → (xI (v2 + 1)) ∧ (xI (v4 + (tgM (alB (H 67 0) (H 67 1) (H 68)) (H 68 1) v4 (H 67 1).toNat))) ∧ xq X d 129 Q 14 [(0, (2, 67)), (1, (0, v1)), (2, (0, v2 + 1)), (3, (0, v3)), (4, (0, v4 + (tgM (alB (H 67 0) (H 67 1) (H 68)) (H 68 1) v4 (H 67 1).toNat)))] [] h63) ∧ (¬ (¬ v2 = v1) → (xI (v2 + 1)) ∧ (xI (v4 + (tgM (alB (H 67 0) (H 67 1) (H 68)) (H 68 1) v4 (H 67 1).toNat))) ∧ xq X d 129 Q 14 [(0, (2, 67)), (1, (0, v1)), (2, (0, v2 + 1)), (3, (0, v4)), (4, (0, v4 + (tgM (alB (H 67 0) (H 67 1) (H 68)) (H 68 1) v4 (H 67 1).toNat)))] [] h63)) ∧ (¬ (¬ tgM (alB (H 67 0) (H 67 1) (H 68)) (H 68 1) v4 (H 67 1).toNat = 0) → xfR 0 (-1) ∧ xKZ = xKZ ∧ Q (-1) h63)
    refine ⟨fun k_ => ?_, fun k_ => ?_⟩
    · replace h := h.1 k_
      refine ⟨fun k_ => ?_, fun k_ => ?_⟩
      · replace h := h.1 k_
        refine ⟨h.1, ?_⟩
        replace h := h.2
        refine ⟨h.1, ?_⟩
        replace h := h.2
        exact h
      · replace h := h.2 k_
        refine ⟨h.1, ?_⟩
        replace h := h.2
        refine ⟨h.1, ?_⟩
        replace h := h.2
        exact h
    · replace h := h.2 k_
      exact ⟨trivial, rfl, h⟩

theorem s_129 {X : Int × (Int → Int)} {d : Nat} {Q : Int → XH → Prop} (hd : 12 ≤ d) (i : Int) (H : XH) (hg : GOk (H 67 0) (H 67 1) (H 68)) (hQ : ∀ h1 : XH, frM H h1 → Q (vJ (H 67 0) (H 67 1) (H 68) i) h1) : xc X d 129 [(2, 67), (0, i)] H Q := by
  cases d with
  | zero => omega
  | succ d =>
  have nn := hg.nn
  have ww := hg.ww
  have lyb := hg.lyb
  have bnd := hg.bnd
  have key : -1 ≤ i → ∀ (F : Nat) (l m f : Int) (h : XH), frM H h → 0 ≤ l → l ≤ H 68 1 → H 68 1 - l ≤ F → 0 ≤ m → m ≤ l → jC (alB (H 67 0) (H 67 1) (H 68)) (H 67 1).toNat i (H 68 1 - l).toNat l (fun _ => 0) m f = vJ (H 67 0) (H 67 1) (H 68) i → xq X d 129 Q 14 [(0, (2, 67)), (1, (0, i)), (2, (0, m)), (3, (0, f)), (4, (0, l))] [] h := by
    intro pi F
    have done : ∀ (l m f : Int) (h : XH), frM H h → H 68 1 ≤ l → jC (alB (H 67 0) (H 67 1) (H 68)) (H 67 1).toNat i (H 68 1 - l).toNat l (fun _ => 0) m f = vJ (H 67 0) (H 67 1) (H 68) i → Q (if i = -1 then m else f) h := by
      intro l m f h fr hl hV
      have q := hQ h fr
      rw [← hV, show (H 68 1 - l).toNat = 0 by omega] at q
      exact q
    induction F with
    | zero =>
      intro l m f h fr l0 l1 hF m0 ml hV
      have a0 := fr.2 0 (by decide)
      have a1 := fr.2 1 (by decide)
      have a8 := frM_o fr 68 (by decide) (by decide)
      have q := done l m f h fr (by omega) hV
      refine U_129_14 (by omega) i m f l h ?_
      rw [a0, a1, a8]
      refine ⟨fun e1 => ?_, fun e1 => ?_⟩
      · skip
        refine ⟨fun e2 => ?_, fun e2 => ?_⟩
        · skip
          rw [if_neg (by omega)] at q
          exact q
        · skip
          rw [if_pos (by omega)] at q
          exact q
      · skip
        refine ⟨?_, ?_⟩
        · first | omega | exact hg | (unfold xI; omega) | (exfalso; omega)
        refine ⟨?_, ?_⟩
        · first | omega | exact hg | (unfold xI; omega) | (exfalso; omega)
        intro h64 e3
        refine ⟨fun e4 => ?_, fun e4 => ?_⟩
        · skip
          refine ⟨fun e5 => ?_, fun e5 => ?_⟩
          · skip
            refine ⟨?_, ?_⟩
            · first | omega | exact hg | (unfold xI; omega) | (exfalso; omega)
            refine ⟨?_, ?_⟩
            · first | omega | exact hg | (unfold xI; omega) | (exfalso; omega)
            exfalso
            omega
          · skip
            refine ⟨?_, ?_⟩
            · first | omega | exact hg | (unfold xI; omega) | (exfalso; omega)
            refine ⟨?_, ?_⟩
            · first | omega | exact hg | (unfold xI; omega) | (exfalso; omega)
            exfalso
            omega
        · skip
          exfalso
          omega
    | succ F ih =>
      intro l m f h fr l0 l1 hF m0 ml hV
      have a0 := fr.2 0 (by decide)
      have a1 := fr.2 1 (by decide)
      have a8 := frM_o fr 68 (by decide) (by decide)
      have q := done l m f h fr
      have J := jC_jump (alB (H 67 0) (H 67 1) (H 68)) (H 67 1).toNat i (H 68 1) l m f
      generalize hT : tgM (alB (H 67 0) (H 67 1) (H 68)) (H 68 1) l (H 67 1).toNat = T at *
      refine U_129_14 (by omega) i m f l h ?_
      rw [a0, a1, a8, hT]
      refine ⟨fun e1 => ?_, fun e1 => ?_⟩
      · skip
        refine ⟨fun e2 => ?_, fun e2 => ?_⟩
        · skip
          have q := q (by omega) hV
          rw [if_neg (by omega)] at q
          exact q
        · skip
          have q := q (by omega) hV
          rw [if_pos (by omega)] at q
          exact q
      · skip
        refine ⟨?_, ?_⟩
        · first | omega | exact hg | (unfold xI; omega) | (have J := (J (by omega)).2 (by assumption); unfold xI; omega) | (exfalso; omega)
        refine ⟨?_, ?_⟩
        · first | omega | exact hg | (unfold xI; omega) | (have J := (J (by omega)).2 (by assumption); unfold xI; omega) | (exfalso; omega)
        intro h65 e3
        have ff := e3
        refine ⟨fun e4 => ?_, fun e4 => ?_⟩
        · skip
          refine ⟨fun e5 => ?_, fun e5 => ?_⟩
          · skip
            refine ⟨?_, ?_⟩
            · first | omega | exact hg | (unfold xI; omega) | (have J := (J (by omega)).2 (by assumption); unfold xI; omega) | (exfalso; omega)
            refine ⟨?_, ?_⟩
            · first | omega | exact hg | (unfold xI; omega) | (have J := (J (by omega)).2 (by assumption); unfold xI; omega) | (exfalso; omega)
            have J := (J (by omega)).2 (by assumption)
            rw [hV, if_neg (by omega)] at J
            exact ih (l + T) (m + 1) f _ (frM_trans fr ff) (by omega) (by omega) (by omega) (by omega) (by omega) J.2.2.symm
          · skip
            refine ⟨?_, ?_⟩
            · first | omega | exact hg | (unfold xI; omega) | (have J := (J (by omega)).2 (by assumption); unfold xI; omega) | (exfalso; omega)
            refine ⟨?_, ?_⟩
            · first | omega | exact hg | (unfold xI; omega) | (have J := (J (by omega)).2 (by assumption); unfold xI; omega) | (exfalso; omega)
            have J := (J (by omega)).2 (by assumption)
            rw [hV, if_pos (by omega)] at J
            exact ih (l + T) (m + 1) l _ (frM_trans fr ff) (by omega) (by omega) (by omega) (by omega) (by omega) J.2.2.symm
        · skip
          have J := (J (by omega)).1 (by omega)
          have k := hQ _ (frM_trans fr ff)
          rw [← hV, J] at k
          exact k
  refine U_129 (by omega) i H ?_
  refine ⟨fun c1 => ?_, fun c1 => ?_⟩
  · skip
    refine key (by omega) (H 68 1).toNat 0 0 (-1) H (frM_refl H) (by decide) (by omega) (by omega) (by decide) (by decide) ?_
    unfold vJ
    rw [if_pos (by omega), Int.sub_zero]
  · skip
    have k := hQ _ (frM_refl H)
    unfold vJ at k
    rw [if_neg (by omega)] at k
    exact k

theorem p_journey {X : Int × (Int → Int)} {d : Nat} (hd : 12 ≤ d) (i : Int) (H : XH) (hi : InvS H) : xc X d 127 [(2, 0), (0, i)] H (fun r H1 => xc X d 129 [(2, 67), (0, i)] H1 (qOk H r)) :=
  s_127 (by omega) i H hi (fun h1 f => s_129 (by omega) i h1 (frC_S f hi).1 (fun h2 f' => ⟨by rw [f 67 (by decide) (by decide), f 68 (by decide) (by decide)], frQ_CM f f'⟩))

def trA (w n : Int) (g : Int → Int) (c : Int) (l : Nat) : Int := alB w n g l c
def trW (w n : Int) (g : Int → Int) (c : Nat) : Int := if g (160 + (c : Int)) = 0 ∧ g (90 + (c : Int)) = -1 ∧ g (20 + (c : Int)) = 0 then nrS w n (fun e => g (160 + e)) c * cS (trA w n g c) (g 1).toNat else 0
def trM (W : Nat → Int) : Nat → Int
  | 0 => 0
  | c + 1 => if trM W c < W c then W c else trM W c
def trC (W : Nat → Int) : Nat → Int
  | 0 => -1
  | c + 1 => if trM W c < W c then (c : Int) else trC W c
theorem trM_rng (W : Nat → Int) : ∀ c : Nat, (trM W c = 0 ∧ trC W c = -1) ∨ (1 ≤ trM W c ∧ 0 ≤ trC W c)
  | 0 => Or.inl ⟨rfl, rfl⟩
  | c + 1 => by
    have ih := trM_rng W c
    unfold trM trC
    split
    · exact Or.inr ⟨by omega, by omega⟩
    · exact ih
theorem trM_no {W : Nat → Int} : ∀ c : Nat, (∀ e, e < c → W e ≤ 0) → trM W c = 0 ∧ trC W c = -1
  | 0, _ => ⟨rfl, rfl⟩
  | c + 1, h => by
    have ih := trM_no c (fun e q => h e (by omega))
    have k := h c (by omega)
    unfold trM trC
    rw [if_neg (by omega), if_neg (by omega)]
    exact ih
theorem trA_rng (w n : Int) (g : Int → Int) (c : Int) (k : Nat) : 0 ≤ cS (trA w n g c) k ∧ cS (trA w n g c) k ≤ k := by
  have := cS_rng (f := trA w n g c) (M := 1) k (fun i _ => alB_01 w n g i c)
  omega
theorem trP_rng {w n : Int} {g : Int → Int} (hg : GOk w n g) {c : Int} (hc : 0 ≤ c ∧ c < n) (k : Nat) (hk : k ≤ 8) : -8 ≤ nrS w n (fun e => g (160 + e)) c * cS (trA w n g c) k ∧ nrS w n (fun e => g (160 + e)) c * cS (trA w n g c) k ≤ 568 := by
  have ww := hg.ww
  have nn := hg.nn
  have a := trA_rng w n g c k
  rcases nrS_at (w := w) (n := n) (dg := fun e => g (160 + e)) (c := c) (by omega) (by omega) (by omega) with ⟨h, -⟩ | ⟨h, o, o1, o2, -, o3⟩
  · rw [h, Int.neg_one_mul]
    omega
  · have b := btw_rng (w := w) (c := c) (e := o) (by omega) (by omega) (by omega)
    have := mulB (x := nrS w n (fun e => g (160 + e)) c) (y := cS (trA w n g c) k) (A := 71) (B := 8) (by omega) (by omega)
    omega
theorem trW_no {w n : Int} {g : Int → Int} (hg : GOk w n g) (h0 : g 0 ≤ 0) (k : Nat) (hk : (k : Int) ≤ n) : trM (trW w n g) k = 0 ∧ trC (trW w n g) k = -1 := by
  have ww := hg.ww
  have nn := hg.nn
  have z : g 0 = 0 := by
    have := sumTo_nn (f := fun e => g (160 + e)) (n := 64) (by decide) (fun e a b => by have := hg.dgb e a b; omega)
    have := hg.dgs
    omega
  have dz := dug_none hg z
  refine trM_no k (fun e he => ?_)
  have a := trA_rng w n g e (g 1).toNat
  unfold trW
  split
  · rcases nrS_at (w := w) (n := n) (dg := fun e => g (160 + e)) (c := e) (by omega) (by omega) (by omega) with ⟨h, -⟩ | ⟨h, o, o1, o2, o3, o4⟩
    · rw [h, Int.neg_one_mul]
      omega
    · exact absurd (dz o o1 (by omega)) o3
  · exact Int.le_refl _
def vTr (w n : Int) (g : Int → Int) (i : Int) : Int := if 0 ≤ i ∧ i ≤ 1 then (if trC (trW w n g) n.toNat = -1 then -1 else if i = 0 then trC (trW w n g) n.toNat else trM (trW w n g) n.toNat) else -1
/-- but for two fields of the survey -/
def trI (H h : XH) : Prop := (∀ o, ¬ o = 39 → h o = H o) ∧ h 39 6 = H 39 6 ∧ h 39 7 = H 39 7 ∧ h 39 8 = H 39 8

theorem U_130 {X : Int × (Int → Int)} {d : Nat} {Q : Int → XH → Prop} (hd : 0 ≤ d) (w n : Int) (g : Int → Int) (H : XH) (h : xq X d 130 Q 12 [(0, (2, 39)), (1, (2, 2)), (2, (0, 0))] [] (xup (xup H 39 9 (-1)) 39 10 (-1))) : xc X (d + 1) 130 [(2, 39), (2, 2)] H Q := by
  refine ⟨rfl, ?_⟩
  show xq X d 130 Q 100000 [(0, (2, 39)), (1, (2, 2))] [] H
  refine xq_run [12, 56, 72, 89] 300 ?_
  show xq X d 130 Q 12 [(0, (2, 39)), (1, (2, 2)), (2, (0, 0))] [] (xup (xup H 39 9 (-1)) 39 10 (-1))
  exact h
theorem U_130_12 {X : Int × (Int → Int)} {d : Nat} {Q : Int → XH → Prop} (hd : 0 ≤ d) (v2 : Int) (w n : Int) (g : Int → Int) (H : XH) (h : ((H 39 6 ≤ v2) → Q 0 H) ∧ (¬ (H 39 6 ≤ v2) → ((0 : Int) ≤ v2 ∧ (v2 : Int) < 64) ∧ ((¬ H 4 v2 = 0) → (xI (v2 + 1)) ∧ xq X d 130 Q 12 [(0, (2, 39)), (1, (2, 2)), (2, (0, v2 + 1))] [] H) ∧ (¬ (¬ H 4 v2 = 0) → ((0 : Int) ≤ v2 ∧ (v2 : Int) < 64) ∧ ((¬ H 5 v2 = (-1)) → (xI (v2 + 1)) ∧ xq X d 130 Q 12 [(0, (2, 39)), (1, (2, 2)), (2, (0, v2 + 1))] [] H) ∧ (¬ (¬ H 5 v2 = (-1)) → ((0 : Int) ≤ v2 ∧ (v2 : Int) < 64) ∧ ((H 6 v2 = 0) → xq X d 130 Q 56 [(0, (2, 39)), (1, (2, 2)), (2, (0, v2)), (3, (0, 0)), (4, (0, 0))] [] H) ∧ (¬ (H 6 v2 = 0) → (xI (v2 + 1)) ∧ xq X d 130 Q 12 [(0, (2, 39)), (1, (2, 2)), (2, (0, v2 + 1))] [] H))))) : xq X d 130 Q 12 [(0, (2, 39)), (1, (2, 2)), (2, (0, v2))] [] H := by
  show xq X d 130 Q 12 [(0, (2, 39)), (1, (2, 2)), (2, (0, v2))] [] H
  refine xq_run [12, 56, 72, 89] 300 ?_
  show ((H 39 6 ≤ v2) → xfR 2 0 ∧ xKZ = xKZ ∧ Q 0 H) ∧ (¬ (H 39 6 ≤ v2) → ((0 : Int) ≤ v2 ∧ (v2 : Int) < 64) ∧ ((¬ H 4 v2 = 0) → (xI (v2 + 1)) ∧ xq X d 130 Q 12 [(0, (2, 39)), (1, (2, 2)), (2, (0, v2 + 1))] [] H) ∧ (¬ (¬ H 4 v2 = 0) → ((0 : Int) ≤ v2 ∧ (v2 : Int) < 64) ∧ ((¬ H 5 v2 = (-1)) → (xI (v2 + 1)) ∧ xq X d 130 Q 12 [(0, (2, 39)), (1, (2, 2)), (2, (0, v2 + 1))] [] H) ∧ (¬ (¬ H 5 v2 = (-1)) → ((0 : Int) ≤ v2 ∧ (v2 : Int) < 64) ∧ ((H 6 v2 = 0) → xq X d 130 Q 56 [(0, (2, 39)), (1, (2, 2)), (2, (0, v2)), (3, (0, 0)), (4, (0, 0))] [] H) ∧ (¬ (H 6 v2 = 0) → (xI (v2 + 1)) ∧ xq X d 130 Q 12 [(0, (2, 39)), (1, (2, 2)), (2, (0, v2 + 1))] [] H))))
  refine ⟨fun k_ => ?_, fun k_ => ?_⟩
  · replace h := h.1 k_
    exact ⟨trivial, rfl, h⟩
  · replace h := h.2 k_
    refine ⟨h.1, ?_⟩
    replace h := h.2
    refine ⟨fun k_ => ?_, fun k_ => ?_⟩
    · replace h := h.1 k_
      refine ⟨h.1, ?_⟩
      replace h := h.2
      exact h
    · replace h := h.2 k_
      refine ⟨h.1, ?_⟩
      replace h := h.2
      refine ⟨fun k_ => ?_, fun k_ => ?_⟩
      · replace h := h.1 k_
        refine ⟨h.1, ?_⟩
        replace h := h.2
        exact h
      · replace h := h.2 k_
        refine ⟨h.1, ?_⟩
        replace h := h.2
        refine ⟨fun k_ => ?_, fun k_ => ?_⟩
        · replace h := h.1 k_
          exact h
        · replace h := h.2 k_
          refine ⟨h.1, ?_⟩
          replace h := h.2
          exact h
theorem U_130_56 {X : Int × (Int → Int)} {d : Nat} {Q : Int → XH → Prop} (hd : 3 ≤ d) (v2 v3 v4 : Int) (w n : Int) (g : Int → Int) (H : XH) (h : ((H 39 7 ≤ v4) → (1 ≤ H 2 0 ∧ H 2 0 ≤ 8) ∧ (0 ≤ H 2 2 ∧ H 2 2 ≤ 64) ∧ (0 ≤ v2 ∧ v2 < 64) ∧ ((xI ((nrS (H 2 0) (H 2 2) (fun e => H 4 e) v2) * v3)) ∧ (((nrS (H 2 0) (H 2 2) (fun e => H 4 e) v2) * v3 < 1) → (xI (v2 + 1)) ∧ xq X d 130 Q 12 [(0, (2, 39)), (1, (2, 2)), (2, (0, v2 + 1))] [] H) ∧ (¬ ((nrS (H 2 0) (H 2 2) (fun e => H 4 e) v2) * v3 < 1) → ((H 39 10 < (nrS (H 2 0) (H 2 2) (fun e => H 4 e) v2) * v3) → (xI (v2 + 1)) ∧ xq X d 130 Q 12 [(0, (2, 39)), (1, (2, 2)), (2, (0, v2 + 1))] [] (xup (xup H 39 9 v2) 39 10 ((nrS (H 2 0) (H 2 2) (fun e => H 4 e) v2) * v3))) ∧ (¬ (H 39 10 < (nrS (H 2 0) (H 2 2) (fun e => H 4 e) v2) * v3) → (xI (v2 + 1)) ∧ xq X d 130 Q 12 [(0, (2, 39)), (1, (2, 2)), (2, (0, v2 + 1))] [] H)))) ∧ (¬ (H 39 7 ≤ v4) → (lkA w n g H) ∧ (0 ≤ v4 ∧ v4 < g 1) ∧ (0 ≤ v2 ∧ v2 < n) ∧ (((alB w n g v4 v2 = 0) → (xI (v4 + 1)) ∧ xq X d 130 Q 56 [(0, (2, 39)), (1, (2, 2)), (2, (0, v2)), (3, (0, v3)), (4, (0, v4 + 1))] [] H) ∧ (¬ (alB w n g v4 v2 = 0) → (xI (v3 + 1)) ∧ (xI (v4 + 1)) ∧ xq X d 130 Q 56 [(0, (2, 39)), (1, (2, 2)), (2, (0, v2)), (3, (0, v3 + 1)), (4, (0, v4 + 1))] [] H)))) : xq X d 130 Q 56 [(0, (2, 39)), (1, (2, 2)), (2, (0, v2)), (3, (0, v3)), (4, (0, v4))] [] H := by
  show xq X d 130 Q 56 [(0, (2, 39)), (1, (2, 2)), (2, (0, v2)), (3, (0, v3)), (4, (0, v4))] [] H
  refine xq_run [12, 56, 72, 89] 300 ?_
  show ((H 39 7 ≤ v4) → xWM (xE X) xMC d 35 [(2, 2), (0, v2)] xKZ H _) ∧ (¬ (H 39 7 ≤ v4) → xWM (xE X) xMC d 68 [(2, 39), (0, v4), (0, v2)] xKZ H _)
  refine ⟨fun k_ => ?_, fun k_ => ?_⟩
  · replace h := h.1 k_
    refine xc_in (s_35 (by omega) v2 H (h.1) (h.2.1) (h.2.2.1) ?_)
    replace h := h.2.2.2
    show xq X d 130 Q 89 [(0, (2, 39)), (1, (2, 2)), (2, (0, v2)), (3, (0, v3)), (4, (0, v4))] [(0, nrS (H 2 0) (H 2 2) (fun e => H 4 e) v2)] H
    refine xq_run [12, 56, 72, 89] 300 ?_
    show (xI ((nrS (H 2 0) (H 2 2) (fun e => H 4 e) v2) * v3)) ∧ (((nrS (H 2 0) (H 2 2) (fun e => H 4 e) v2) * v3 < 1) → (xI (v2 + 1)) ∧ xq X d 130 Q 12 [(0, (2, 39)), (1, (2, 2)), (2, (0, v2 + 1))] [] H) ∧ (¬ ((nrS (H 2 0) (H 2 2) (fun e => H 4 e) v2) * v3 < 1) → ((H 39 10 < (nrS (H 2 0) (H 2 2) (fun e => H 4 e) v2) * v3) → (xI (v2 + 1)) ∧ xq X d 130 Q 12 [(0, (2, 39)), (1, (2, 2)), (2, (0, v2 + 1))] [] (xup (xup H 39 9 v2) 39 10 ((nrS (H 2 0) (H 2 2) (fun e => H 4 e) v2) * v3))) ∧ (¬ (H 39 10 < (nrS (H 2 0) (H 2 2) (fun e => H 4 e) v2) * v3) → (xI (v2 + 1)) ∧ xq X d 130 Q 12 [(0, (2, 39)), (1, (2, 2)), (2, (0, v2 + 1))] [] H))
    refine ⟨h.1, ?_⟩
    replace h := h.2
    refine ⟨fun k_ => ?_, fun k_ => ?_⟩
    · replace h := h.1 k_
      refine ⟨h.1, ?_⟩
      replace h := h.2
      exact h
    · replace h := h.2 k_
      refine ⟨fun k_ => ?_, fun k_ => ?_⟩
      · replace h := h.1 k_
        refine ⟨h.1, ?_⟩
        replace h := h.2
        exact h
      · replace h := h.2 k_
        refine ⟨h.1, ?_⟩
        replace h := h.2
        exact h
  · replace h := h.2 k_
    refine xc_in (s_68 (by omega) w n g v4 v2 H (h.1) (h.2.1) (h.2.2.1) ?_)
    replace h := h.2.2.2
    show xq X d 130 Q 72 [(0, (2, 39)), (1, (2, 2)), (2, (0, v2)), (3, (0, v3)), (4, (0, v4))] [(0, alB w n g v4 v2)] H
    refine xq_run [12, 56, 72, 89] 300 ?_
    show ((alB w n g v4 v2 = 0) → (xI (v4 + 1)) ∧ xq X d 130 Q 56 [(0, (2, 39)), (1, (2, 2)), (2, (0, v2)), (3, (0, v3)), (4, (0, v4 + 1))] [] H) ∧ (¬ (alB w n g v4 v2 = 0) → (xI (v3 + 1)) ∧ (xI (v4 + 1)) ∧ xq X d 130 Q 56 [(0, (2, 39)), (1, (2, 2)), (2, (0, v2)), (3, (0, v3 + 1)), (4, (0, v4 + 1))] [] H)
    refine ⟨fun k_ => ?_, fun k_ => ?_⟩
    · replace h := h.1 k_
      refine ⟨h.1, ?_⟩
      replace h := h.2
      exact h
    · replace h := h.2 k_
      refine ⟨h.1, ?_⟩
      replace h := h.2
      refine ⟨h.1, ?_⟩
      replace h := h.2
      exact h

theorem s_130 {X : Int × (Int → Int)} {d : Nat} {Q : Int → XH → Prop} (hd : 7 ≤ d) (H : XH) (hi : InvS H) (hk : lkA (H 67 0) (H 67 1) (H 68) H) (hQ : ∀ h1 : XH, (frC H h1 ∧ h1 39 9 = trC (trW (H 67 0) (H 67 1) (H 68)) (H 67 1).toNat ∧ h1 39 10 = if trM (trW (H 67 0) (H 67 1) (H 68)) (H 67 1).toNat = 0 then -1 else trM (trW (H 67 0) (H 67 1) (H 68)) (H 67 1).toNat) → Q 0 h1) : xc X d 130 [(2, 39), (2, 2)] H Q := by
  cases d with
  | zero => omega
  | succ d =>
  obtain ⟨hg, e6, e7, e8, hk2⟩ := id hk
  have nn := hg.nn
  have ww := hg.ww
  have lyb := hg.lyb
  have bnd := hg.bnd
  have hs := hi.2
  have l0 := hs.l0
  have l2 := hs.l2
  have lk2 : ∀ h : XH, trI H h → lkA (H 67 0) (H 67 1) (H 68) h := fun h q => by
    unfold lkA lkOk
    rw [q.1 40 (by decide), q.1 41 (by decide), q.1 42 (by decide), q.2.1, q.2.2.1, q.2.2.2]
    exact hk
  have en : ∀ c, nrS (H 2 0) (H 2 2) (fun e => H 4 e) c = nrS (H 67 0) (H 67 1) (fun e => H 68 (160 + e)) c := fun c => by
    rw [l0, l2]
    exact nrS_congr (fun e a b => hs.i e a (by omega)) c
  have keyO : ∀ (k c : Nat) (h : XH), trI H h → c + k = (H 67 1).toNat → h 39 9 = trC (trW (H 67 0) (H 67 1) (H 68)) c → h 39 10 = (if trM (trW (H 67 0) (H 67 1) (H 68)) c = 0 then -1 else trM (trW (H 67 0) (H 67 1) (H 68)) c) → xq X d 130 Q 12 [(0, (2, 39)), (1, (2, 2)), (2, (0, (c : Int)))] [] h := by
    intro k
    induction k with
    | zero =>
      intro c h f hc h9 h10
      have hc' : c = (H 67 1).toNat := by omega
      refine U_130_12 (by omega) (c : Int) (H 67 0) (H 67 1) (H 68) h ?_
      rw [f.2.1]
      refine ⟨fun c1 => ?_, fun c1 => ?_⟩
      · skip
        rw [hc'] at h9 h10
        exact hQ h ⟨fun o a b => f.1 o (by omega), h9, h10⟩
      · skip
        refine ⟨?_, ?_⟩
        · first | omega | (exfalso; omega)
        refine ⟨fun c2 => ?_, fun c2 => ?_⟩
        · skip
          refine ⟨?_, ?_⟩
          · first | omega | (exfalso; omega)
          exfalso
          omega
        · skip
          refine ⟨?_, ?_⟩
          · first | omega | (exfalso; omega)
          refine ⟨fun c3 => ?_, fun c3 => ?_⟩
          · skip
            refine ⟨?_, ?_⟩
            · first | omega | (exfalso; omega)
            exfalso
            omega
          · skip
            refine ⟨?_, ?_⟩
            · first | omega | (exfalso; omega)
            refine ⟨fun c4 => ?_, fun c4 => ?_⟩
            · skip
              exfalso
              omega
            · skip
              refine ⟨?_, ?_⟩
              · first | omega | (exfalso; omega)
              exfalso
              omega
    | succ k ih =>
      intro c h f hc h9 h10
      have f2 := f.1 2 (by decide)
      have f4 := f.1 4 (by decide)
      have f5 := f.1 5 (by decide)
      have f6 := f.1 6 (by decide)
      have c4 := hs.i (c : Int) (by omega) (by omega)
      have c5 := hs.o (c : Int) (by omega) (by omega)
      have c6 := hs.b (c : Int) (by omega) (by omega)
      have rM := trM_rng (trW (H 67 0) (H 67 1) (H 68)) c
      have sM : trM (trW (H 67 0) (H 67 1) (H 68)) (c + 1) = if trM (trW (H 67 0) (H 67 1) (H 68)) c < trW (H 67 0) (H 67 1) (H 68) c then trW (H 67 0) (H 67 1) (H 68) c else trM (trW (H 67 0) (H 67 1) (H 68)) c := rfl
      have sC : trC (trW (H 67 0) (H 67 1) (H 68)) (c + 1) = if trM (trW (H 67 0) (H 67 1) (H 68)) c < trW (H 67 0) (H 67 1) (H 68) c then (c : Int) else trC (trW (H 67 0) (H 67 1) (H 68)) c := rfl
      have stay : trW (H 67 0) (H 67 1) (H 68) c ≤ trM (trW (H 67 0) (H 67 1) (H 68)) c → xq X d 130 Q 12 [(0, (2, 39)), (1, (2, 2)), (2, (0, (c : Int) + 1))] [] h := fun q => by
        have u1 : trC (trW (H 67 0) (H 67 1) (H 68)) (c + 1) = trC (trW (H 67 0) (H 67 1) (H 68)) c := by rw [sC]; exact if_neg (by omega)
        have u2 : trM (trW (H 67 0) (H 67 1) (H 68)) (c + 1) = trM (trW (H 67 0) (H 67 1) (H 68)) c := by rw [sM]; exact if_neg (by omega)
        refine ih (c + 1) h f (by omega) ?_ ?_
        · rw [u1]
          exact h9
        · rw [u2]
          exact h10
      have skip : ¬ (H 68 (160 + (c : Int)) = 0 ∧ H 68 (90 + (c : Int)) = -1 ∧ H 68 (20 + (c : Int)) = 0) → xq X d 130 Q 12 [(0, (2, 39)), (1, (2, 2)), (2, (0, (c : Int) + 1))] [] h := fun q => by
        refine stay ?_
        have u : trW (H 67 0) (H 67 1) (H 68) c = 0 := if_neg q
        omega
      have keyI : (H 68 (160 + (c : Int)) = 0 ∧ H 68 (90 + (c : Int)) = -1 ∧ H 68 (20 + (c : Int)) = 0) → ∀ (k' l : Nat), l + k' = (H 68 1).toNat → xq X d 130 Q 56 [(0, (2, 39)), (1, (2, 2)), (2, (0, (c : Int))), (3, (0, cS (trA (H 67 0) (H 67 1) (H 68) c) l)), (4, (0, (l : Int)))] [] h := by
        intro q k'
        have eW : trW (H 67 0) (H 67 1) (H 68) c = nrS (H 67 0) (H 67 1) (fun e => H 68 (160 + e)) c * cS (trA (H 67 0) (H 67 1) (H 68) c) (H 68 1).toNat := if_pos q
        induction k' with
        | zero =>
          intro l hl
          have hl' : l = (H 68 1).toNat := by omega
          rw [← hl'] at eW
          have pr := trP_rng hg (c := c) (by omega) l (by omega)
          refine U_130_56 (by omega) (c : Int) _ (l : Int) (H 67 0) (H 67 1) (H 68) h ?_
          rw [f2, f4, f.2.2.1, en, ← eW]
          rw [← eW] at pr
          refine ⟨fun e1 => ?_, fun e1 => ?_⟩
          · skip
            refine ⟨?_, ?_⟩
            · first | omega | (unfold xI; omega) | (exfalso; omega)
            refine ⟨?_, ?_⟩
            · first | omega | (unfold xI; omega) | (exfalso; omega)
            refine ⟨?_, ?_⟩
            · first | omega | (unfold xI; omega) | (exfalso; omega)
            refine ⟨?_, ?_⟩
            · first | omega | (unfold xI; omega) | (exfalso; omega)
            refine ⟨fun e2 => ?_, fun e2 => ?_⟩
            · skip
              refine ⟨?_, ?_⟩
              · first | omega | (unfold xI; omega) | (exfalso; omega)
              exact stay (by omega)
            · skip
              refine ⟨fun e3 => ?_, fun e3 => ?_⟩
              · skip
                refine ⟨?_, ?_⟩
                · first | omega | (unfold xI; omega) | (exfalso; omega)
                have u0 : trM (trW (H 67 0) (H 67 1) (H 68)) c < trW (H 67 0) (H 67 1) (H 68) c := by
                  rw [h10] at e3
                  split at e3 <;> omega
                have u1 : trC (trW (H 67 0) (H 67 1) (H 68)) (c + 1) = (c : Int) := by rw [sC]; exact if_pos u0
                have u2 : trM (trW (H 67 0) (H 67 1) (H 68)) (c + 1) = trW (H 67 0) (H 67 1) (H 68) c := by rw [sM]; exact if_pos u0
                refine ih (c + 1) _ ⟨fun o x => by rw [xup_ne x, xup_ne x]; exact f.1 o x, f.2.1, f.2.2.1, f.2.2.2⟩ (by omega) ?_ ?_
                · rw [u1]
                  rfl
                · rw [u2, if_neg (by omega)]
                  rfl
              · skip
                refine ⟨?_, ?_⟩
                · first | omega | (unfold xI; omega) | (exfalso; omega)
                exact stay (by rw [h10] at e3; split at e3 <;> omega)
          · skip
            refine ⟨?_, ?_⟩
            · first | omega | (unfold xI; omega) | (exfalso; omega)
            refine ⟨?_, ?_⟩
            · first | omega | (unfold xI; omega) | (exfalso; omega)
            refine ⟨?_, ?_⟩
            · first | omega | (unfold xI; omega) | (exfalso; omega)
            refine ⟨fun e4 => ?_, fun e4 => ?_⟩
            · skip
              refine ⟨?_, ?_⟩
              · first | omega | (unfold xI; omega) | (exfalso; omega)
              exfalso
              omega
            · skip
              refine ⟨?_, ?_⟩
              · first | omega | (unfold xI; omega) | (exfalso; omega)
              refine ⟨?_, ?_⟩
              · first | omega | (unfold xI; omega) | (exfalso; omega)
              exfalso
              omega
        | succ k' ih' =>
          intro l hl
          have a01 := alB_01 (H 67 0) (H 67 1) (H 68) (l : Int) (c : Int)
          have aR := trA_rng (H 67 0) (H 67 1) (H 68) c l
          have nx : ∀ p, p = cS (trA (H 67 0) (H 67 1) (H 68) c) l + alB (H 67 0) (H 67 1) (H 68) (l : Int) (c : Int) → xq X d 130 Q 56 [(0, (2, 39)), (1, (2, 2)), (2, (0, (c : Int))), (3, (0, p)), (4, (0, (l : Int) + 1))] [] h := fun p hp => by
            rw [hp]
            exact ih' (l + 1) (by omega)
          refine U_130_56 (by omega) (c : Int) _ (l : Int) (H 67 0) (H 67 1) (H 68) h ?_
          rw [f.2.2.1]
          refine ⟨fun e1 => ?_, fun e1 => ?_⟩
          · skip
            refine ⟨?_, ?_⟩
            · first | exact lk2 h f | omega | (unfold xI; omega) | (exfalso; omega)
            refine ⟨?_, ?_⟩
            · first | exact lk2 h f | omega | (unfold xI; omega) | (exfalso; omega)
            refine ⟨?_, ?_⟩
            · first | exact lk2 h f | omega | (unfold xI; omega) | (exfalso; omega)
            refine ⟨?_, ?_⟩
            · first | exact lk2 h f | omega | (unfold xI; omega) | (exfalso; omega)
            refine ⟨fun e2 => ?_, fun e2 => ?_⟩
            · skip
              refine ⟨?_, ?_⟩
              · first | exact lk2 h f | omega | (unfold xI; omega) | (exfalso; omega)
              first | (exfalso; omega) | exact nx _ (by omega)
            · skip
              refine ⟨fun e3 => ?_, fun e3 => ?_⟩
              · skip
                refine ⟨?_, ?_⟩
                · first | exact lk2 h f | omega | (unfold xI; omega) | (exfalso; omega)
                first | (exfalso; omega) | exact nx _ (by omega)
              · skip
                refine ⟨?_, ?_⟩
                · first | exact lk2 h f | omega | (unfold xI; omega) | (exfalso; omega)
                first | (exfalso; omega) | exact nx _ (by omega)
          · skip
            refine ⟨?_, ?_⟩
            · first | exact lk2 h f | omega | (unfold xI; omega) | (exfalso; omega)
            refine ⟨?_, ?_⟩
            · first | exact lk2 h f | omega | (unfold xI; omega) | (exfalso; omega)
            refine ⟨?_, ?_⟩
            · first | exact lk2 h f | omega | (unfold xI; omega) | (exfalso; omega)
            refine ⟨fun e4 => ?_, fun e4 => ?_⟩
            · skip
              refine ⟨?_, ?_⟩
              · first | exact lk2 h f | omega | (unfold xI; omega) | (exfalso; omega)
              first | (exfalso; omega) | exact nx _ (by omega)
            · skip
              refine ⟨?_, ?_⟩
              · first | exact lk2 h f | omega | (unfold xI; omega) | (exfalso; omega)
              refine ⟨?_, ?_⟩
              · first | exact lk2 h f | omega | (unfold xI; omega) | (exfalso; omega)
              first | (exfalso; omega) | exact nx _ (by omega)
      refine U_130_12 (by omega) (c : Int) (H 67 0) (H 67 1) (H 68) h ?_
      rw [f.2.1, f4, f5, f6]
      refine ⟨fun c1 => ?_, fun c1 => ?_⟩
      · skip
        exfalso
        omega
      · skip
        refine ⟨?_, ?_⟩
        · first | omega | (unfold xI; omega) | (exfalso; omega)
        refine ⟨fun c2 => ?_, fun c2 => ?_⟩
        · skip
          refine ⟨?_, ?_⟩
          · first | omega | (unfold xI; omega) | (exfalso; omega)
          exact skip (by omega)
        · skip
          refine ⟨?_, ?_⟩
          · first | omega | (unfold xI; omega) | (exfalso; omega)
          refine ⟨fun c3 => ?_, fun c3 => ?_⟩
          · skip
            refine ⟨?_, ?_⟩
            · first | omega | (unfold xI; omega) | (exfalso; omega)
            exact skip (by omega)
          · skip
            refine ⟨?_, ?_⟩
            · first | omega | (unfold xI; omega) | (exfalso; omega)
            refine ⟨fun c4 => ?_, fun c4 => ?_⟩
            · skip
              exact keyI (by omega) (H 68 1).toNat 0 (by omega)
            · skip
              refine ⟨?_, ?_⟩
              · first | omega | (unfold xI; omega) | (exfalso; omega)
              exact skip (by omega)
  refine U_130 (by omega) (H 67 0) (H 67 1) (H 68) H ?_
  exact keyO (H 67 1).toNat 0 _ ⟨fun o x => by rw [xup_ne x, xup_ne x], rfl, rfl, rfl⟩ (by omega) rfl rfl

theorem U_131 {X : Int × (Int → Int)} {d : Nat} {Q : Int → XH → Prop} (hd : 7 ≤ d) (i : Int) (w n : Int) (g : Int → Int) (H : XH) (h : ((((0 ≤ i ∧ i ≤ 1)) → (InvS H) ∧ (∀ (h66 : XH), (frC H h66 ∧ lkOk (H 67 0) (H 67 1) (H 68) (h66 40) (h66 41) (h66 42) (h66 39)) → (InvS h66) ∧ (lkA (h66 67 0) (h66 67 1) (h66 68) h66) ∧ (∀ (h67 : XH), (frC h66 h67 ∧ h67 39 9 = trC (trW (h66 67 0) (h66 67 1) (h66 68)) (h66 67 1).toNat ∧ h67 39 10 = if trM (trW (h66 67 0) (h66 67 1) (h66 68)) (h66 67 1).toNat = 0 then -1 else trM (trW (h66 67 0) (h66 67 1) (h66 68)) (h66 67 1).toNat) → ((¬ i = 0) → Q (h67 39 10) h67) ∧ (¬ (¬ i = 0) → Q (h67 39 9) h67)))) ∧ (¬ ((0 ≤ i ∧ i ≤ 1)) → Q (-1) H))) : xc X (d + 1) 131 [(2, 0), (0, i)] H Q := by
  refine ⟨rfl, ?_⟩
  show xq X d 131 Q 100000 [(0, (2, 0)), (1, (0, i))] [] H
  refine xq_run [6, 22, 36] 300 ?_
  show xWM (xE X) xMC d 19 [(0, i), (0, 0), (0, 1)] xKZ H _
  refine xc_in (s_19 (by omega) i 0 1 H  ?_)
  replace h := h
  show xq X d 131 Q 6 [(0, (2, 0)), (1, (0, i))] [(0, xb (0 ≤ i ∧ i ≤ 1))] H
  refine xq_run [6, 22, 36] 300 ?_
  show ((¬ xb (0 ≤ i ∧ i ≤ 1) = 0) → xWM (xE X) xMC d 60 [(2, 39), (2, 1)] xKZ H _) ∧ (¬ (¬ xb (0 ≤ i ∧ i ≤ 1) = 0) → xfR 0 (-1) ∧ xKZ = xKZ ∧ Q (-1) H)
  refine ⟨fun k_ => ?_, fun k_ => ?_⟩
  · replace h := h.1 (xbe_1.mp k_)
    refine xc_in (s_60 (by omega) H (h.1) ?_)
    intro h66 q_0
    replace h := h.2 h66 q_0
    show xq X d 131 Q 22 [(0, (2, 0)), (1, (0, i))] [] h66
    refine xq_run [6, 22, 36] 300 ?_
    show xWM (xE X) xMC d 130 [(2, 39), (2, 2)] xKZ h66 _
    refine xc_in (s_130 (by omega) h66 (h.1) (h.2.1) ?_)
    intro h67 q_0
    replace h := h.2.2 h67 q_0
    show xq X d 131 Q 36 [(0, (2, 0)), (1, (0, i))] [] h67
    refine xq_run [6, 22, 36] 300 ?_
    show ((¬ i = 0) → xfR 0 (h67 39 10) ∧ xKZ = xKZ ∧ Q (h67 39 10) h67) ∧ (¬ (¬ i = 0) → xfR 0 (h67 39 9) ∧ xKZ = xKZ ∧ Q (h67 39 9) h67)
    refine ⟨fun k_ => ?_, fun k_ => ?_⟩
    · replace h := h.1 k_
      exact ⟨trivial, rfl, h⟩
    · replace h := h.2 k_
      exact ⟨trivial, rfl, h⟩
  · replace h := h.2 (xbe_n.mp k_)
    exact ⟨trivial, rfl, h⟩

theorem s_131 {X : Int × (Int → Int)} {d : Nat} {Q : Int → XH → Prop} (hd : 12 ≤ d) (i : Int) (H : XH) (hi : InvS H) (hQ : ∀ h1 : XH, frC H h1 → Q (vTr (H 67 0) (H 67 1) (H 68) i) h1) : xc X d 131 [(2, 0), (0, i)] H Q := by
  cases d with
  | zero => omega
  | succ d =>
  have hg := hi.1
  have hs := hi.2
  have nn := hg.nn
  have ww := hg.ww
  have l2 := hs.l2
  have hc := hs.c
  have lyb := hg.lyb
  have bnd := hg.bnd
  have rM := trM_rng (trW (H 67 0) (H 67 1) (H 68)) (H 67 1).toNat
  unfold vTr at hQ
  refine U_131 (by omega) i (H 67 0) (H 67 1) (H 68) H ?_
  refine ⟨fun c1 => ?_, fun c1 => ?_⟩
  · skip
    refine ⟨?_, ?_⟩
    · first | omega | exact hi | exact frC_S fr hi | (rw [f67, f68]; exact lk)
    intro h68 c2
    have lk : lkA (H 67 0) (H 67 1) (H 68) h68 := And.intro hg c2.2
    have fr := c2.1
    have f67 := fr 67 (by decide) (by decide)
    have f68 := fr 68 (by decide) (by decide)
    refine ⟨?_, ?_⟩
    · first | omega | exact hi | exact frC_S fr hi | (rw [f67, f68]; exact lk)
    refine ⟨?_, ?_⟩
    · first | omega | exact hi | exact frC_S fr hi | (rw [f67, f68]; exact lk)
    intro h69 c3
    have jj := c3
    rw [f67, f68] at jj
    refine ⟨fun c4 => ?_, fun c4 => ?_⟩
    · skip
      have k := hQ _ (frC_trans fr jj.1)
      rw [if_pos (by omega), if_neg (show ¬ i = 0 by omega)] at k
      rw [jj.2.2]
      split
      · rw [if_pos (by omega)] at k
        exact k
      · rw [if_neg (by omega)] at k
        exact k
    · skip
      have k := hQ _ (frC_trans fr jj.1)
      rw [if_pos (by omega), if_pos (show i = 0 by omega)] at k
      rw [jj.2.1]
      split at k
      · rw [show trC (trW (H 67 0) (H 67 1) (H 68)) (H 67 1).toNat = -1 by assumption]
        exact k
      · exact k
  · skip
    have k := hQ _ (frC_refl H)
    rw [if_neg (by omega)] at k
    exact k

theorem U_132 {X : Int × (Int → Int)} {d : Nat} {Q : Int → XH → Prop} (hd : 1 ≤ d) (i : Int) (H : XH) (h : ((((0 ≤ i ∧ i ≤ 1)) → xq X d 132 Q 18 [(0, (2, 67)), (1, (0, i)), (2, (0, (-1))), (3, (0, 0)), (4, (0, 0))] [] H) ∧ (¬ ((0 ≤ i ∧ i ≤ 1)) → Q (-1) H))) : xc X (d + 1) 132 [(2, 67), (0, i)] H Q := by
  refine ⟨rfl, ?_⟩
  show xq X d 132 Q 100000 [(0, (2, 67)), (1, (0, i))] [] H
  refine xq_run [6, 18, 83, 104, 129, 142] 300 ?_
  show xWM (xE X) xMC d 23 [(0, i), (0, 0), (0, 1)] xKZ H _
  refine xc_in (s_23 (by omega) i 0 1 H  ?_)
  replace h := h
  show xq X d 132 Q 6 [(0, (2, 67)), (1, (0, i))] [(0, xb (0 ≤ i ∧ i ≤ 1))] H
  refine xq_run [6, 18, 83, 104, 129, 142] 300 ?_
  show ((¬ xb (0 ≤ i ∧ i ≤ 1) = 0) → xq X d 132 Q 18 [(0, (2, 67)), (1, (0, i)), (2, (0, (-1))), (3, (0, 0)), (4, (0, 0))] [] H) ∧ (¬ (¬ xb (0 ≤ i ∧ i ≤ 1) = 0) → xfR 0 (-1) ∧ xKZ = xKZ ∧ Q (-1) H)
  refine ⟨fun k_ => ?_, fun k_ => ?_⟩
  · replace h := h.1 (xbe_1.mp k_)
    exact h
  · replace h := h.2 (xbe_n.mp k_)
    exact ⟨trivial, rfl, h⟩
theorem U_132_18 {X : Int × (Int → Int)} {d : Nat} {Q : Int → XH → Prop} (hd : 0 ≤ d) (v1 v2 v3 v4 : Int) (H : XH) (h : ((H 67 1 ≤ v4) → ((v2 = (-1)) → Q v2 H) ∧ (¬ (v2 = (-1)) → ((¬ v1 = 0) → Q v3 H) ∧ (¬ (¬ v1 = 0) → Q v2 H))) ∧ (¬ (H 67 1 ≤ v4) → ((H 68 0 ≤ 0) → ((v2 = (-1)) → Q v2 H) ∧ (¬ (v2 = (-1)) → ((¬ v1 = 0) → Q v3 H) ∧ (¬ (¬ v1 = 0) → Q v2 H))) ∧ (¬ (H 68 0 ≤ 0) → (xI (160 + v4)) ∧ ((0 : Int) ≤ 160 + v4 ∧ (160 + v4 : Int) < 1180) ∧ ((¬ H 68 (160 + v4) = 0) → (xI (v4 + 1)) ∧ xq X d 132 Q 18 [(0, (2, 67)), (1, (0, v1)), (2, (0, v2)), (3, (0, v3)), (4, (0, v4 + 1))] [] H) ∧ (¬ (¬ H 68 (160 + v4) = 0) → (xI (90 + v4)) ∧ ((0 : Int) ≤ 90 + v4 ∧ (90 + v4 : Int) < 1180) ∧ ((¬ H 68 (90 + v4) = (-1)) → (xI (v4 + 1)) ∧ xq X d 132 Q 18 [(0, (2, 67)), (1, (0, v1)), (2, (0, v2)), (3, (0, v3)), (4, (0, v4 + 1))] [] H) ∧ (¬ (¬ H 68 (90 + v4) = (-1)) → (xI (20 + v4)) ∧ ((0 : Int) ≤ 20 + v4 ∧ (20 + v4 : Int) < 1180) ∧ ((¬ H 68 (20 + v4) = 0) → (xI (v4 + 1)) ∧ xq X d 132 Q 18 [(0, (2, 67)), (1, (0, v1)), (2, (0, v2)), (3, (0, v3)), (4, (0, v4 + 1))] [] H) ∧ (¬ (¬ H 68 (20 + v4) = 0) → xq X d 132 Q 83 [(0, (2, 67)), (1, (0, v1)), (2, (0, v2)), (3, (0, v3)), (4, (0, v4)), (5, (0, 0)), (6, (0, 0))] [] H)))))) : xq X d 132 Q 18 [(0, (2, 67)), (1, (0, v1)), (2, (0, v2)), (3, (0, v3)), (4, (0, v4))] [] H := by
  show xq X d 132 Q 18 [(0, (2, 67)), (1, (0, v1)), (2, (0, v2)), (3, (0, v3)), (4, (0, v4))] [] H
  refine xq_run [6, 18, 83, 104, 129, 142] 300 ?_
  show ((H 67 1 ≤ v4) → ((v2 = (-1)) → xfR 0 v2 ∧ xKZ = xKZ ∧ Q v2 H) ∧ (¬ (v2 = (-1)) → ((¬ v1 = 0) → xfR 0 v3 ∧ xKZ = xKZ ∧ Q v3 H) ∧ (¬ (¬ v1 = 0) → xfR 0 v2 ∧ xKZ = xKZ ∧ Q v2 H))) ∧ (¬ (H 67 1 ≤ v4) → ((0 : Int) ≤ 0 ∧ (0 : Int) < 1180) ∧ ((H 68 0 ≤ 0) → ((v2 = (-1)) → xfR 0 v2 ∧ xKZ = xKZ ∧ Q v2 H) ∧ (¬ (v2 = (-1)) → ((¬ v1 = 0) → xfR 0 v3 ∧ xKZ = xKZ ∧ Q v3 H) ∧ (¬ (¬ v1 = 0) → xfR 0 v2 ∧ xKZ = xKZ ∧ Q v2 H))) ∧ (¬ (H 68 0 ≤ 0) → (xI (160 + v4)) ∧ ((0 : Int) ≤ 160 + v4 ∧ (160 + v4 : Int) < 1180) ∧ ((¬ H 68 (160 + v4) = 0) → (xI (v4 + 1)) ∧ xq X d 132 Q 18 [(0, (2, 67)), (1, (0, v1)), (2, (0, v2)), (3, (0, v3)), (4, (0, v4 + 1))] [] H) ∧ (¬ (¬ H 68 (160 + v4) = 0) → (xI (90 + v4)) ∧ ((0 : Int) ≤ 90 + v4 ∧ (90 + v4 : Int) < 1180) ∧ ((¬ H 68 (90 + v4) = (-1)) → (xI (v4 + 1)) ∧ xq X d 132 Q 18 [(0, (2, 67)), (1, (0, v1)), (2, (0, v2)), (3, (0, v3)), (4, (0, v4 + 1))] [] H) ∧ (¬ (¬ H 68 (90 + v4) = (-1)) → (xI (20 + v4)) ∧ ((0 : Int) ≤ 20 + v4 ∧ (20 + v4 : Int) < 1180) ∧ ((¬ H 68 (20 + v4) = 0) → (xI (v4 + 1)) ∧ xq X d 132 Q 18 [(0, (2, 67)), (1, (0, v1)), (2, (0, v2)), (3, (0, v3)), (4, (0, v4 + 1))] [] H) ∧ (¬ (¬ H 68 (20 + v4) = 0) → xq X d 132 Q 83 [(0, (2, 67)), (1, (0, v1)), (2, (0, v2)), (3, (0, v3)), (4, (0, v4)), (5, (0, 0)), (6, (0, 0))] [] H)))))
  refine ⟨fun k_ => ?_, fun k_ => ?_⟩
  · replace h := h.1 k_
    refine ⟨fun k_ => ?_, fun k_ => ?_⟩
    · replace h := h.1 k_
      exact ⟨trivial, rfl, h⟩
    · replace h := h.2 k_
      refine ⟨fun k_ => ?_, fun k_ => ?_⟩
      · replace h := h.1 k_
        exact ⟨trivial, rfl, h⟩
      · replace h := h.2 k_
        exact ⟨trivial, rfl, h⟩
  · replace h := h.2 k_
    refine ⟨⟨by decide, by decide⟩, ?_⟩
    refine ⟨fun k_ => ?_, fun k_ => ?_⟩
    · replace h := h.1 k_
      refine ⟨fun k_ => ?_, fun k_ => ?_⟩
      · replace h := h.1 k_
        exact ⟨trivial, rfl, h⟩
      · replace h := h.2 k_
        refine ⟨fun k_ => ?_, fun k_ => ?_⟩
        · replace h := h.1 k_
          exact ⟨trivial, rfl, h⟩
        · replace h := h.2 k_
          exact ⟨trivial, rfl, h⟩
    · replace h := h.2 k_
      refine ⟨h.1, ?_⟩
      replace h := h.2
      refine ⟨h.1, ?_⟩
      replace h := h.2
      refine ⟨fun k_ => ?_, fun k_ => ?_⟩
      · replace h := h.1 k_
        refine ⟨h.1, ?_⟩
        replace h := h.2
        exact h
      · replace h := h.2 k_
        refine ⟨h.1, ?_⟩
        replace h := h.2
        refine ⟨h.1, ?_⟩
        replace h := h.2
        refine ⟨fun k_ => ?_, fun k_ => ?_⟩
        · replace h := h.1 k_
          refine ⟨h.1, ?_⟩
          replace h := h.2
          exact h
        · replace h := h.2 k_
          refine ⟨h.1, ?_⟩
          replace h := h.2
          refine ⟨h.1, ?_⟩
          replace h := h.2
          refine ⟨fun k_ => ?_, fun k_ => ?_⟩
          · replace h := h.1 k_
            refine ⟨h.1, ?_⟩
            replace h := h.2
            exact h
          · replace h := h.2 k_
            exact h
theorem U_132_83 {X : Int × (Int → Int)} {d : Nat} {Q : Int → XH → Prop} (hd : 6 ≤ d) (v1 v2 v3 v4 v5 v6 : Int) (H : XH) (h : ((H 68 1 ≤ v6) → (1 ≤ H 67 0 ∧ H 67 0 ≤ 8) ∧ (0 ≤ H 67 1 ∧ H 67 1 ≤ 64) ∧ (∀ e, 0 ≤ e → e < 64 → H 68 (160 + e) = 0 ∨ H 68 (160 + e) = 1) ∧ (0 ≤ v4 ∧ v4 < 64) ∧ ((xI (v5 * (nrS (H 67 0) (H 67 1) (fun e => H 68 (160 + e)) v4))) ∧ ((v5 * (nrS (H 67 0) (H 67 1) (fun e => H 68 (160 + e)) v4) ≤ v3) → (xI (v4 + 1)) ∧ xq X d 132 Q 18 [(0, (2, 67)), (1, (0, v1)), (2, (0, v2)), (3, (0, v3)), (4, (0, v4 + 1))] [] H) ∧ (¬ (v5 * (nrS (H 67 0) (H 67 1) (fun e => H 68 (160 + e)) v4) ≤ v3) → (1 ≤ H 67 0 ∧ H 67 0 ≤ 8) ∧ (0 ≤ H 67 1 ∧ H 67 1 ≤ 64) ∧ (∀ e, 0 ≤ e → e < 64 → H 68 (160 + e) = 0 ∨ H 68 (160 + e) = 1) ∧ (0 ≤ v4 ∧ v4 < 64) ∧ ((xI (v5 * (nrS (H 67 0) (H 67 1) (fun e => H 68 (160 + e)) v4))) ∧ (xI (v4 + 1)) ∧ xq X d 132 Q 18 [(0, (2, 67)), (1, (0, v1)), (2, (0, v4)), (3, (0, v5 * (nrS (H 67 0) (H 67 1) (fun e => H 68 (160 + e)) v4))), (4, (0, v4 + 1))] [] H)))) ∧ (¬ (H 68 1 ≤ v6) → (GOk (H 67 0) (H 67 1) (H 68)) ∧ (0 ≤ v6 ∧ v6 < H 68 1) ∧ (0 ≤ v4 ∧ v4 < H 67 1) ∧ (∀ (h70 : XH), (frM H h70) → ((alB (H 67 0) (H 67 1) (H 68) v6 v4 = 0) → (xI (v5 + 0)) ∧ (xI (v6 + 1)) ∧ xq X d 132 Q 83 [(0, (2, 67)), (1, (0, v1)), (2, (0, v2)), (3, (0, v3)), (4, (0, v4)), (5, (0, v5 + 0)), (6, (0, v6 + 1))] [] h70) ∧ (¬ (alB (H 67 0) (H 67 1) (H 68) v6 v4 = 0) → (xI (v5 + 1)) ∧ (xI (v6 + 1)) ∧ xq X d 132 Q 83 [(0, (2, 67)), (1, (0, v1)), (2, (0, v2)), (3, (0, v3)), (4, (0, v4)), (5, (0, v5 + 1)), (6, (0, v6 + 1))] [] h70)))) : xq X d 132 Q 83 [(0, (2, 67)), (1, (0, v1)), (2, (0, v2)), (3, (0, v3)), (4, (0, v4)), (5, (0, v5)), (6, (0, v6))] [] H := by
  show xq X d 132 Q 83 [(0, (2, 67)), (1, (0, v1)), (2, (0, v2)), (3, (0, v3)), (4, (0, v4)), (5, (0, v5)), (6, (0, v6))] [] H
  refine xq_run [6, 18, 83, 104, 129, 142] 300 ?_
  show ((0 : Int) ≤ 1 ∧ (1 : Int) < 1180) ∧ ((H 68 1 ≤ v6) → xWM (xE X) xMC d 42 [(2, 67), (0, v4)] xKZ H _) ∧ (¬ (H 68 1 ≤ v6) → xWM (xE X) xMC d 73 [(2, 67), (0, v6), (0, v4)] xKZ H _)
  refine ⟨⟨by decide, by decide⟩, ?_⟩
  refine ⟨fun k_ => ?_, fun k_ => ?_⟩
  · replace h := h.1 k_
    refine xc_in (s_42 (by omega) v4 H (h.1) (h.2.1) (h.2.2.1) (h.2.2.2.1) ?_)
    replace h := h.2.2.2.2
    show xq X d 132 Q 129 [(0, (2, 67)), (1, (0, v1)), (2, (0, v2)), (3, (0, v3)), (4, (0, v4)), (5, (0, v5)), (6, (0, v6))] [(0, nrS (H 67 0) (H 67 1) (fun e => H 68 (160 + e)) v4), (0, v5)] H
    refine xq_run [6, 18, 83, 104, 129, 142] 300 ?_
    show (xI (v5 * (nrS (H 67 0) (H 67 1) (fun e => H 68 (160 + e)) v4))) ∧ ((v5 * (nrS (H 67 0) (H 67 1) (fun e => H 68 (160 + e)) v4) ≤ v3) → (xI (v4 + 1)) ∧ xq X d 132 Q 18 [(0, (2, 67)), (1, (0, v1)), (2, (0, v2)), (3, (0, v3)), (4, (0, v4 + 1))] [] H) ∧ (¬ (v5 * (nrS (H 67 0) (H 67 1) (fun e => H 68 (160 + e)) v4) ≤ v3) → xWM (xE X) xMC d 42 [(2, 67), (0, v4)] xKZ H _)
    refine ⟨h.1, ?_⟩
    replace h := h.2
    refine ⟨fun k_ => ?_, fun k_ => ?_⟩
    · replace h := h.1 k_
      refine ⟨h.1, ?_⟩
      replace h := h.2
      exact h
    · replace h := h.2 k_
      refine xc_in (s_42 (by omega) v4 H (h.1) (h.2.1) (h.2.2.1) (h.2.2.2.1) ?_)
      replace h := h.2.2.2.2
      show xq X d 132 Q 142 [(0, (2, 67)), (1, (0, v1)), (2, (0, v2)), (3, (0, v3)), (4, (0, v4)), (5, (0, v5)), (6, (0, v6))] [(0, nrS (H 67 0) (H 67 1) (fun e => H 68 (160 + e)) v4), (0, v5)] H
      refine xq_run [6, 18, 83, 104, 129, 142] 300 ?_
      show (xI (v5 * (nrS (H 67 0) (H 67 1) (fun e => H 68 (160 + e)) v4))) ∧ (xI (v4 + 1)) ∧ xq X d 132 Q 18 [(0, (2, 67)), (1, (0, v1)), (2, (0, v4)), (3, (0, v5 * (nrS (H 67 0) (H 67 1) (fun e => H 68 (160 + e)) v4))), (4, (0, v4 + 1))] [] H
      refine ⟨h.1, ?_⟩
      replace h := h.2
      refine ⟨h.1, ?_⟩
      replace h := h.2
      exact h
  · replace h := h.2 k_
    refine xc_in (s_73 (by omega) v6 v4 H (h.1) (h.2.1) (h.2.2.1) ?_)
    intro h70 q_0
    replace h := h.2.2.2 h70 q_0
    show xq X d 132 Q 104 [(0, (2, 67)), (1, (0, v1)), (2, (0, v2)), (3, (0, v3)), (4, (0, v4)), (5, (0, v5)), (6, (0, v6))] [(0, alB (H 67 0) (H 67 1) (H 68) v6 v4), (0, v5)] h70
    refine xq_run [6, 18, 83, 104, 129, 142] 300 ?_
    show ((alB (H 67 0) (H 67 1) (H 68) v6 v4 = 0) → (xI (v5 + 0)) ∧ (xI (v6 + 1)) ∧ xq X d 132 Q 83 [(0, (2, 67)), (1, (0, v1)), (2, (0, v2)), (3, (0, v3)), (4, (0, v4)), (5, (0, v5 + 0)), (6, (0, v6 + 1))] [] h70) ∧ (¬ (alB (H 67 0) (H 67 1) (H 68) v6 v4 = 0) → (xI (v5 + 1)) ∧ (xI (v6 + 1)) ∧ xq X d 132 Q 83 [(0, (2, 67)), (1, (0, v1)), (2, (0, v2)), (3, (0, v3)), (4, (0, v4)), (5, (0, v5 + 1)), (6, (0, v6 + 1))] [] h70)
    refine ⟨fun k_ => ?_, fun k_ => ?_⟩
    · replace h := h.1 k_
      refine ⟨h.1, ?_⟩
      replace h := h.2
      refine ⟨h.1, ?_⟩
      replace h := h.2
      exact h
    · replace h := h.2 k_
      refine ⟨h.1, ?_⟩
      replace h := h.2
      refine ⟨h.1, ?_⟩
      replace h := h.2
      exact h

theorem s_132 {X : Int × (Int → Int)} {d : Nat} {Q : Int → XH → Prop} (hd : 12 ≤ d) (i : Int) (H : XH) (hg : GOk (H 67 0) (H 67 1) (H 68)) (hQ : ∀ h1 : XH, frM H h1 → Q (vTr (H 67 0) (H 67 1) (H 68) i) h1) : xc X d 132 [(2, 67), (0, i)] H Q := by
  cases d with
  | zero => omega
  | succ d =>
  have nn := hg.nn
  have ww := hg.ww
  have lyb := hg.lyb
  have bnd := hg.bnd
  have g0 := hg.g0
  unfold vTr at hQ
  have rN := trM_rng (trW (H 67 0) (H 67 1) (H 68)) (H 67 1).toNat
  have no := trW_no hg
  have fin : (0 ≤ i ∧ i ≤ 1) → ∀ h, frM H h → (trC (trW (H 67 0) (H 67 1) (H 68)) (H 67 1).toNat = -1 → Q (-1) h) ∧ (¬ trC (trW (H 67 0) (H 67 1) (H 68)) (H 67 1).toNat = -1 → (i = 0 → Q (trC (trW (H 67 0) (H 67 1) (H 68)) (H 67 1).toNat) h) ∧ (¬ i = 0 → Q (trM (trW (H 67 0) (H 67 1) (H 68)) (H 67 1).toNat) h)) := fun pi h f => by
    have k := hQ h f
    rw [if_pos pi] at k
    refine ⟨fun a => by rw [if_pos a] at k; exact k, fun a => ⟨fun b => by rw [if_neg a, if_pos b] at k; exact k, fun b => by rw [if_neg a, if_neg b] at k; exact k⟩⟩
  have keyO : (0 ≤ i ∧ i ≤ 1) → ∀ (k c : Nat) (h : XH), frM H h → c + k = (H 67 1).toNat → xq X d 132 Q 18 [(0, (2, 67)), (1, (0, i)), (2, (0, trC (trW (H 67 0) (H 67 1) (H 68)) c)), (3, (0, trM (trW (H 67 0) (H 67 1) (H 68)) c)), (4, (0, (c : Int)))] [] h := by
    intro pi k
    have fin := fin pi
    induction k with
    | zero =>
      intro c h f hc
      have a1 := f.2 1 (by decide)
      have a8 := frM_o f 68 (by decide) (by decide)
      have hc' : c = (H 67 1).toNat := by omega
      have fin := fin h f
      rw [← hc'] at fin
      refine U_132_18 (by omega) i _ _ (c : Int) h ?_
      rw [a1, a8]
      refine ⟨fun c1 => ?_, fun c1 => ?_⟩
      · skip
        refine ⟨fun c2 => ?_, fun c2 => ?_⟩
        · skip
          first | (exfalso; omega) | exact (fin.2 (by omega)).2 (by omega) | exact (fin.2 (by omega)).1 (by omega) | (have z := fin.1 (by omega); rw [show trC (trW (H 67 0) (H 67 1) (H 68)) c = -1 by omega]; exact z)
        · skip
          refine ⟨fun c3 => ?_, fun c3 => ?_⟩
          · skip
            first | (exfalso; omega) | exact (fin.2 (by omega)).2 (by omega) | exact (fin.2 (by omega)).1 (by omega) | (have z := fin.1 (by omega); rw [show trC (trW (H 67 0) (H 67 1) (H 68)) c = -1 by omega]; exact z)
          · skip
            first | (exfalso; omega) | exact (fin.2 (by omega)).2 (by omega) | exact (fin.2 (by omega)).1 (by omega) | (have z := fin.1 (by omega); rw [show trC (trW (H 67 0) (H 67 1) (H 68)) c = -1 by omega]; exact z)
      · skip
        refine ⟨fun c4 => ?_, fun c4 => ?_⟩
        · skip
          refine ⟨fun c5 => ?_, fun c5 => ?_⟩
          · skip
            first | (exfalso; omega) | exact (fin.2 (by omega)).2 (by omega) | exact (fin.2 (by omega)).1 (by omega) | (have z := fin.1 (by omega); rw [show trC (trW (H 67 0) (H 67 1) (H 68)) c = -1 by omega]; exact z)
          · skip
            refine ⟨fun c6 => ?_, fun c6 => ?_⟩
            · skip
              first | (exfalso; omega) | exact (fin.2 (by omega)).2 (by omega) | exact (fin.2 (by omega)).1 (by omega) | (have z := fin.1 (by omega); rw [show trC (trW (H 67 0) (H 67 1) (H 68)) c = -1 by omega]; exact z)
            · skip
              first | (exfalso; omega) | exact (fin.2 (by omega)).2 (by omega) | exact (fin.2 (by omega)).1 (by omega) | (have z := fin.1 (by omega); rw [show trC (trW (H 67 0) (H 67 1) (H 68)) c = -1 by omega]; exact z)
        · skip
          refine ⟨?_, ?_⟩
          · first | omega | exact hg | (unfold xI; omega) | (exfalso; omega)
          refine ⟨?_, ?_⟩
          · first | omega | exact hg | (unfold xI; omega) | (exfalso; omega)
          refine ⟨fun c7 => ?_, fun c7 => ?_⟩
          · skip
            refine ⟨?_, ?_⟩
            · first | omega | exact hg | (unfold xI; omega) | (exfalso; omega)
            first | (exfalso; omega) | exact (fin.2 (by omega)).2 (by omega) | exact (fin.2 (by omega)).1 (by omega) | (have z := fin.1 (by omega); rw [show trC (trW (H 67 0) (H 67 1) (H 68)) c = -1 by omega]; exact z)
          · skip
            refine ⟨?_, ?_⟩
            · first | omega | exact hg | (unfold xI; omega) | (exfalso; omega)
            refine ⟨?_, ?_⟩
            · first | omega | exact hg | (unfold xI; omega) | (exfalso; omega)
            refine ⟨fun c8 => ?_, fun c8 => ?_⟩
            · skip
              refine ⟨?_, ?_⟩
              · first | omega | exact hg | (unfold xI; omega) | (exfalso; omega)
              first | (exfalso; omega) | exact (fin.2 (by omega)).2 (by omega) | exact (fin.2 (by omega)).1 (by omega) | (have z := fin.1 (by omega); rw [show trC (trW (H 67 0) (H 67 1) (H 68)) c = -1 by omega]; exact z)
            · skip
              refine ⟨?_, ?_⟩
              · first | omega | exact hg | (unfold xI; omega) | (exfalso; omega)
              refine ⟨?_, ?_⟩
              · first | omega | exact hg | (unfold xI; omega) | (exfalso; omega)
              refine ⟨fun c9 => ?_, fun c9 => ?_⟩
              · skip
                refine ⟨?_, ?_⟩
                · first | omega | exact hg | (unfold xI; omega) | (exfalso; omega)
                first | (exfalso; omega) | exact (fin.2 (by omega)).2 (by omega) | exact (fin.2 (by omega)).1 (by omega) | (have z := fin.1 (by omega); rw [show trC (trW (H 67 0) (H 67 1) (H 68)) c = -1 by omega]; exact z)
              · skip
                first | (exfalso; omega) | exact (fin.2 (by omega)).2 (by omega) | exact (fin.2 (by omega)).1 (by omega) | (have z := fin.1 (by omega); rw [show trC (trW (H 67 0) (H 67 1) (H 68)) c = -1 by omega]; exact z)
    | succ k ih =>
      intro c h f hc
      have a0 := f.2 0 (by decide)
      have a1 := f.2 1 (by decide)
      have a8 := frM_o f 68 (by decide) (by decide)
      have br := hg.brb (c : Int) (by omega) (by omega)
      have dgb := hg.dgb (c : Int) (by omega) (by omega)
      have rM := trM_rng (trW (H 67 0) (H 67 1) (H 68)) c
      have nx : ∀ (p q : Int) (h' : XH), frM H h' → p = (if trM (trW (H 67 0) (H 67 1) (H 68)) c < trW (H 67 0) (H 67 1) (H 68) c then (c : Int) else trC (trW (H 67 0) (H 67 1) (H 68)) c) → q = (if trM (trW (H 67 0) (H 67 1) (H 68)) c < trW (H 67 0) (H 67 1) (H 68) c then trW (H 67 0) (H 67 1) (H 68) c else trM (trW (H 67 0) (H 67 1) (H 68)) c) → xq X d 132 Q 18 [(0, (2, 67)), (1, (0, i)), (2, (0, p)), (3, (0, q)), (4, (0, (c : Int) + 1))] [] h' := fun p q h' f' hp hq => by
        rw [hp, hq]
        exact ih (c + 1) h' f' (by omega)
      have stay : ∀ h', frM H h' → trW (H 67 0) (H 67 1) (H 68) c ≤ trM (trW (H 67 0) (H 67 1) (H 68)) c → xq X d 132 Q 18 [(0, (2, 67)), (1, (0, i)), (2, (0, trC (trW (H 67 0) (H 67 1) (H 68)) c)), (3, (0, trM (trW (H 67 0) (H 67 1) (H 68)) c)), (4, (0, (c : Int) + 1))] [] h' := fun h' f' q => by
        refine nx _ _ h' f' ?_ ?_
        · rw [if_neg (by omega)]
        · rw [if_neg (by omega)]
      have skip : ¬ (H 68 (160 + (c : Int)) = 0 ∧ H 68 (90 + (c : Int)) = -1 ∧ H 68 (20 + (c : Int)) = 0) → xq X d 132 Q 18 [(0, (2, 67)), (1, (0, i)), (2, (0, trC (trW (H 67 0) (H 67 1) (H 68)) c)), (3, (0, trM (trW (H 67 0) (H 67 1) (H 68)) c)), (4, (0, (c : Int) + 1))] [] h := fun q => by
        refine stay h f ?_
        have u : trW (H 67 0) (H 67 1) (H 68) c = 0 := if_neg q
        omega
      have keyI : (H 68 (160 + (c : Int)) = 0 ∧ H 68 (90 + (c : Int)) = -1 ∧ H 68 (20 + (c : Int)) = 0) → ∀ (k' l : Nat) (h' : XH), frM H h' → l + k' = (H 68 1).toNat → xq X d 132 Q 83 [(0, (2, 67)), (1, (0, i)), (2, (0, trC (trW (H 67 0) (H 67 1) (H 68)) c)), (3, (0, trM (trW (H 67 0) (H 67 1) (H 68)) c)), (4, (0, (c : Int))), (5, (0, cS (trA (H 67 0) (H 67 1) (H 68) c) l)), (6, (0, (l : Int)))] [] h' := by
        intro q k'
        have eW : trW (H 67 0) (H 67 1) (H 68) c = nrS (H 67 0) (H 67 1) (fun e => H 68 (160 + e)) c * cS (trA (H 67 0) (H 67 1) (H 68) c) (H 68 1).toNat := if_pos q
        induction k' with
        | zero =>
          intro l h' f' hl
          have a0' := f'.2 0 (by decide)
          have a1' := f'.2 1 (by decide)
          have a8' := frM_o f' 68 (by decide) (by decide)
          have hl' : l = (H 68 1).toNat := by omega
          rw [← hl', Int.mul_comm] at eW
          have pr := trP_rng hg (c := c) (by omega) l (by omega)
          rw [Int.mul_comm, ← eW] at pr
          refine U_132_83 (by omega) i _ _ (c : Int) _ (l : Int) h' ?_
          rw [a0', a1', a8', ← eW]
          refine ⟨fun e1 => ?_, fun e1 => ?_⟩
          · skip
            refine ⟨?_, ?_⟩
            · first | omega | exact hg.dgb | (unfold xI; omega) | (exfalso; omega)
            refine ⟨?_, ?_⟩
            · first | omega | exact hg.dgb | (unfold xI; omega) | (exfalso; omega)
            refine ⟨?_, ?_⟩
            · first | omega | exact hg.dgb | (unfold xI; omega) | (exfalso; omega)
            refine ⟨?_, ?_⟩
            · first | omega | exact hg.dgb | (unfold xI; omega) | (exfalso; omega)
            refine ⟨?_, ?_⟩
            · first | omega | exact hg.dgb | (unfold xI; omega) | (exfalso; omega)
            refine ⟨fun e2 => ?_, fun e2 => ?_⟩
            · skip
              refine ⟨?_, ?_⟩
              · first | omega | exact hg.dgb | (unfold xI; omega) | (exfalso; omega)
              exact stay h' f' (by omega)
            · skip
              refine ⟨?_, ?_⟩
              · first | omega | exact hg.dgb | (unfold xI; omega) | (exfalso; omega)
              refine ⟨?_, ?_⟩
              · first | omega | exact hg.dgb | (unfold xI; omega) | (exfalso; omega)
              refine ⟨?_, ?_⟩
              · first | omega | exact hg.dgb | (unfold xI; omega) | (exfalso; omega)
              refine ⟨?_, ?_⟩
              · first | omega | exact hg.dgb | (unfold xI; omega) | (exfalso; omega)
              refine ⟨?_, ?_⟩
              · first | omega | exact hg.dgb | (unfold xI; omega) | (exfalso; omega)
              refine ⟨?_, ?_⟩
              · first | omega | exact hg.dgb | (unfold xI; omega) | (exfalso; omega)
              refine nx _ _ h' f' ?_ ?_
              · rw [if_pos (by omega)]
              · rw [if_pos (by omega)]
          · skip
            refine ⟨?_, ?_⟩
            · first | omega | exact hg.dgb | (unfold xI; omega) | (exfalso; omega)
            refine ⟨?_, ?_⟩
            · first | omega | exact hg.dgb | (unfold xI; omega) | (exfalso; omega)
            refine ⟨?_, ?_⟩
            · first | omega | exact hg.dgb | (unfold xI; omega) | (exfalso; omega)
            intro h71 e3
            refine ⟨fun e4 => ?_, fun e4 => ?_⟩
            · skip
              refine ⟨?_, ?_⟩
              · first | omega | exact hg.dgb | (unfold xI; omega) | (exfalso; omega)
              refine ⟨?_, ?_⟩
              · first | omega | exact hg.dgb | (unfold xI; omega) | (exfalso; omega)
              exfalso
              omega
            · skip
              refine ⟨?_, ?_⟩
              · first | omega | exact hg.dgb | (unfold xI; omega) | (exfalso; omega)
              refine ⟨?_, ?_⟩
              · first | omega | exact hg.dgb | (unfold xI; omega) | (exfalso; omega)
              exfalso
              omega
        | succ k' ih' =>
          intro l h' f' hl
          have a0' := f'.2 0 (by decide)
          have a1' := f'.2 1 (by decide)
          have a8' := frM_o f' 68 (by decide) (by decide)
          have a01 := alB_01 (H 67 0) (H 67 1) (H 68) (l : Int) (c : Int)
          have aR := trA_rng (H 67 0) (H 67 1) (H 68) c l
          have nx : ∀ (p : Int) (h'' : XH), frM H h'' → p = cS (trA (H 67 0) (H 67 1) (H 68) c) l + alB (H 67 0) (H 67 1) (H 68) (l : Int) (c : Int) → xq X d 132 Q 83 [(0, (2, 67)), (1, (0, i)), (2, (0, trC (trW (H 67 0) (H 67 1) (H 68)) c)), (3, (0, trM (trW (H 67 0) (H 67 1) (H 68)) c)), (4, (0, (c : Int))), (5, (0, p)), (6, (0, (l : Int) + 1))] [] h'' := fun p h'' f'' hp => by
            rw [hp]
            exact ih' (l + 1) h'' f'' (by omega)
          refine U_132_83 (by omega) i _ _ (c : Int) _ (l : Int) h' ?_
          rw [a0', a1', a8']
          refine ⟨fun e1 => ?_, fun e1 => ?_⟩
          · skip
            refine ⟨?_, ?_⟩
            · first | omega | exact hg | (unfold xI; omega) | (exfalso; omega)
            refine ⟨?_, ?_⟩
            · first | omega | exact hg | (unfold xI; omega) | (exfalso; omega)
            refine ⟨?_, ?_⟩
            · first | omega | exact hg | (unfold xI; omega) | (exfalso; omega)
            refine ⟨?_, ?_⟩
            · first | omega | exact hg | (unfold xI; omega) | (exfalso; omega)
            refine ⟨?_, ?_⟩
            · first | omega | exact hg | (unfold xI; omega) | (exfalso; omega)
            refine ⟨fun e2 => ?_, fun e2 => ?_⟩
            · skip
              refine ⟨?_, ?_⟩
              · first | omega | exact hg | (unfold xI; omega) | (exfalso; omega)
              first | (exfalso; omega) | exact nx _ _ (frM_trans f' ff) (by omega)
            · skip
              refine ⟨?_, ?_⟩
              · first | omega | exact hg | (unfold xI; omega) | (exfalso; omega)
              refine ⟨?_, ?_⟩
              · first | omega | exact hg | (unfold xI; omega) | (exfalso; omega)
              refine ⟨?_, ?_⟩
              · first | omega | exact hg | (unfold xI; omega) | (exfalso; omega)
              refine ⟨?_, ?_⟩
              · first | omega | exact hg | (unfold xI; omega) | (exfalso; omega)
              refine ⟨?_, ?_⟩
              · first | omega | exact hg | (unfold xI; omega) | (exfalso; omega)
              refine ⟨?_, ?_⟩
              · first | omega | exact hg | (unfold xI; omega) | (exfalso; omega)
              first | (exfalso; omega) | exact nx _ _ (frM_trans f' ff) (by omega)
          · skip
            refine ⟨?_, ?_⟩
            · first | omega | exact hg | (unfold xI; omega) | (exfalso; omega)
            refine ⟨?_, ?_⟩
            · first | omega | exact hg | (unfold xI; omega) | (exfalso; omega)
            refine ⟨?_, ?_⟩
            · first | omega | exact hg | (unfold xI; omega) | (exfalso; omega)
            intro h72 e3
            have ff := e3
            refine ⟨fun e4 => ?_, fun e4 => ?_⟩
            · skip
              refine ⟨?_, ?_⟩
              · first | omega | exact hg | (unfold xI; omega) | (exfalso; omega)
              refine ⟨?_, ?_⟩
              · first | omega | exact hg | (unfold xI; omega) | (exfalso; omega)
              first | (exfalso; omega) | exact nx _ _ (frM_trans f' ff) (by omega)
            · skip
              refine ⟨?_, ?_⟩
              · first | omega | exact hg | (unfold xI; omega) | (exfalso; omega)
              refine ⟨?_, ?_⟩
              · first | omega | exact hg | (unfold xI; omega) | (exfalso; omega)
              first | (exfalso; omega) | exact nx _ _ (frM_trans f' ff) (by omega)
      refine U_132_18 (by omega) i _ _ (c : Int) h ?_
      rw [a1, a8]
      refine ⟨fun c1 => ?_, fun c1 => ?_⟩
      · skip
        refine ⟨fun c2 => ?_, fun c2 => ?_⟩
        · skip
          exfalso
          omega
        · skip
          refine ⟨fun c3 => ?_, fun c3 => ?_⟩
          · skip
            exfalso
            omega
          · skip
            exfalso
            omega
      · skip
        refine ⟨fun c4 => ?_, fun c4 => ?_⟩
        · skip
          refine ⟨fun c5 => ?_, fun c5 => ?_⟩
          · skip
            have z := no (by omega) (H 67 1).toNat (by omega)
            have z2 := no (by omega) c (by omega)
            rw [z2.2]
            exact (fin h f).1 z.2
          · skip
            refine ⟨fun c6 => ?_, fun c6 => ?_⟩
            · skip
              have z := no (by omega) (H 67 1).toNat (by omega)
              have z2 := no (by omega) c (by omega)
              exfalso
              omega
            · skip
              have z := no (by omega) (H 67 1).toNat (by omega)
              have z2 := no (by omega) c (by omega)
              exfalso
              omega
        · skip
          refine ⟨?_, ?_⟩
          · first | omega | exact hg | (unfold xI; omega) | (exfalso; omega)
          refine ⟨?_, ?_⟩
          · first | omega | exact hg | (unfold xI; omega) | (exfalso; omega)
          refine ⟨fun c7 => ?_, fun c7 => ?_⟩
          · skip
            refine ⟨?_, ?_⟩
            · first | omega | exact hg | (unfold xI; omega) | (exfalso; omega)
            exact skip (by omega)
          · skip
            refine ⟨?_, ?_⟩
            · first | omega | exact hg | (unfold xI; omega) | (exfalso; omega)
            refine ⟨?_, ?_⟩
            · first | omega | exact hg | (unfold xI; omega) | (exfalso; omega)
            refine ⟨fun c8 => ?_, fun c8 => ?_⟩
            · skip
              refine ⟨?_, ?_⟩
              · first | omega | exact hg | (unfold xI; omega) | (exfalso; omega)
              exact skip (by omega)
            · skip
              refine ⟨?_, ?_⟩
              · first | omega | exact hg | (unfold xI; omega) | (exfalso; omega)
              refine ⟨?_, ?_⟩
              · first | omega | exact hg | (unfold xI; omega) | (exfalso; omega)
              refine ⟨fun c9 => ?_, fun c9 => ?_⟩
              · skip
                refine ⟨?_, ?_⟩
                · first | omega | exact hg | (unfold xI; omega) | (exfalso; omega)
                exact skip (by omega)
              · skip
                exact keyI (by omega) (H 68 1).toNat 0 h f (by omega)
  refine U_132 (by omega) i H ?_
  refine ⟨fun c1 => ?_, fun c1 => ?_⟩
  · skip
    exact keyO (by omega) (H 67 1).toNat 0 H (frM_refl H) (by omega)
  · skip
    have k := hQ _ (frM_refl H)
    rw [if_neg (by omega)] at k
    exact k

theorem p_trowel {X : Int × (Int → Int)} {d : Nat} (hd : 12 ≤ d) (i : Int) (H : XH) (hi : InvS H) : xc X d 131 [(2, 0), (0, i)] H (fun r H1 => xc X d 132 [(2, 67), (0, i)] H1 (qOk H r)) :=
  s_131 (by omega) i H hi (fun h1 f => s_132 (by omega) i h1 (frC_S f hi).1 (fun h2 f' => ⟨by rw [f 67 (by decide) (by decide), f 68 (by decide) (by decide)], frQ_CM f f'⟩))
