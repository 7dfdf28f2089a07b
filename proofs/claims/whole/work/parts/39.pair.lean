/-! THE PURE LAYER 9: pairs of calls that change one thing -/
/-- only the state that is now may be another, and its count of laws is not; flags stay flags -/
def boF (x : Int) : Prop := 0 ≤ x ∧ x ≤ 1
def bF (H H' : XH) : Prop := ∀ k, (boF (H 18 k) → boF (H' 18 k)) ∧ (boF (H 19 k) → boF (H' 19 k))
theorem bF_same {H H' : XH} (h : H' 18 = H 18) (h' : H' 19 = H 19) : bF H H' := fun k => ⟨fun q => by rw [h]; exact q, fun q => by rw [h']; exact q⟩
def frO (H H' : XH) : Prop := (∀ o, (o < 1 ∨ 19 < o) → ¬ o = 68 → H' o = H o) ∧ H' 68 2 = H 68 2 ∧ bF H H'
theorem frO_refl (H : XH) : frO H H := ⟨fun _ _ _ => rfl, rfl, bF_same rfl rfl⟩
theorem frO_up {H H' : XH} {a i x : Int} (h : frO H H') (ha : (1 ≤ a ∧ a ≤ 17) ∨ ((a = 18 ∨ a = 19) ∧ 0 ≤ x ∧ x ≤ 1) ∨ (a = 68 ∧ ¬ i = 2)) : frO H (xup H' a i x) := by
  refine ⟨fun o p q => ?_, ?_, fun k => ⟨fun z => ?_, fun z => ?_⟩⟩
  · rw [xup_ne (by omega)]
    exact h.1 o p q
  · rcases ha with q | q | q
    · rw [xup_ne (by omega)]
      exact h.2.1
    · rw [xup_ne (by omega)]
      exact h.2.1
    · rw [xup_k (by omega)]
      exact h.2.1
  · have y := (h.2.2 k).1 z
    by_cases e : a = 18
    · by_cases e2 : k = i
      · rw [e, e2, xup_self]
        exact ⟨by omega, by omega⟩
      · rw [xup_k e2]
        exact y
    · rw [xup_ne (fun q => e q.symm)]
      exact y
  · have y := (h.2.2 k).2 z
    by_cases e : a = 19
    · by_cases e2 : k = i
      · rw [e, e2, xup_self]
        exact ⟨by omega, by omega⟩
      · rw [xup_k e2]
        exact y
    · rw [xup_ne (fun q => e q.symm)]
      exact y
/-- what a pair of calls owes -/
def pOk (H : XH) (r r' : Int) (H' : XH) : Prop := r' = r ∧ InvS H' ∧ frO H H'

theorem U_87 {X : Int × (Int → Int)} {d : Nat} {Q : Int → XH → Prop} (hd : 1 ≤ d) (c : Int) (H : XH) (h : ((((0 ≤ c ∧ c < H 2 2)) → Q 1 (xup H 9 5 c)) ∧ (¬ ((0 ≤ c ∧ c < H 2 2)) → Q 0 H))) : xc X (d + 1) 87 [(2, 0), (0, c)] H Q := by
  refine ⟨rfl, ?_⟩
  show xq X d 87 Q 100000 [(0, (2, 0)), (1, (0, c))] [] H
  refine xq_run [11] 300 ?_
  show xWM (xE X) xMC d 18 [(2, 2), (0, c)] xKZ H _
  refine xc_in (s_18 (by omega) c H  ?_)
  replace h := h
  show xq X d 87 Q 11 [(0, (2, 0)), (1, (0, c))] [(0, xb (0 ≤ c ∧ c < H 2 2))] H
  refine xq_run [11] 300 ?_
  show ((¬ xb (0 ≤ c ∧ c < H 2 2) = 0) → xfR 3 1 ∧ xKZ = xKZ ∧ Q 1 (xup H 9 5 c)) ∧ (¬ (¬ xb (0 ≤ c ∧ c < H 2 2) = 0) → xfR 3 0 ∧ xKZ = xKZ ∧ Q 0 H)
  refine ⟨fun k_ => ?_, fun k_ => ?_⟩
  · replace h := h.1 (xbe_1.mp k_)
    exact ⟨xfR3_1, rfl, h⟩
  · replace h := h.2 (xbe_n.mp k_)
    exact ⟨xfR3_0, rfl, h⟩
theorem U_88 {X : Int × (Int → Int)} {d : Nat} {Q : Int → XH → Prop} (hd : 2 ≤ d) (c : Int) (H : XH) (h : (-2147483648 < H 67 1 ∧ H 67 1 ≤ 2147483647) ∧ ((((0 ≤ c ∧ c < H 67 1)) → Q 1 (xup H 68 5 c)) ∧ (¬ ((0 ≤ c ∧ c < H 67 1)) → Q 0 H))) : xc X (d + 1) 88 [(2, 67), (0, c)] H Q := by
  refine ⟨rfl, ?_⟩
  show xq X d 88 Q 100000 [(0, (2, 67)), (1, (0, c))] [] H
  refine xq_run [5] 300 ?_
  show xWM (xE X) xMC d 24 [(2, 67), (0, c)] xKZ H _
  refine xc_in (s_24 (by omega) c H (h.1) ?_)
  replace h := h.2
  show xq X d 88 Q 5 [(0, (2, 67)), (1, (0, c))] [(0, xb (0 ≤ c ∧ c < H 67 1))] H
  refine xq_run [5] 300 ?_
  show ((¬ xb (0 ≤ c ∧ c < H 67 1) = 0) → ((0 : Int) ≤ 5 ∧ (5 : Int) < 1180) ∧ xfR 3 1 ∧ xKZ = xKZ ∧ Q 1 (xup H 68 5 c)) ∧ (¬ (¬ xb (0 ≤ c ∧ c < H 67 1) = 0) → xfR 3 0 ∧ xKZ = xKZ ∧ Q 0 H)
  refine ⟨fun k_ => ?_, fun k_ => ?_⟩
  · replace h := h.1 (xbe_1.mp k_)
    refine ⟨⟨by decide, by decide⟩, ?_⟩
    exact ⟨xfR3_1, rfl, h⟩
  · replace h := h.2 (xbe_n.mp k_)
    exact ⟨xfR3_0, rfl, h⟩
theorem U_29 {X : Int × (Int → Int)} {d : Nat} {Q : Int → XH → Prop} (hd : 1 ≤ d) (c f : Int) (H : XH) (h : ((((0 ≤ c ∧ c < H 2 2)) → (((0 : Int) ≤ c ∧ (c : Int) < 64) ∧ (0 : Int) ≤ f ∧ (f : Int) ≤ 1) ∧ Q 1 (xup H 6 c f)) ∧ (¬ ((0 ≤ c ∧ c < H 2 2)) → Q 0 H))) : xc X (d + 1) 29 [(2, 0), (0, c), (0, f)] H Q := by
  refine ⟨rfl, ?_⟩
  show xq X d 29 Q 100000 [(0, (2, 0)), (1, (0, c)), (2, (0, f))] [] H
  refine xq_run [11] 300 ?_
  show xWM (xE X) xMC d 18 [(2, 2), (0, c)] xKZ H _
  refine xc_in (s_18 (by omega) c H  ?_)
  replace h := h
  show xq X d 29 Q 11 [(0, (2, 0)), (1, (0, c)), (2, (0, f))] [(0, xb (0 ≤ c ∧ c < H 2 2))] H
  refine xq_run [11] 300 ?_
  show ((¬ xb (0 ≤ c ∧ c < H 2 2) = 0) → (((0 : Int) ≤ c ∧ (c : Int) < 64) ∧ xfB (xTy xKZ 6) f) ∧ xfR 3 1 ∧ xKZ = xKZ ∧ Q 1 (xup H 6 c f)) ∧ (¬ (¬ xb (0 ≤ c ∧ c < H 2 2) = 0) → xfR 3 0 ∧ xKZ = xKZ ∧ Q 0 H)
  refine ⟨fun k_ => ?_, fun k_ => ?_⟩
  · replace h := h.1 (xbe_1.mp k_)
    refine ⟨⟨h.1.1, ⟨fun q => absurd q (by decide), fun _ => h.1.2⟩⟩, ?_⟩
    replace h := h.2
    exact ⟨xfR3_1, rfl, h⟩
  · replace h := h.2 (xbe_n.mp k_)
    exact ⟨xfR3_0, rfl, h⟩
theorem U_30 {X : Int × (Int → Int)} {d : Nat} {Q : Int → XH → Prop} (hd : 2 ≤ d) (c f : Int) (H : XH) (h : (-2147483648 < H 67 1 ∧ H 67 1 ≤ 2147483647) ∧ ((((0 ≤ c ∧ c < H 67 1)) → (xI (20 + c)) ∧ ((f = 0) → ((0 : Int) ≤ 20 + c ∧ (20 + c : Int) < 1180) ∧ Q 1 (xup H 68 (20 + c) 0)) ∧ (¬ (f = 0) → ((0 : Int) ≤ 20 + c ∧ (20 + c : Int) < 1180) ∧ Q 1 (xup H 68 (20 + c) 1))) ∧ (¬ ((0 ≤ c ∧ c < H 67 1)) → Q 0 H))) : xc X (d + 1) 30 [(2, 67), (0, c), (0, f)] H Q := by
  refine ⟨rfl, ?_⟩
  show xq X d 30 Q 100000 [(0, (2, 67)), (1, (0, c)), (2, (0, f))] [] H
  refine xq_run [5] 300 ?_
  show xWM (xE X) xMC d 24 [(2, 67), (0, c)] xKZ H _
  refine xc_in (s_24 (by omega) c H (h.1) ?_)
  replace h := h.2
  show xq X d 30 Q 5 [(0, (2, 67)), (1, (0, c)), (2, (0, f))] [(0, xb (0 ≤ c ∧ c < H 67 1))] H
  refine xq_run [5] 300 ?_
  show ((¬ xb (0 ≤ c ∧ c < H 67 1) = 0) → (xI (20 + c)) ∧ ((f = 0) → ((0 : Int) ≤ 20 + c ∧ (20 + c : Int) < 1180) ∧ xfR 3 1 ∧ xKZ = xKZ ∧ Q 1 (xup H 68 (20 + c) 0)) ∧ (¬ (f = 0) → ((0 : Int) ≤ 20 + c ∧ (20 + c : Int) < 1180) ∧ xfR 3 1 ∧ xKZ = xKZ ∧ Q 1 (xup H 68 (20 + c) 1))) ∧ (¬ (¬ xb (0 ≤ c ∧ c < H 67 1) = 0) → xfR 3 0 ∧ xKZ = xKZ ∧ Q 0 H)
  refine ⟨fun k_ => ?_, fun k_ => ?_⟩
  · replace h := h.1 (xbe_1.mp k_)
    refine ⟨h.1, ?_⟩
    replace h := h.2
    refine ⟨fun k_ => ?_, fun k_ => ?_⟩
    · replace h := h.1 k_
      refine ⟨h.1, ?_⟩
      replace h := h.2
      exact ⟨xfR3_1, rfl, h⟩
    · replace h := h.2 k_
      refine ⟨h.1, ?_⟩
      replace h := h.2
      exact ⟨xfR3_1, rfl, h⟩
  · replace h := h.2 (xbe_n.mp k_)
    exact ⟨xfR3_0, rfl, h⟩
theorem U_27 {X : Int × (Int → Int)} {d : Nat} {Q : Int → XH → Prop} (hd : 2 ≤ d) (c f : Int) (H : XH) (h : ((((0 ≤ c ∧ c < H 2 2)) → ((f = (-1)) → ((0 : Int) ≤ c ∧ (c : Int) < 64) ∧ Q 1 (xup H 5 c f)) ∧ (¬ (f = (-1)) → ((((0 ≤ f ∧ f < H 2 2)) → (0 ≤ H 2 2 ∧ H 2 2 ≤ 64) ∧ (((hitR (H 2 2) (H 5) 65 f c = 0) → ((0 : Int) ≤ c ∧ (c : Int) < 64) ∧ Q 1 (xup H 5 c f)) ∧ (¬ (hitR (H 2 2) (H 5) 65 f c = 0) → Q 0 H))) ∧ (¬ ((0 ≤ f ∧ f < H 2 2)) → Q 0 H)))) ∧ (¬ ((0 ≤ c ∧ c < H 2 2)) → Q 0 H))) : xc X (d + 1) 27 [(2, 0), (0, c), (0, f)] H Q := by
  refine ⟨rfl, ?_⟩
  show xq X d 27 Q 100000 [(0, (2, 0)), (1, (0, c)), (2, (0, f))] [] H
  refine xq_run [13, 28, 37] 300 ?_
  show xWM (xE X) xMC d 18 [(2, 2), (0, c)] xKZ H _
  refine xc_in (s_18 (by omega) c H  ?_)
  replace h := h
  show xq X d 27 Q 13 [(3, (2, 2)), (0, (2, 0)), (1, (0, c)), (2, (0, f))] [(0, xb (0 ≤ c ∧ c < H 2 2))] H
  refine xq_run [13, 28, 37] 300 ?_
  show ((¬ xb (0 ≤ c ∧ c < H 2 2) = 0) → ((f = (-1)) → ((0 : Int) ≤ c ∧ (c : Int) < 64) ∧ xfR 3 1 ∧ xKZ = xKZ ∧ Q 1 (xup H 5 c f)) ∧ (¬ (f = (-1)) → xWM (xE X) xMC d 18 [(2, 2), (0, f)] xKZ H _)) ∧ (¬ (¬ xb (0 ≤ c ∧ c < H 2 2) = 0) → xfR 3 0 ∧ xKZ = xKZ ∧ Q 0 H)
  refine ⟨fun k_ => ?_, fun k_ => ?_⟩
  · replace h := h.1 (xbe_1.mp k_)
    refine ⟨fun k_ => ?_, fun k_ => ?_⟩
    · replace h := h.1 k_
      refine ⟨h.1, ?_⟩
      replace h := h.2
      exact ⟨xfR3_1, rfl, h⟩
    · replace h := h.2 k_
      refine xc_in (s_18 (by omega) f H  ?_)
      replace h := h
      show xq X d 27 Q 28 [(3, (2, 2)), (0, (2, 0)), (1, (0, c)), (2, (0, f))] [(0, xb (0 ≤ f ∧ f < H 2 2))] H
      refine xq_run [13, 28, 37] 300 ?_
      show ((xb (0 ≤ f ∧ f < H 2 2) = 0) → xfR 3 0 ∧ xKZ = xKZ ∧ Q 0 H) ∧ (¬ (xb (0 ≤ f ∧ f < H 2 2) = 0) → xWM (xE X) xMC d 26 [(2, 2), (0, f), (0, c)] xKZ H _)
      refine ⟨fun k_ => ?_, fun k_ => ?_⟩
      · replace h := h.2 (xbe_0.mp k_)
        exact ⟨xfR3_0, rfl, h⟩
      · replace h := h.1 (xbe_1.mp k_)
        refine xc_in (s_26 (by omega) f c H (h.1) ?_)
        replace h := h.2
        show xq X d 27 Q 37 [(3, (2, 2)), (0, (2, 0)), (1, (0, c)), (2, (0, f))] [(0, hitR (H 2 2) (H 5) 65 f c)] H
        refine xq_run [13, 28, 37] 300 ?_
        show ((hitR (H 2 2) (H 5) 65 f c = 0) → ((0 : Int) ≤ c ∧ (c : Int) < 64) ∧ xfR 3 1 ∧ xKZ = xKZ ∧ Q 1 (xup H 5 c f)) ∧ (¬ (hitR (H 2 2) (H 5) 65 f c = 0) → xfR 3 0 ∧ xKZ = xKZ ∧ Q 0 H)
        refine ⟨fun k_ => ?_, fun k_ => ?_⟩
        · replace h := h.1 k_
          refine ⟨h.1, ?_⟩
          replace h := h.2
          exact ⟨xfR3_1, rfl, h⟩
        · replace h := h.2 k_
          exact ⟨xfR3_0, rfl, h⟩
  · replace h := h.2 (xbe_n.mp k_)
    exact ⟨xfR3_0, rfl, h⟩

theorem p_start {X : Int × (Int → Int)} {d : Nat} (hd : 3 ≤ d) (c : Int) (H : XH) (hi : InvS H) : xc X d 87 [(2, 0), (0, c)] H (fun r H1 => xc X d 88 [(2, 67), (0, c)] H1 (pOk H r)) := by
  cases d with
  | zero => omega
  | succ d =>
  have hg := hi.1
  have hs := hi.2
  have nn := hg.nn
  have l2 := hs.l2
  refine U_87 (by omega) c H ⟨fun q => ?_, fun q => ?_⟩
  · have nn' : -2147483648 < H 67 1 ∧ H 67 1 ≤ 2147483647 := by omega
    have q' : 0 ≤ c ∧ c < H 67 1 := by omega
    refine U_88 (by omega) c (xup H 9 5 c) ⟨nn', fun _ => ⟨rfl, ⟨?_, ?_⟩, frO_up (frO_up (frO_refl H) (by omega)) (by omega)⟩, fun z => absurd q' z⟩
    · exact GOk_st (g := H 68) hg (fun k hk => xup_k hk) q'
    · exact SRel_st (g := H 68) hg hs (fun k hk => xup_k hk) hs.r0 hs.r1 hs.r2 hs.r3 hs.r4 rfl
  · have nn' : -2147483648 < H 67 1 ∧ H 67 1 ≤ 2147483647 := by omega
    exact U_88 (by omega) c H ⟨nn', fun z => absurd (by omega) q, fun _ => ⟨rfl, hi, frO_refl H⟩⟩
theorem p_carry {X : Int × (Int → Int)} {d : Nat} (hd : 3 ≤ d) (c f : Int) (H : XH) (hi : InvS H) : xc X d 27 [(2, 0), (0, c), (0, f)] H (fun r H1 => xc X d 28 [(2, 67), (0, c), (0, f)] H1 (pOk H r)) := by
  have hg := hi.1
  have hs := hi.2
  have nn := hg.nn
  have l2 := hs.l2
  have ho : OgR (H 67 1) (fun e => H 68 (90 + e)) := fun e a b => hg.ogr e a (by omega)
  have hh : hitR (H 2 2) (H 5) 65 f c = hitR (H 67 1) (fun e => H 68 (90 + e)) 65 f c := by
    rw [l2]
    exact hitR_congr (fun e a b => hs.o e a (by omega)) 65 f c
  have no : ¬ ((0 ≤ c ∧ c < H 67 1) ∧ (f = -1 ∨ ((0 ≤ f ∧ f < H 67 1) ∧ hitR (H 67 1) (fun e => H 68 (90 + e)) 65 f c = 0))) → xc X d 28 [(2, 67), (0, c), (0, f)] H (pOk H 0) := fun q =>
    s_28 hd c f H (by omega) ho hg.ogE (fun z => absurd z q) (fun _ => ⟨rfl, hi, frO_refl H⟩)
  have yes : (0 ≤ c ∧ c < H 67 1) ∧ (f = -1 ∨ ((0 ≤ f ∧ f < H 67 1) ∧ hitR (H 67 1) (fun e => H 68 (90 + e)) 65 f c = 0)) → xc X d 28 [(2, 67), (0, c), (0, f)] (xup H 5 c f) (pOk H 1) := fun q => by
    refine s_28 hd c f (xup H 5 c f) (by show 0 ≤ H 67 1 ∧ H 67 1 ≤ 64; omega) ho hg.ogE (fun _ => ⟨rfl, ⟨?_, ?_⟩, frO_up (frO_up (frO_refl H) (by omega)) (by omega)⟩) (fun z => absurd q z)
    · refine GOk_cr (g := H 68) hg (fun k hk => xup_k (by omega)) (fun e a b => ?_) ?_
      · show xup H 68 (90 + c) f 68 (90 + e) = -1 ∨ (0 ≤ xup H 68 (90 + c) f 68 (90 + e) ∧ xup H 68 (90 + c) f 68 (90 + e) < H 67 1)
        rw [xup_eq]
        have z := hg.ogr e a b
        split <;> omega
      · have hx := ends_carry hg.ogE q.1 (f := f) (q.2.elim Or.inl (fun z => Or.inr ⟨z.1.1, z.1.2, hitR_hits ho (by omega) 65 f (Or.inr z.1) (itf_mono (ends_n ho hg.ogE z.1.1 z.1.2) (by omega)) z.2⟩))
        refine (congrArg (Ends (H 67 1)) ?_).mp hx
        funext e
        show _ = xup H 68 (90 + c) f 68 (90 + e)
        rw [xup_eq]
        by_cases h : e = c
        · rw [if_pos h, if_pos (by omega)]
        · rw [if_neg h, if_neg (by omega)]
    · refine SRel_cr (g := H 68) hg hs (fun k hk => xup_k (by omega)) (fun e a b => ?_)
      show xup H 5 c f 5 e = xup H 68 (90 + c) f 68 (90 + e)
      rw [xup_eq, xup_eq]
      have z := hs.o e a b
      split <;> split <;> omega
  cases d with
  | zero => omega
  | succ d =>
  refine U_27 (by omega) c f H ⟨fun qc => ⟨fun qf => ⟨by omega, yes ⟨by omega, Or.inl qf⟩⟩, fun qf => ⟨fun q2 => ⟨by omega, fun q3 => ⟨by omega, yes ⟨by omega, Or.inr ⟨by omega, by rw [← hh]; exact q3⟩⟩⟩, fun q3 => no (fun z => z.2.elim qf (fun y => q3 (hh.trans y.2)))⟩, fun q2 => no (fun z => z.2.elim qf (fun y => q2 (by omega)))⟩⟩, fun qc => no (fun z => qc (by omega))⟩
theorem p_bar {X : Int × (Int → Int)} {d : Nat} (hd : 3 ≤ d) (c f : Int) (H : XH) (hf : f = 0 ∨ f = 1) (hi : InvS H) : xc X d 29 [(2, 0), (0, c), (0, f)] H (fun r H1 => xc X d 30 [(2, 67), (0, c), (0, f)] H1 (pOk H r)) := by
  cases d with
  | zero => omega
  | succ d =>
  have hg := hi.1
  have hs := hi.2
  have nn := hg.nn
  have l2 := hs.l2
  have nn' : -2147483648 < H 67 1 ∧ H 67 1 ≤ 2147483647 := by omega
  have yes : ∀ v, v = f → 0 ≤ c ∧ c < H 67 1 → pOk H 1 1 (xup (xup H 6 c f) 68 (20 + c) v) := fun v hv q => by
    refine ⟨rfl, ⟨?_, ?_⟩, frO_up (frO_up (frO_refl H) (by omega)) (by omega)⟩
    · refine GOk_br (g := H 68) hg (fun k hk => xup_k (by omega)) (fun e a b => ?_)
      show xup H 68 (20 + c) v 68 (20 + e) = 0 ∨ xup H 68 (20 + c) v 68 (20 + e) = 1
      rw [xup_eq]
      have z := hg.brb e a b
      split <;> omega
    · refine SRel_br (g := H 68) hg hs (fun k hk => xup_k (by omega)) (fun e a b => ?_)
      show xup H 6 c f 6 e = xup H 68 (20 + c) v 68 (20 + e)
      rw [xup_eq, xup_eq]
      have z := hs.b e a b
      split <;> split <;> omega
  refine U_29 (by omega) c f H ⟨fun q => ⟨⟨by omega, by omega⟩, ?_⟩, fun q => ?_⟩
  · have q' : 0 ≤ c ∧ c < H 67 1 := by omega
    exact U_30 (by omega) c f (xup H 6 c f) ⟨nn', fun _ => ⟨by unfold xI; omega, fun z => ⟨by omega, yes 0 z.symm q'⟩, fun z => ⟨by omega, yes 1 (by omega) q'⟩⟩, fun z => absurd q' z⟩
  · exact U_30 (by omega) c f H ⟨nn', fun z => absurd (by omega) q, fun _ => ⟨rfl, hi, frO_refl H⟩⟩
