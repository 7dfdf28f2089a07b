/-! THE PURE LAYER 10: more pairs of calls that change one thing -/
theorem U_54 {X : Int × (Int → Int)} {d : Nat} {Q : Int → XH → Prop} (hd : 0 ≤ d) (H : XH) (h : Q (H 7 1) (xup H 7 1 0)) : xc X (d + 1) 54 [(2, 0)] H Q := by
  refine ⟨rfl, ?_⟩
  show xq X d 54 Q 100000 [(0, (2, 0))] [] H
  refine xq_run [] 300 ?_
  show xfR 0 (H 7 1) ∧ xKZ = xKZ ∧ Q (H 7 1) (xup H 7 1 0)
  exact ⟨trivial, rfl, h⟩

theorem U_55 {X : Int × (Int → Int)} {d : Nat} {Q : Int → XH → Prop} (hd : 0 ≤ d) (H : XH) (h : Q (H 68 1) (xup H 68 1 0)) : xc X (d + 1) 55 [(2, 67)] H Q := by
  refine ⟨rfl, ?_⟩
  show xq X d 55 Q 100000 [(0, (2, 67))] [] H
  refine xq_run [] 300 ?_
  show ((0 : Int) ≤ 1 ∧ (1 : Int) < 1180) ∧ ((0 : Int) ≤ 1 ∧ (1 : Int) < 1180) ∧ xfR 0 (H 68 1) ∧ xKZ = xKZ ∧ Q (H 68 1) (xup H 68 1 0)
  refine ⟨⟨by decide, by decide⟩, ?_⟩
  refine ⟨⟨by decide, by decide⟩, ?_⟩
  exact ⟨trivial, rfl, h⟩

theorem U_202 {X : Int × (Int → Int)} {d : Nat} {Q : Int → XH → Prop} (hd : 1 ≤ d) (s : Int) (H : XH) (h : ((((0 ≤ s ∧ s ≤ 3)) → ((0 : Int) ≤ s ∧ (s : Int) < 4) ∧ ((0 : Int) ≤ s ∧ (s : Int) < 4) ∧ Q (H 14 s) (xup H 14 s 0)) ∧ (¬ ((0 ≤ s ∧ s ≤ 3)) → Q (-1) H))) : xc X (d + 1) 202 [(2, 0), (0, s)] H Q := by
  refine ⟨rfl, ?_⟩
  show xq X d 202 Q 100000 [(0, (2, 0)), (1, (0, s))] [] H
  refine xq_run [4] 300 ?_
  show xWM (xE X) xMC d 198 [(0, s)] xKZ H _
  refine xc_in (s_198 (by omega) s H  ?_)
  replace h := h
  show xq X d 202 Q 4 [(0, (2, 0)), (1, (0, s))] [(0, xb (0 ≤ s ∧ s ≤ 3))] H
  refine xq_run [4] 300 ?_
  show ((¬ xb (0 ≤ s ∧ s ≤ 3) = 0) → ((0 : Int) ≤ s ∧ (s : Int) < 4) ∧ ((0 : Int) ≤ s ∧ (s : Int) < 4) ∧ xfR 0 (H 14 s) ∧ xKZ = xKZ ∧ Q (H 14 s) (xup H 14 s 0)) ∧ (¬ (¬ xb (0 ≤ s ∧ s ≤ 3) = 0) → xfR 0 (-1) ∧ xKZ = xKZ ∧ Q (-1) H)
  refine ⟨fun k_ => ?_, fun k_ => ?_⟩
  · replace h := h.1 (xbe_1.mp k_)
    refine ⟨h.1, ?_⟩
    replace h := h.2
    refine ⟨h.1, ?_⟩
    replace h := h.2
    exact ⟨trivial, rfl, h⟩
  · replace h := h.2 (xbe_n.mp k_)
    exact ⟨trivial, rfl, h⟩

theorem U_203 {X : Int × (Int → Int)} {d : Nat} {Q : Int → XH → Prop} (hd : 1 ≤ d) (s : Int) (H : XH) (h : ((((0 ≤ s ∧ s ≤ 3)) → (xI (610 + s)) ∧ ((0 : Int) ≤ 610 + s ∧ (610 + s : Int) < 1180) ∧ (xI (610 + s)) ∧ ((0 : Int) ≤ 610 + s ∧ (610 + s : Int) < 1180) ∧ Q (H 68 (610 + s)) (xup H 68 (610 + s) 0)) ∧ (¬ ((0 ≤ s ∧ s ≤ 3)) → Q (-1) H))) : xc X (d + 1) 203 [(2, 67), (0, s)] H Q := by
  refine ⟨rfl, ?_⟩
  show xq X d 203 Q 100000 [(0, (2, 67)), (1, (0, s))] [] H
  refine xq_run [6] 300 ?_
  show xWM (xE X) xMC d 23 [(0, s), (0, 0), (0, 3)] xKZ H _
  refine xc_in (s_23 (by omega) s 0 3 H  ?_)
  replace h := h
  show xq X d 203 Q 6 [(0, (2, 67)), (1, (0, s))] [(0, xb (0 ≤ s ∧ s ≤ 3))] H
  refine xq_run [6] 300 ?_
  show ((¬ xb (0 ≤ s ∧ s ≤ 3) = 0) → (xI (610 + s)) ∧ ((0 : Int) ≤ 610 + s ∧ (610 + s : Int) < 1180) ∧ (xI (610 + s)) ∧ ((0 : Int) ≤ 610 + s ∧ (610 + s : Int) < 1180) ∧ xfR 0 (H 68 (610 + s)) ∧ xKZ = xKZ ∧ Q (H 68 (610 + s)) (xup H 68 (610 + s) 0)) ∧ (¬ (¬ xb (0 ≤ s ∧ s ≤ 3) = 0) → xfR 0 (-1) ∧ xKZ = xKZ ∧ Q (-1) H)
  refine ⟨fun k_ => ?_, fun k_ => ?_⟩
  · replace h := h.1 (xbe_1.mp k_)
    refine ⟨h.1, ?_⟩
    replace h := h.2
    refine ⟨h.1, ?_⟩
    replace h := h.2
    refine ⟨h.1, ?_⟩
    replace h := h.2
    refine ⟨h.1, ?_⟩
    replace h := h.2
    exact ⟨trivial, rfl, h⟩
  · replace h := h.2 (xbe_n.mp k_)
    exact ⟨trivial, rfl, h⟩

theorem U_196 {X : Int × (Int → Int)} {d : Nat} {Q : Int → XH → Prop} (hd : 1 ≤ d) (l : Int) (H : XH) (h : (xI ((H 1 5) - 1)) ∧ (((((-1) ≤ l ∧ l ≤ ((H 1 5) - 1))) → Q 1 (xup H 1 6 l)) ∧ (¬ (((-1) ≤ l ∧ l ≤ ((H 1 5) - 1))) → Q 0 H))) : xc X (d + 1) 196 [(2, 0), (0, l)] H Q := by
  refine ⟨rfl, ?_⟩
  show xq X d 196 Q 100000 [(0, (2, 0)), (1, (0, l))] [] H
  refine xq_run [14] 300 ?_
  show (xI ((H 1 5) - 1)) ∧ xWM (xE X) xMC d 19 [(0, l), (0, (-1)), (0, (H 1 5) - 1)] xKZ H _
  refine ⟨h.1, ?_⟩
  replace h := h.2
  refine xc_in (s_19 (by omega) l (-1) ((H 1 5) - 1) H  ?_)
  replace h := h
  show xq X d 196 Q 14 [(0, (2, 0)), (1, (0, l))] [(0, xb ((-1) ≤ l ∧ l ≤ ((H 1 5) - 1)))] H
  refine xq_run [14] 300 ?_
  show ((¬ xb ((-1) ≤ l ∧ l ≤ ((H 1 5) - 1)) = 0) → xfR 3 1 ∧ xKZ = xKZ ∧ Q 1 (xup H 1 6 l)) ∧ (¬ (¬ xb ((-1) ≤ l ∧ l ≤ ((H 1 5) - 1)) = 0) → xfR 3 0 ∧ xKZ = xKZ ∧ Q 0 H)
  refine ⟨fun k_ => ?_, fun k_ => ?_⟩
  · replace h := h.1 (xbe_1.mp k_)
    exact ⟨xfR3_1, rfl, h⟩
  · replace h := h.2 (xbe_n.mp k_)
    exact ⟨xfR3_0, rfl, h⟩

theorem U_197 {X : Int × (Int → Int)} {d : Nat} {Q : Int → XH → Prop} (hd : 1 ≤ d) (l : Int) (H : XH) (h : ((l = (-1)) → Q 1 (xup H 68 3 l)) ∧ (¬ (l = (-1)) → (xI ((H 68 2) - 1)) ∧ ((((0 ≤ l ∧ l ≤ ((H 68 2) - 1))) → Q 1 (xup H 68 3 l)) ∧ (¬ ((0 ≤ l ∧ l ≤ ((H 68 2) - 1))) → Q 0 H)))) : xc X (d + 1) 197 [(2, 67), (0, l)] H Q := by
  refine ⟨rfl, ?_⟩
  show xq X d 197 Q 100000 [(0, (2, 67)), (1, (0, l))] [] H
  refine xq_run [18] 300 ?_
  show ((l = (-1)) → ((0 : Int) ≤ 3 ∧ (3 : Int) < 1180) ∧ xfR 3 1 ∧ xKZ = xKZ ∧ Q 1 (xup H 68 3 l)) ∧ (¬ (l = (-1)) → ((0 : Int) ≤ 2 ∧ (2 : Int) < 1180) ∧ (xI ((H 68 2) - 1)) ∧ xWM (xE X) xMC d 23 [(0, l), (0, 0), (0, (H 68 2) - 1)] xKZ H _)
  refine ⟨fun k_ => ?_, fun k_ => ?_⟩
  · replace h := h.1 k_
    refine ⟨⟨by decide, by decide⟩, ?_⟩
    exact ⟨xfR3_1, rfl, h⟩
  · replace h := h.2 k_
    refine ⟨⟨by decide, by decide⟩, ?_⟩
    refine ⟨h.1, ?_⟩
    replace h := h.2
    refine xc_in (s_23 (by omega) l 0 ((H 68 2) - 1) H  ?_)
    replace h := h
    show xq X d 197 Q 18 [(0, (2, 67)), (1, (0, l))] [(0, xb (0 ≤ l ∧ l ≤ ((H 68 2) - 1)))] H
    refine xq_run [18] 300 ?_
    show ((¬ xb (0 ≤ l ∧ l ≤ ((H 68 2) - 1)) = 0) → ((0 : Int) ≤ 3 ∧ (3 : Int) < 1180) ∧ xfR 3 1 ∧ xKZ = xKZ ∧ Q 1 (xup H 68 3 l)) ∧ (¬ (¬ xb (0 ≤ l ∧ l ≤ ((H 68 2) - 1)) = 0) → xfR 3 0 ∧ xKZ = xKZ ∧ Q 0 H)
    refine ⟨fun k_ => ?_, fun k_ => ?_⟩
    · replace h := h.1 (xbe_1.mp k_)
      refine ⟨⟨by decide, by decide⟩, ?_⟩
      exact ⟨xfR3_1, rfl, h⟩
    · replace h := h.2 (xbe_n.mp k_)
      exact ⟨xfR3_0, rfl, h⟩

theorem p_clean {X : Int × (Int → Int)} {d : Nat} (hd : 3 ≤ d) (H : XH) (hi : InvS H) : xc X d 54 [(2, 0)] H (fun r H1 => xc X d 55 [(2, 67)] H1 (pOk H r)) := by
  cases d with
  | zero => omega
  | succ d =>
  have hg := hi.1
  have hs := hi.2
  refine U_54 (by omega) H (U_55 (by omega) (xup H 7 1 0) ⟨hs.c.symm, ⟨?_, ?_⟩, frO_up (frO_up (frO_refl H) (by omega)) (by omega)⟩)
  · have e1 : xup (xup H 7 1 0) 68 1 0 68 1 = 0 := rfl
    refine GOk_ly (g := H 68) hg (fun k hk => xup_k (by omega)) ?_ (fun k a b => ?_) (fun l a b => ?_)
    · rw [e1]
      omega
    · rw [e1] at b
      omega
    · rw [e1] at b
      omega
  · refine SRel_ly (g := H 68) hg hs (fun k hk => xup_k (by omega)) rfl (fun k a b => ?_)
    have b' : k < 5 * 0 := b
    omega
theorem p_forget {X : Int × (Int → Int)} {d : Nat} (hd : 3 ≤ d) (s : Int) (H : XH) (hi : InvS H) : xc X d 202 [(2, 0), (0, s)] H (fun r H1 => xc X d 203 [(2, 67), (0, s)] H1 (pOk H r)) := by
  cases d with
  | zero => omega
  | succ d =>
  have hg := hi.1
  have hs := hi.2
  refine U_202 (by omega) s H ⟨fun q => ⟨by omega, by omega, ?_⟩, fun q => ?_⟩
  · refine U_203 (by omega) s (xup H 14 s 0) ⟨fun _ => ⟨by unfold xI; omega, by omega, by unfold xI; omega, by omega, (hs.sc s q.1 (by omega)).symm, ⟨?_, ?_⟩, frO_up (frO_up (frO_refl H) (by omega)) (by omega)⟩, fun z => absurd q z⟩
    · refine GOk_sp (g := H 68) hg (fun k hk => xup_k (by omega)) (fun t a b => ?_) (fun t k a b c e => ?_)
      · show 0 ≤ xup H 68 (610 + s) 0 68 (610 + t) ∧ xup H 68 (610 + s) 0 68 (610 + t) ≤ 20
        rw [xup_eq]
        have z := hg.spc t a b
        split <;> omega
      · have e' : k < xup H 68 (610 + s) 0 68 (610 + t) := e
        rw [xup_eq] at e'
        have y := hg.spc t a b
        split at e'
        · omega
        · have z := hg.spb t k a b c e'
          have k1 : ∀ j, 620 ≤ j → xup (xup H 14 s 0) 68 (610 + s) 0 68 j = H 68 j := fun j hj => xup_k (by omega)
          rw [k1 _ (by omega), k1 (621 + (60 * t + 3 * k)) (by omega), k1 (622 + (60 * t + 3 * k)) (by omega)]
          exact z
    · refine SRel_sp (g := H 68) hg hs (fun k hk => xup_k (by omega)) (fun k a b => ?_) (fun t a b => ?_)
      · have z := hs.sp k a b
        rw [show xup (xup H 14 s 0) 68 (610 + s) 0 68 (620 + k) = H 68 (620 + k) from xup_k (by omega)]
        exact z
      · show xup H 14 s 0 14 t = xup H 68 (610 + s) 0 68 (610 + t)
        rw [xup_eq, xup_eq]
        have z := hs.sc t a b
        split <;> split <;> omega
  · exact U_203 (by omega) s H ⟨fun z => absurd z q, fun _ => ⟨rfl, hi, frO_refl H⟩⟩
theorem p_by {X : Int × (Int → Int)} {d : Nat} (hd : 3 ≤ d) (l : Int) (H : XH) (hi : InvS H) : xc X d 196 [(2, 0), (0, l)] H (fun r H1 => xc X d 197 [(2, 67), (0, l)] H1 (pOk H r)) := by
  cases d with
  | zero => omega
  | succ d =>
  have hg := hi.1
  have hs := hi.2
  have n5 := hs.n5
  have lw := hg.lwb
  have yes : -1 ≤ l ∧ l < H 68 2 → pOk H 1 1 (xup (xup H 1 6 l) 68 3 l) := fun q => by
    refine ⟨rfl, ⟨?_, ?_⟩, frO_up (frO_up (frO_refl H) (by omega)) (by omega)⟩
    · exact GOk_lw (g := H 68) hg (fun k hk => xup_k (by omega)) lw q
    · exact SRel_lw (g := H 68) hg hs (fun k hk => xup_k (by omega)) n5 rfl
  refine U_196 (by omega) l H ⟨by unfold xI; omega, fun q => ?_, fun q => ?_⟩
  · have hx : xI (H 68 2 - 1) := by unfold xI; omega
    have q2 : ¬ l = -1 → 0 ≤ l ∧ l ≤ H 68 2 - 1 := by omega
    exact U_197 (by omega) l (xup H 1 6 l) ⟨fun _ => yes (by omega), fun z => ⟨hx, fun _ => yes (by omega), fun z2 => absurd (q2 z) z2⟩⟩
  · exact U_197 (by omega) l H ⟨fun z => absurd (by omega) q, fun z => ⟨by unfold xI; omega, fun z2 => absurd (by omega) q, fun _ => ⟨rfl, hi, frO_refl H⟩⟩⟩
