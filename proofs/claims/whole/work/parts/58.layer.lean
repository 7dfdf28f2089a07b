/-! THE PURE LAYER 28: layers told -/
theorem U_50_o7 {X : Int × (Int → Int)} {d : Nat} {Q : Int → XH → Prop} (hd : 1 ≤ d) (l s a : Int) (H : XH) (h : ((((0 ≤ l ∧ l < H 7 1)) → ((((0 ≤ s ∧ s ≤ 4)) → (xI (l * 5)) ∧ (xI ((l * 5) + s)) ∧ ((0 : Int) ≤ (l * 5) + s ∧ ((l * 5) + s : Int) < 40) ∧ Q 0 (xup H 8 ((l * 5) + s) a)) ∧ (¬ ((0 ≤ s ∧ s ≤ 4)) → Q 0 H))) ∧ (¬ ((0 ≤ l ∧ l < H 7 1)) → Q 0 H))) : xc X (d + 1) 50 [(2, 7), (0, l), (0, s), (0, a)] H Q := by
  refine ⟨rfl, ?_⟩
  show xq X d 50 Q 100000 [(0, (2, 7)), (1, (0, l)), (2, (0, s)), (3, (0, a))] [] H
  refine xq_run [5, 12] 300 ?_
  show xWM (xE X) xMC d 49 [(2, 7), (0, l)] xKZ H _
  refine xc_in (s_49_o7 (by omega) l H  ?_)
  replace h := h
  show xq X d 50 Q 5 [(0, (2, 7)), (1, (0, l)), (2, (0, s)), (3, (0, a))] [(0, xb (0 ≤ l ∧ l < H 7 1))] H
  refine xq_run [5, 12] 300 ?_
  show ((xb (0 ≤ l ∧ l < H 7 1) = 0) → xfR 2 0 ∧ xKZ = xKZ ∧ Q 0 H) ∧ (¬ (xb (0 ≤ l ∧ l < H 7 1) = 0) → xWM (xE X) xMC d 31 [(0, s)] xKZ H _)
  refine ⟨fun k_ => ?_, fun k_ => ?_⟩
  · replace h := h.2 (xbe_0.mp k_)
    exact ⟨trivial, rfl, h⟩
  · replace h := h.1 (xbe_1.mp k_)
    refine xc_in (s_31 (by omega) s H  ?_)
    replace h := h
    show xq X d 50 Q 12 [(0, (2, 7)), (1, (0, l)), (2, (0, s)), (3, (0, a))] [(0, xb (0 ≤ s ∧ s ≤ 4))] H
    refine xq_run [5, 12] 300 ?_
    show ((xb (0 ≤ s ∧ s ≤ 4) = 0) → xfR 2 0 ∧ xKZ = xKZ ∧ Q 0 H) ∧ (¬ (xb (0 ≤ s ∧ s ≤ 4) = 0) → (xI (l * 5)) ∧ (xI ((l * 5) + s)) ∧ ((0 : Int) ≤ (l * 5) + s ∧ ((l * 5) + s : Int) < 40) ∧ xfR 2 0 ∧ xKZ = xKZ ∧ Q 0 (xup H 8 ((l * 5) + s) a))
    refine ⟨fun k_ => ?_, fun k_ => ?_⟩
    · replace h := h.2 (xbe_0.mp k_)
      exact ⟨trivial, rfl, h⟩
    · replace h := h.1 (xbe_1.mp k_)
      refine ⟨h.1, ?_⟩
      replace h := h.2
      refine ⟨h.1, ?_⟩
      replace h := h.2
      refine ⟨h.1, ?_⟩
      replace h := h.2
      exact ⟨trivial, rfl, h⟩

theorem s_50_o7 {X : Int × (Int → Int)} {d : Nat} {Q : Int → XH → Prop} (hd : 2 ≤ d) (l s a : Int) (H : XH) (p0 : 0 ≤ l ∧ l < H 7 1) (p1 : 0 ≤ s ∧ s ≤ 4) (p2 : H 7 1 ≤ 8) (hQ : Q 0 (xup H 8 (l * 5 + s) a)) : xc X d 50 [(2, 7), (0, l), (0, s), (0, a)] H Q := by
  cases d with
  | zero => omega
  | succ d =>
  refine U_50_o7 (by omega) l s a H ?_
  refine ⟨fun c1 => ?_, fun c1 => ?_⟩
  · skip
    refine ⟨fun c2 => ?_, fun c2 => ?_⟩
    · skip
      refine ⟨?_, ?_⟩
      · first | omega | (unfold xI; omega) | (unfold xJ; omega) | assumption | (exfalso; omega)
      refine ⟨?_, ?_⟩
      · first | omega | (unfold xI; omega) | (unfold xJ; omega) | assumption | (exfalso; omega)
      refine ⟨?_, ?_⟩
      · first | omega | (unfold xI; omega) | (unfold xJ; omega) | assumption | (exfalso; omega)
      first | exact hQ | (exfalso; omega)
    · skip
      first | exact hQ | (exfalso; omega)
  · skip
    first | exact hQ | (exfalso; omega)

theorem s_50b_o7 {X : Int × (Int → Int)} {d : Nat} {Q : Int → XH → Prop} (hd : 3 ≤ d) (l s a : Int) (H : XH) (p0 : 0 ≤ l ∧ l < H 7 1) (p1 : 0 ≤ s ∧ s ≤ 4) (p2 : H 7 1 ≤ 8) (hQ : ∀ h1 : XH, h1 = xup H 8 (l * 5 + s) a → Q 0 h1) : xc X d 50 [(2, 7), (0, l), (0, s), (0, a)] H Q :=
  s_50_o7 (by omega) l s a H p0 p1 p2 (hQ _ rfl)

theorem U_50_o59 {X : Int × (Int → Int)} {d : Nat} {Q : Int → XH → Prop} (hd : 1 ≤ d) (l s a : Int) (H : XH) (h : ((((0 ≤ l ∧ l < H 59 1)) → ((((0 ≤ s ∧ s ≤ 4)) → (xI (l * 5)) ∧ (xI ((l * 5) + s)) ∧ ((0 : Int) ≤ (l * 5) + s ∧ ((l * 5) + s : Int) < 40) ∧ Q 0 (xup H 60 ((l * 5) + s) a)) ∧ (¬ ((0 ≤ s ∧ s ≤ 4)) → Q 0 H))) ∧ (¬ ((0 ≤ l ∧ l < H 59 1)) → Q 0 H))) : xc X (d + 1) 50 [(2, 59), (0, l), (0, s), (0, a)] H Q := by
  refine ⟨rfl, ?_⟩
  show xq X d 50 Q 100000 [(0, (2, 59)), (1, (0, l)), (2, (0, s)), (3, (0, a))] [] H
  refine xq_run [5, 12] 300 ?_
  show xWM (xE X) xMC d 49 [(2, 59), (0, l)] xKZ H _
  refine xc_in (s_49_o59 (by omega) l H  ?_)
  replace h := h
  show xq X d 50 Q 5 [(0, (2, 59)), (1, (0, l)), (2, (0, s)), (3, (0, a))] [(0, xb (0 ≤ l ∧ l < H 59 1))] H
  refine xq_run [5, 12] 300 ?_
  show ((xb (0 ≤ l ∧ l < H 59 1) = 0) → xfR 2 0 ∧ xKZ = xKZ ∧ Q 0 H) ∧ (¬ (xb (0 ≤ l ∧ l < H 59 1) = 0) → xWM (xE X) xMC d 31 [(0, s)] xKZ H _)
  refine ⟨fun k_ => ?_, fun k_ => ?_⟩
  · replace h := h.2 (xbe_0.mp k_)
    exact ⟨trivial, rfl, h⟩
  · replace h := h.1 (xbe_1.mp k_)
    refine xc_in (s_31 (by omega) s H  ?_)
    replace h := h
    show xq X d 50 Q 12 [(0, (2, 59)), (1, (0, l)), (2, (0, s)), (3, (0, a))] [(0, xb (0 ≤ s ∧ s ≤ 4))] H
    refine xq_run [5, 12] 300 ?_
    show ((xb (0 ≤ s ∧ s ≤ 4) = 0) → xfR 2 0 ∧ xKZ = xKZ ∧ Q 0 H) ∧ (¬ (xb (0 ≤ s ∧ s ≤ 4) = 0) → (xI (l * 5)) ∧ (xI ((l * 5) + s)) ∧ ((0 : Int) ≤ (l * 5) + s ∧ ((l * 5) + s : Int) < 40) ∧ xfR 2 0 ∧ xKZ = xKZ ∧ Q 0 (xup H 60 ((l * 5) + s) a))
    refine ⟨fun k_ => ?_, fun k_ => ?_⟩
    · replace h := h.2 (xbe_0.mp k_)
      exact ⟨trivial, rfl, h⟩
    · replace h := h.1 (xbe_1.mp k_)
      refine ⟨h.1, ?_⟩
      replace h := h.2
      refine ⟨h.1, ?_⟩
      replace h := h.2
      refine ⟨h.1, ?_⟩
      replace h := h.2
      exact ⟨trivial, rfl, h⟩

theorem s_50_o59 {X : Int × (Int → Int)} {d : Nat} {Q : Int → XH → Prop} (hd : 2 ≤ d) (l s a : Int) (H : XH) (p0 : 0 ≤ l ∧ l < H 59 1) (p1 : 0 ≤ s ∧ s ≤ 4) (p2 : H 59 1 ≤ 8) (hQ : Q 0 (xup H 60 (l * 5 + s) a)) : xc X d 50 [(2, 59), (0, l), (0, s), (0, a)] H Q := by
  cases d with
  | zero => omega
  | succ d =>
  refine U_50_o59 (by omega) l s a H ?_
  refine ⟨fun c1 => ?_, fun c1 => ?_⟩
  · skip
    refine ⟨fun c2 => ?_, fun c2 => ?_⟩
    · skip
      refine ⟨?_, ?_⟩
      · first | omega | (unfold xI; omega) | (unfold xJ; omega) | assumption | (exfalso; omega)
      refine ⟨?_, ?_⟩
      · first | omega | (unfold xI; omega) | (unfold xJ; omega) | assumption | (exfalso; omega)
      refine ⟨?_, ?_⟩
      · first | omega | (unfold xI; omega) | (unfold xJ; omega) | assumption | (exfalso; omega)
      first | exact hQ | (exfalso; omega)
    · skip
      first | exact hQ | (exfalso; omega)
  · skip
    first | exact hQ | (exfalso; omega)

theorem s_50b_o59 {X : Int × (Int → Int)} {d : Nat} {Q : Int → XH → Prop} (hd : 3 ≤ d) (l s a : Int) (H : XH) (p0 : 0 ≤ l ∧ l < H 59 1) (p1 : 0 ≤ s ∧ s ≤ 4) (p2 : H 59 1 ≤ 8) (hQ : ∀ h1 : XH, h1 = xup H 60 (l * 5 + s) a → Q 0 h1) : xc X d 50 [(2, 59), (0, l), (0, s), (0, a)] H Q :=
  s_50_o59 (by omega) l s a H p0 p1 p2 (hQ _ rfl)

/-- a layer of nothing comes on -/
def adE (H : XH) (o a : Int) : XH := xset (xup H o 1 (H o 1 + 1)) a (fun k => if H o 1 * 5 ≤ k ∧ k < H o 1 * 5 + 5 then 0 else H a k)

theorem U_51_o7 {X : Int × (Int → Int)} {d : Nat} {Q : Int → XH → Prop} (hd : 0 ≤ d) (H : XH) (h : ((H 7 1 < 8) → (xI ((H 7 1) + 1)) ∧ xq X d 51 Q 22 [(0, (2, 7)), (1, (0, 0))] [] (xup H 7 1 ((H 7 1) + 1))) ∧ (¬ (H 7 1 < 8) → Q 0 H)) : xc X (d + 1) 51 [(2, 7)] H Q := by
  refine ⟨rfl, ?_⟩
  show xq X d 51 Q 100000 [(0, (2, 7))] [] H
  refine xq_run [22, 39] 300 ?_
  show ((H 7 1 < 8) → (xI ((H 7 1) + 1)) ∧ xq X d 51 Q 22 [(0, (2, 7)), (1, (0, 0))] [] (xup H 7 1 ((H 7 1) + 1))) ∧ (¬ (H 7 1 < 8) → xfR 2 0 ∧ xKZ = xKZ ∧ Q 0 H)
  refine ⟨fun k_ => ?_, fun k_ => ?_⟩
  · replace h := h.1 k_
    refine ⟨h.1, ?_⟩
    replace h := h.2
    exact h
  · replace h := h.2 k_
    exact ⟨trivial, rfl, h⟩
theorem U_51_22_o7 {X : Int × (Int → Int)} {d : Nat} {Q : Int → XH → Prop} (hd : 3 ≤ d) (v1 : Int) (H : XH) (h : ((5 ≤ v1) → Q 0 H) ∧ (¬ (5 ≤ v1) → (xI ((H 7 1) - 1)) ∧ (0 ≤ (H 7 1) - 1 ∧ (H 7 1) - 1 < H 7 1) ∧ ((0 : Int) ≤ v1 ∧ (v1 : Int) ≤ 4) ∧ (H 7 1 ≤ 8) ∧ (∀ (h36 : XH), (h36 = xup H 8 (((H 7 1) - 1) * 5 + v1) 0) → (xI (v1 + 1)) ∧ xq X d 51 Q 22 [(0, (2, 7)), (1, (0, v1 + 1))] [] h36))) : xq X d 51 Q 22 [(0, (2, 7)), (1, (0, v1))] [] H := by
  show xq X d 51 Q 22 [(0, (2, 7)), (1, (0, v1))] [] H
  refine xq_run [22, 39] 300 ?_
  show ((5 ≤ v1) → xfR 2 0 ∧ xKZ = xKZ ∧ Q 0 H) ∧ (¬ (5 ≤ v1) → (xI ((H 7 1) - 1)) ∧ xWM (xE X) xMC d 50 [(2, 7), (0, (H 7 1) - 1), (0, v1), (0, 0)] xKZ H _)
  refine ⟨fun k_ => ?_, fun k_ => ?_⟩
  · replace h := h.1 k_
    exact ⟨trivial, rfl, h⟩
  · replace h := h.2 k_
    refine ⟨h.1, ?_⟩
    replace h := h.2
    refine xc_in (s_50b_o7 (by omega) ((H 7 1) - 1) v1 0 H (h.1) (h.2.1) (h.2.2.1) ?_)
    intro h36 q_0
    replace h := h.2.2.2 h36 q_0
    show xq X d 51 Q 39 [(0, (2, 7)), (1, (0, v1))] [] h36
    refine xq_run [22, 39] 300 ?_
    show (xI (v1 + 1)) ∧ xq X d 51 Q 22 [(0, (2, 7)), (1, (0, v1 + 1))] [] h36
    refine ⟨h.1, ?_⟩
    replace h := h.2
    exact h

theorem s_51_o7 {X : Int × (Int → Int)} {d : Nat} {Q : Int → XH → Prop} (hd : 4 ≤ d) (H : XH) (p : 0 ≤ H 7 1 ∧ H 7 1 ≤ 7) (hQ : ∀ h1 : XH, h1 = adE H 7 8 → Q 0 h1) : xc X d 51 [(2, 7)] H Q := by
  cases d with
  | zero => omega
  | succ d =>
  have hQ := hQ _ rfl
  obtain ⟨n, hn⟩ : ∃ n, H 7 1 = n := ⟨_, rfl⟩
  have h22 : ∀ s g, 0 ≤ s → Q 0 (xset (xup H 7 1 (H 7 1 + 1)) 8 (xfor (fun s g => fup g (n * 5 + s) 0) s 5 g)) → xq X d 51 Q 22 [(0, (2, 7)), (1, (0, s))] [] (xset (xup H 7 1 (H 7 1 + 1)) 8 g) := by
    intro s g hs hq
    refine xlQ (fun s g => fup g (n * 5 + s) 0) 5 (fun s _ => 0 ≤ s) (fun s g => xq X d 51 Q 22 [(0, (2, 7)), (1, (0, s))] [] (xset (xup H 7 1 (H 7 1 + 1)) 8 g)) (fun g => Q 0 (xset (xup H 7 1 (H 7 1 + 1)) 8 g)) ?_ ?_ s g hs hq
    · intro s g hb hi hp
      refine U_51_22_o7 (by omega) s _ ?_
      have e : xset (xup H 7 1 (H 7 1 + 1)) 8 g 7 1 = n + 1 := by
        show H 7 1 + 1 = n + 1
        rw [hn]
      refine ⟨fun c1 => ?_, fun c1 => ?_⟩
      · skip
        first | exact hp | (exfalso; omega)
      · skip
        refine ⟨?_, ?_⟩
        · first | omega | (unfold xI; omega) | (unfold xJ; omega) | assumption | (exfalso; omega) | (rw [e]; omega) | (rw [e]; unfold xI; omega)
        refine ⟨?_, ?_⟩
        · first | omega | (unfold xI; omega) | (unfold xJ; omega) | assumption | (exfalso; omega) | (rw [e]; omega) | (rw [e]; unfold xI; omega)
        refine ⟨?_, ?_⟩
        · first | omega | (unfold xI; omega) | (unfold xJ; omega) | assumption | (exfalso; omega) | (rw [e]; omega) | (rw [e]; unfold xI; omega)
        refine ⟨?_, ?_⟩
        · first | omega | (unfold xI; omega) | (unfold xJ; omega) | assumption | (exfalso; omega) | (rw [e]; omega) | (rw [e]; unfold xI; omega)
        intro h37 c2
        subst c2
        refine ⟨?_, ?_⟩
        · first | omega | (unfold xI; omega) | (unfold xJ; omega) | assumption | (exfalso; omega) | (rw [e]; omega) | (rw [e]; unfold xI; omega)
        first | exact hp | (exfalso; omega)
    · intro s g hb hi
      refine ⟨by omega, fun hk => ?_⟩
      rw [← xset_up] at hk
      refine U_51_22_o7 (by omega) s _ ?_
      have e : xset (xup H 7 1 (H 7 1 + 1)) 8 g 7 1 = n + 1 := by
        show H 7 1 + 1 = n + 1
        rw [hn]
      have e2 : ∀ m, (n + 1 - 1) * 5 + m = n * 5 + m := fun m => by omega
      rw [e]
      refine ⟨fun c1 => ?_, fun c1 => ?_⟩
      · skip
        exfalso
        omega
      · skip
        refine ⟨?_, ?_⟩
        · first | omega | (unfold xI; omega) | (unfold xJ; omega) | assumption | (exfalso; omega)
        refine ⟨?_, ?_⟩
        · first | omega | (unfold xI; omega) | (unfold xJ; omega) | assumption | (exfalso; omega)
        refine ⟨?_, ?_⟩
        · first | omega | (unfold xI; omega) | (unfold xJ; omega) | assumption | (exfalso; omega)
        refine ⟨?_, ?_⟩
        · first | omega | (unfold xI; omega) | (unfold xJ; omega) | assumption | (exfalso; omega)
        intro h38 c2
        subst c2
        refine ⟨?_, ?_⟩
        · first | omega | (unfold xI; omega) | (unfold xJ; omega) | assumption | (exfalso; omega)
        rw [e2]
        exact hk
  refine U_51_o7 (by omega) H ⟨fun q => ⟨by unfold xI; omega, ?_⟩, fun q => absurd (by omega) q⟩
  have h0 := h22 0 (H 8) (Int.le_refl _) (by
    rw [fup5 (H 8) (n * 5) (fun _ _ => 0), ← hn]
    exact hQ)
  have e : xset (xup H 7 1 (H 7 1 + 1)) 8 (H 8) = xup H 7 1 (H 7 1 + 1) := xset_same (xup H 7 1 (H 7 1 + 1)) 8
  rw [e] at h0
  exact h0

theorem U_51_o59 {X : Int × (Int → Int)} {d : Nat} {Q : Int → XH → Prop} (hd : 0 ≤ d) (H : XH) (h : ((H 59 1 < 8) → (xI ((H 59 1) + 1)) ∧ xq X d 51 Q 22 [(0, (2, 59)), (1, (0, 0))] [] (xup H 59 1 ((H 59 1) + 1))) ∧ (¬ (H 59 1 < 8) → Q 0 H)) : xc X (d + 1) 51 [(2, 59)] H Q := by
  refine ⟨rfl, ?_⟩
  show xq X d 51 Q 100000 [(0, (2, 59))] [] H
  refine xq_run [22, 39] 300 ?_
  show ((H 59 1 < 8) → (xI ((H 59 1) + 1)) ∧ xq X d 51 Q 22 [(0, (2, 59)), (1, (0, 0))] [] (xup H 59 1 ((H 59 1) + 1))) ∧ (¬ (H 59 1 < 8) → xfR 2 0 ∧ xKZ = xKZ ∧ Q 0 H)
  refine ⟨fun k_ => ?_, fun k_ => ?_⟩
  · replace h := h.1 k_
    refine ⟨h.1, ?_⟩
    replace h := h.2
    exact h
  · replace h := h.2 k_
    exact ⟨trivial, rfl, h⟩
theorem U_51_22_o59 {X : Int × (Int → Int)} {d : Nat} {Q : Int → XH → Prop} (hd : 3 ≤ d) (v1 : Int) (H : XH) (h : ((5 ≤ v1) → Q 0 H) ∧ (¬ (5 ≤ v1) → (xI ((H 59 1) - 1)) ∧ (0 ≤ (H 59 1) - 1 ∧ (H 59 1) - 1 < H 59 1) ∧ ((0 : Int) ≤ v1 ∧ (v1 : Int) ≤ 4) ∧ (H 59 1 ≤ 8) ∧ (∀ (h39 : XH), (h39 = xup H 60 (((H 59 1) - 1) * 5 + v1) 0) → (xI (v1 + 1)) ∧ xq X d 51 Q 22 [(0, (2, 59)), (1, (0, v1 + 1))] [] h39))) : xq X d 51 Q 22 [(0, (2, 59)), (1, (0, v1))] [] H := by
  show xq X d 51 Q 22 [(0, (2, 59)), (1, (0, v1))] [] H
  refine xq_run [22, 39] 300 ?_
  show ((5 ≤ v1) → xfR 2 0 ∧ xKZ = xKZ ∧ Q 0 H) ∧ (¬ (5 ≤ v1) → (xI ((H 59 1) - 1)) ∧ xWM (xE X) xMC d 50 [(2, 59), (0, (H 59 1) - 1), (0, v1), (0, 0)] xKZ H _)
  refine ⟨fun k_ => ?_, fun k_ => ?_⟩
  · replace h := h.1 k_
    exact ⟨trivial, rfl, h⟩
  · replace h := h.2 k_
    refine ⟨h.1, ?_⟩
    replace h := h.2
    refine xc_in (s_50b_o59 (by omega) ((H 59 1) - 1) v1 0 H (h.1) (h.2.1) (h.2.2.1) ?_)
    intro h39 q_0
    replace h := h.2.2.2 h39 q_0
    show xq X d 51 Q 39 [(0, (2, 59)), (1, (0, v1))] [] h39
    refine xq_run [22, 39] 300 ?_
    show (xI (v1 + 1)) ∧ xq X d 51 Q 22 [(0, (2, 59)), (1, (0, v1 + 1))] [] h39
    refine ⟨h.1, ?_⟩
    replace h := h.2
    exact h

theorem s_51_o59 {X : Int × (Int → Int)} {d : Nat} {Q : Int → XH → Prop} (hd : 4 ≤ d) (H : XH) (p : 0 ≤ H 59 1 ∧ H 59 1 ≤ 7) (hQ : ∀ h1 : XH, h1 = adE H 59 60 → Q 0 h1) : xc X d 51 [(2, 59)] H Q := by
  cases d with
  | zero => omega
  | succ d =>
  have hQ := hQ _ rfl
  obtain ⟨n, hn⟩ : ∃ n, H 59 1 = n := ⟨_, rfl⟩
  have h22 : ∀ s g, 0 ≤ s → Q 0 (xset (xup H 59 1 (H 59 1 + 1)) 60 (xfor (fun s g => fup g (n * 5 + s) 0) s 5 g)) → xq X d 51 Q 22 [(0, (2, 59)), (1, (0, s))] [] (xset (xup H 59 1 (H 59 1 + 1)) 60 g) := by
    intro s g hs hq
    refine xlQ (fun s g => fup g (n * 5 + s) 0) 5 (fun s _ => 0 ≤ s) (fun s g => xq X d 51 Q 22 [(0, (2, 59)), (1, (0, s))] [] (xset (xup H 59 1 (H 59 1 + 1)) 60 g)) (fun g => Q 0 (xset (xup H 59 1 (H 59 1 + 1)) 60 g)) ?_ ?_ s g hs hq
    · intro s g hb hi hp
      refine U_51_22_o59 (by omega) s _ ?_
      have e : xset (xup H 59 1 (H 59 1 + 1)) 60 g 59 1 = n + 1 := by
        show H 59 1 + 1 = n + 1
        rw [hn]
      refine ⟨fun c1 => ?_, fun c1 => ?_⟩
      · skip
        first | exact hp | (exfalso; omega)
      · skip
        refine ⟨?_, ?_⟩
        · first | omega | (unfold xI; omega) | (unfold xJ; omega) | assumption | (exfalso; omega) | (rw [e]; omega) | (rw [e]; unfold xI; omega)
        refine ⟨?_, ?_⟩
        · first | omega | (unfold xI; omega) | (unfold xJ; omega) | assumption | (exfalso; omega) | (rw [e]; omega) | (rw [e]; unfold xI; omega)
        refine ⟨?_, ?_⟩
        · first | omega | (unfold xI; omega) | (unfold xJ; omega) | assumption | (exfalso; omega) | (rw [e]; omega) | (rw [e]; unfold xI; omega)
        refine ⟨?_, ?_⟩
        · first | omega | (unfold xI; omega) | (unfold xJ; omega) | assumption | (exfalso; omega) | (rw [e]; omega) | (rw [e]; unfold xI; omega)
        intro h40 c2
        subst c2
        refine ⟨?_, ?_⟩
        · first | omega | (unfold xI; omega) | (unfold xJ; omega) | assumption | (exfalso; omega) | (rw [e]; omega) | (rw [e]; unfold xI; omega)
        first | exact hp | (exfalso; omega)
    · intro s g hb hi
      refine ⟨by omega, fun hk => ?_⟩
      rw [← xset_up] at hk
      refine U_51_22_o59 (by omega) s _ ?_
      have e : xset (xup H 59 1 (H 59 1 + 1)) 60 g 59 1 = n + 1 := by
        show H 59 1 + 1 = n + 1
        rw [hn]
      have e2 : ∀ m, (n + 1 - 1) * 5 + m = n * 5 + m := fun m => by omega
      rw [e]
      refine ⟨fun c1 => ?_, fun c1 => ?_⟩
      · skip
        exfalso
        omega
      · skip
        refine ⟨?_, ?_⟩
        · first | omega | (unfold xI; omega) | (unfold xJ; omega) | assumption | (exfalso; omega)
        refine ⟨?_, ?_⟩
        · first | omega | (unfold xI; omega) | (unfold xJ; omega) | assumption | (exfalso; omega)
        refine ⟨?_, ?_⟩
        · first | omega | (unfold xI; omega) | (unfold xJ; omega) | assumption | (exfalso; omega)
        refine ⟨?_, ?_⟩
        · first | omega | (unfold xI; omega) | (unfold xJ; omega) | assumption | (exfalso; omega)
        intro h41 c2
        subst c2
        refine ⟨?_, ?_⟩
        · first | omega | (unfold xI; omega) | (unfold xJ; omega) | assumption | (exfalso; omega)
        rw [e2]
        exact hk
  refine U_51_o59 (by omega) H ⟨fun q => ⟨by unfold xI; omega, ?_⟩, fun q => absurd (by omega) q⟩
  have h0 := h22 0 (H 60) (Int.le_refl _) (by
    rw [fup5 (H 60) (n * 5) (fun _ _ => 0), ← hn]
    exact hQ)
  have e : xset (xup H 59 1 (H 59 1 + 1)) 60 (H 60) = xup H 59 1 (H 59 1 + 1) := xset_same (xup H 59 1 (H 59 1 + 1)) 60
  rw [e] at h0
  exact h0

theorem U_52 {X : Int × (Int → Int)} {d : Nat} {Q : Int → XH → Prop} (hd : 4 ≤ d) (a b c e f : Int) (H : XH) (h : ((8 ≤ H 7 1) → Q (-1) H) ∧ (¬ (8 ≤ H 7 1) → ((99 : Int) ≤ 99) ∧ (((((0 ≤ a ∧ a ≤ 99) ∧ (0 ≤ b ∧ b ≤ 99) ∧ (0 ≤ c ∧ c ≤ 99) ∧ (0 ≤ e ∧ e ≤ 99) ∧ (0 ≤ f ∧ f ≤ 99) ∧ 1 ≤ a + b + c + e + f)) → (0 ≤ H 7 1 ∧ H 7 1 ≤ 7) ∧ (∀ (h42 : XH), (h42 = adE H 7 8) → (xI ((h42 7 1) - 1)) ∧ (0 ≤ (h42 7 1) - 1 ∧ (h42 7 1) - 1 < h42 7 1) ∧ ((0 : Int) ≤ 0 ∧ (0 : Int) ≤ 4) ∧ (h42 7 1 ≤ 8) ∧ (∀ (h43 : XH), (h43 = xup h42 8 (((h42 7 1) - 1) * 5 + 0) a) → (0 ≤ (h42 7 1) - 1 ∧ (h42 7 1) - 1 < h43 7 1) ∧ ((0 : Int) ≤ 1 ∧ (1 : Int) ≤ 4) ∧ (h43 7 1 ≤ 8) ∧ (∀ (h44 : XH), (h44 = xup h43 8 (((h42 7 1) - 1) * 5 + 1) b) → (0 ≤ (h42 7 1) - 1 ∧ (h42 7 1) - 1 < h44 7 1) ∧ ((0 : Int) ≤ 2 ∧ (2 : Int) ≤ 4) ∧ (h44 7 1 ≤ 8) ∧ (∀ (h45 : XH), (h45 = xup h44 8 (((h42 7 1) - 1) * 5 + 2) c) → (0 ≤ (h42 7 1) - 1 ∧ (h42 7 1) - 1 < h45 7 1) ∧ ((0 : Int) ≤ 3 ∧ (3 : Int) ≤ 4) ∧ (h45 7 1 ≤ 8) ∧ (∀ (h46 : XH), (h46 = xup h45 8 (((h42 7 1) - 1) * 5 + 3) e) → (0 ≤ (h42 7 1) - 1 ∧ (h42 7 1) - 1 < h46 7 1) ∧ ((0 : Int) ≤ 4 ∧ (4 : Int) ≤ 4) ∧ (h46 7 1 ≤ 8) ∧ (∀ (h47 : XH), (h47 = xup h46 8 (((h42 7 1) - 1) * 5 + 4) f) → Q ((h42 7 1) - 1) h47))))))) ∧ (¬ (((0 ≤ a ∧ a ≤ 99) ∧ (0 ≤ b ∧ b ≤ 99) ∧ (0 ≤ c ∧ c ≤ 99) ∧ (0 ≤ e ∧ e ≤ 99) ∧ (0 ≤ f ∧ f ≤ 99) ∧ 1 ≤ a + b + c + e + f)) → Q (-1) H)))) : xc X (d + 1) 52 [(2, 0), (0, a), (0, b), (0, c), (0, e), (0, f)] H Q := by
  refine ⟨rfl, ?_⟩
  show xq X d 52 Q 100000 [(0, (2, 0)), (1, (0, a)), (2, (0, b)), (3, (0, c)), (4, (0, e)), (5, (0, f))] [] H
  refine xq_run [31, 41, 59, 68, 77, 87, 97] 300 ?_
  show ((8 ≤ H 7 1) → xfR 0 (-1) ∧ xKZ = xKZ ∧ Q (-1) H) ∧ (¬ (8 ≤ H 7 1) → xWM (xE X) xMC d 20 [(0, a), (0, b), (0, c), (0, e), (0, f), (0, 99)] xKZ H _)
  refine ⟨fun k_ => ?_, fun k_ => ?_⟩
  · replace h := h.1 k_
    exact ⟨trivial, rfl, h⟩
  · replace h := h.2 k_
    refine xc_in (s_20 (by omega) a b c e f 99 H (h.1) ?_)
    replace h := h.2
    show xq X d 52 Q 31 [(6, (2, 7)), (0, (2, 0)), (1, (0, a)), (2, (0, b)), (3, (0, c)), (4, (0, e)), (5, (0, f))] [(0, xb ((0 ≤ a ∧ a ≤ 99) ∧ (0 ≤ b ∧ b ≤ 99) ∧ (0 ≤ c ∧ c ≤ 99) ∧ (0 ≤ e ∧ e ≤ 99) ∧ (0 ≤ f ∧ f ≤ 99) ∧ 1 ≤ a + b + c + e + f))] H
    refine xq_run [31, 41, 59, 68, 77, 87, 97] 300 ?_
    show ((¬ xb ((0 ≤ a ∧ a ≤ 99) ∧ (0 ≤ b ∧ b ≤ 99) ∧ (0 ≤ c ∧ c ≤ 99) ∧ (0 ≤ e ∧ e ≤ 99) ∧ (0 ≤ f ∧ f ≤ 99) ∧ 1 ≤ a + b + c + e + f) = 0) → xWM (xE X) xMC d 51 [(2, 7)] xKZ H _) ∧ (¬ (¬ xb ((0 ≤ a ∧ a ≤ 99) ∧ (0 ≤ b ∧ b ≤ 99) ∧ (0 ≤ c ∧ c ≤ 99) ∧ (0 ≤ e ∧ e ≤ 99) ∧ (0 ≤ f ∧ f ≤ 99) ∧ 1 ≤ a + b + c + e + f) = 0) → xfR 0 (-1) ∧ xKZ = xKZ ∧ Q (-1) H)
    refine ⟨fun k_ => ?_, fun k_ => ?_⟩
    · replace h := h.1 (xbe_1.mp k_)
      refine xc_in (s_51_o7 (by omega) H (h.1) ?_)
      intro h42 q_0
      replace h := h.2 h42 q_0
      show xq X d 52 Q 41 [(6, (2, 7)), (0, (2, 0)), (1, (0, a)), (2, (0, b)), (3, (0, c)), (4, (0, e)), (5, (0, f))] [] h42
      refine xq_run [31, 41, 59, 68, 77, 87, 97] 300 ?_
      show (xI ((h42 7 1) - 1)) ∧ xWM (xE X) xMC d 50 [(2, 7), (0, (h42 7 1) - 1), (0, 0), (0, a)] xKZ h42 _
      refine ⟨h.1, ?_⟩
      replace h := h.2
      refine xc_in (s_50b_o7 (by omega) ((h42 7 1) - 1) 0 a h42 (h.1) (h.2.1) (h.2.2.1) ?_)
      intro h43 q_0
      replace h := h.2.2.2 h43 q_0
      show xq X d 52 Q 59 [(7, (0, (h42 7 1) - 1)), (6, (2, 7)), (0, (2, 0)), (1, (0, a)), (2, (0, b)), (3, (0, c)), (4, (0, e)), (5, (0, f))] [] h43
      refine xq_run [31, 41, 59, 68, 77, 87, 97] 300 ?_
      show xWM (xE X) xMC d 50 [(2, 7), (0, (h42 7 1) - 1), (0, 1), (0, b)] xKZ h43 _
      refine xc_in (s_50b_o7 (by omega) ((h42 7 1) - 1) 1 b h43 (h.1) (h.2.1) (h.2.2.1) ?_)
      intro h44 q_0
      replace h := h.2.2.2 h44 q_0
      show xq X d 52 Q 68 [(7, (0, (h42 7 1) - 1)), (6, (2, 7)), (0, (2, 0)), (1, (0, a)), (2, (0, b)), (3, (0, c)), (4, (0, e)), (5, (0, f))] [] h44
      refine xq_run [31, 41, 59, 68, 77, 87, 97] 300 ?_
      show xWM (xE X) xMC d 50 [(2, 7), (0, (h42 7 1) - 1), (0, 2), (0, c)] xKZ h44 _
      refine xc_in (s_50b_o7 (by omega) ((h42 7 1) - 1) 2 c h44 (h.1) (h.2.1) (h.2.2.1) ?_)
      intro h45 q_0
      replace h := h.2.2.2 h45 q_0
      show xq X d 52 Q 77 [(7, (0, (h42 7 1) - 1)), (6, (2, 7)), (0, (2, 0)), (1, (0, a)), (2, (0, b)), (3, (0, c)), (4, (0, e)), (5, (0, f))] [] h45
      refine xq_run [31, 41, 59, 68, 77, 87, 97] 300 ?_
      show xWM (xE X) xMC d 50 [(2, 7), (0, (h42 7 1) - 1), (0, 3), (0, e)] xKZ h45 _
      refine xc_in (s_50b_o7 (by omega) ((h42 7 1) - 1) 3 e h45 (h.1) (h.2.1) (h.2.2.1) ?_)
      intro h46 q_0
      replace h := h.2.2.2 h46 q_0
      show xq X d 52 Q 87 [(7, (0, (h42 7 1) - 1)), (6, (2, 7)), (0, (2, 0)), (1, (0, a)), (2, (0, b)), (3, (0, c)), (4, (0, e)), (5, (0, f))] [] h46
      refine xq_run [31, 41, 59, 68, 77, 87, 97] 300 ?_
      show xWM (xE X) xMC d 50 [(2, 7), (0, (h42 7 1) - 1), (0, 4), (0, f)] xKZ h46 _
      refine xc_in (s_50b_o7 (by omega) ((h42 7 1) - 1) 4 f h46 (h.1) (h.2.1) (h.2.2.1) ?_)
      intro h47 q_0
      replace h := h.2.2.2 h47 q_0
      show xq X d 52 Q 97 [(7, (0, (h42 7 1) - 1)), (6, (2, 7)), (0, (2, 0)), (1, (0, a)), (2, (0, b)), (3, (0, c)), (4, (0, e)), (5, (0, f))] [] h47
      refine xq_run [31, 41, 59, 68, 77, 87, 97] 300 ?_
      show xfR 0 ((h42 7 1) - 1) ∧ xKZ = xKZ ∧ Q ((h42 7 1) - 1) h47
      exact ⟨trivial, rfl, h⟩
    · replace h := h.2 (xbe_n.mp k_)
      exact ⟨trivial, rfl, h⟩

def am5L (a b c e f k : Int) : Int := if k = 0 then a else if k = 1 then b else if k = 2 then c else if k = 3 then e else f
/-- what the two sides' layer write -/
def lyM (H : XH) (a b c e f : Int) : XH := xup (xup (xup (xup (xup (xup H 68 (560 + 5 * H 68 1) a) 68 (560 + 5 * H 68 1 + 1) b) 68 (560 + 5 * H 68 1 + 2) c) 68 (560 + 5 * H 68 1 + 3) e) 68 (560 + 5 * H 68 1 + 4) f) 68 1 (H 68 1 + 1)

theorem s_53 {X : Int × (Int → Int)} {d : Nat} {Q : Int → XH → Prop} (hd : 2 ≤ d) (a b c e f : Int) (H : XH) (p0 : 0 ≤ H 68 1 ∧ H 68 1 ≤ 8) (hY : ((0 ≤ a ∧ a ≤ 99) ∧ (0 ≤ b ∧ b ≤ 99) ∧ (0 ≤ c ∧ c ≤ 99) ∧ (0 ≤ e ∧ e ≤ 99) ∧ (0 ≤ f ∧ f ≤ 99) ∧ 1 ≤ a + b + c + e + f) ∧ H 68 1 < 8 → Q (H 68 1) (lyM H a b c e f)) (hN : ¬ (((0 ≤ a ∧ a ≤ 99) ∧ (0 ≤ b ∧ b ≤ 99) ∧ (0 ≤ c ∧ c ≤ 99) ∧ (0 ≤ e ∧ e ≤ 99) ∧ (0 ≤ f ∧ f ≤ 99) ∧ 1 ≤ a + b + c + e + f) ∧ H 68 1 < 8) → Q (-1) H) : xc X d 53 [(2, 67), (0, a), (0, b), (0, c), (0, e), (0, f)] H Q := by
  cases d with
  | zero => omega
  | succ d =>
  refine U_53 (by omega) a b c e f H ?_
  refine ⟨fun c1 => ?_, fun c1 => ?_⟩
  · skip
    refine ⟨fun c2 => ?_, fun c2 => ?_⟩
    · skip
      refine ⟨fun c3 => ?_, fun c3 => ?_⟩
      · skip
        refine ⟨fun c4 => ?_, fun c4 => ?_⟩
        · skip
          refine ⟨fun c5 => ?_, fun c5 => ?_⟩
          · skip
            refine ⟨?_, ?_⟩
            · first | omega | (unfold xI; omega) | (simp (disch := omega) only [xup_self, xup_k]; unfold xI; omega)
            refine ⟨?_, ?_⟩
            · first | omega | (unfold xI; omega) | (simp (disch := omega) only [xup_self, xup_k]; unfold xI; omega)
            refine ⟨?_, ?_⟩
            · first | omega | (unfold xI; omega) | (simp (disch := omega) only [xup_self, xup_k]; unfold xI; omega)
            refine ⟨?_, ?_⟩
            · first | omega | (unfold xI; omega) | (simp (disch := omega) only [xup_self, xup_k]; unfold xI; omega)
            refine ⟨fun c6 => ?_, fun c6 => ?_⟩
            · skip
              first | exact hN (by omega) | (simp (disch := omega) only [xup_self, xup_k]; exact xQrh (hY (by omega)) (by omega) rfl)
            · skip
              refine ⟨fun c7 => ?_, fun c7 => ?_⟩
              · skip
                refine ⟨?_, ?_⟩
                · first | omega | (unfold xI; omega) | (simp (disch := omega) only [xup_self, xup_k]; unfold xI; omega)
                refine ⟨?_, ?_⟩
                · first | omega | (unfold xI; omega) | (simp (disch := omega) only [xup_self, xup_k]; unfold xI; omega)
                refine ⟨?_, ?_⟩
                · first | omega | (unfold xI; omega) | (simp (disch := omega) only [xup_self, xup_k]; unfold xI; omega)
                refine ⟨?_, ?_⟩
                · first | omega | (unfold xI; omega) | (simp (disch := omega) only [xup_self, xup_k]; unfold xI; omega)
                refine ⟨?_, ?_⟩
                · first | omega | (unfold xI; omega) | (simp (disch := omega) only [xup_self, xup_k]; unfold xI; omega)
                refine ⟨?_, ?_⟩
                · first | omega | (unfold xI; omega) | (simp (disch := omega) only [xup_self, xup_k]; unfold xI; omega)
                refine ⟨?_, ?_⟩
                · first | omega | (unfold xI; omega) | (simp (disch := omega) only [xup_self, xup_k]; unfold xI; omega)
                refine ⟨?_, ?_⟩
                · first | omega | (unfold xI; omega) | (simp (disch := omega) only [xup_self, xup_k]; unfold xI; omega)
                refine ⟨?_, ?_⟩
                · first | omega | (unfold xI; omega) | (simp (disch := omega) only [xup_self, xup_k]; unfold xI; omega)
                refine ⟨?_, ?_⟩
                · first | omega | (unfold xI; omega) | (simp (disch := omega) only [xup_self, xup_k]; unfold xI; omega)
                refine ⟨?_, ?_⟩
                · first | omega | (unfold xI; omega) | (simp (disch := omega) only [xup_self, xup_k]; unfold xI; omega)
                refine ⟨?_, ?_⟩
                · first | omega | (unfold xI; omega) | (simp (disch := omega) only [xup_self, xup_k]; unfold xI; omega)
                refine ⟨?_, ?_⟩
                · first | omega | (unfold xI; omega) | (simp (disch := omega) only [xup_self, xup_k]; unfold xI; omega)
                first | exact hN (by omega) | (simp (disch := omega) only [xup_self, xup_k]; exact xQrh (hY (by omega)) (by omega) rfl)
              · skip
                first | exact hN (by omega) | (simp (disch := omega) only [xup_self, xup_k]; exact xQrh (hY (by omega)) (by omega) rfl)
          · skip
            first | exact hN (by omega) | (simp (disch := omega) only [xup_self, xup_k]; exact xQrh (hY (by omega)) (by omega) rfl)
        · skip
          first | exact hN (by omega) | (simp (disch := omega) only [xup_self, xup_k]; exact xQrh (hY (by omega)) (by omega) rfl)
      · skip
        first | exact hN (by omega) | (simp (disch := omega) only [xup_self, xup_k]; exact xQrh (hY (by omega)) (by omega) rfl)
    · skip
      first | exact hN (by omega) | (simp (disch := omega) only [xup_self, xup_k]; exact xQrh (hY (by omega)) (by omega) rfl)
  · skip
    first | exact hN (by omega) | (simp (disch := omega) only [xup_self, xup_k]; exact xQrh (hY (by omega)) (by omega) rfl)

theorem p_layer {X : Int × (Int → Int)} {d : Nat} (hd : 6 ≤ d) (a b c e f : Int) (H : XH) (hi : InvS H) : xc X d 52 [(2, 0), (0, a), (0, b), (0, c), (0, e), (0, f)] H (fun r H1 => xc X d 53 [(2, 67), (0, a), (0, b), (0, c), (0, e), (0, f)] H1 (pOk H r)) := by
  cases d with
  | zero => omega
  | succ d =>
  have hg := hi.1
  have hs := hi.2
  have lyb := hg.lyb
  have hc := hs.c
  obtain ⟨n, hn⟩ : ∃ n, H 68 1 = n := ⟨_, rfl⟩
  rw [hn] at hc lyb
  have no : ¬ (((0 ≤ a ∧ a ≤ 99) ∧ (0 ≤ b ∧ b ≤ 99) ∧ (0 ≤ c ∧ c ≤ 99) ∧ (0 ≤ e ∧ e ≤ 99) ∧ (0 ≤ f ∧ f ≤ 99) ∧ 1 ≤ a + b + c + e + f) ∧ H 68 1 < 8) → xc X (d + 1) 53 [(2, 67), (0, a), (0, b), (0, c), (0, e), (0, f)] H (pOk H (-1)) := fun q =>
    s_53 (by omega) a b c e f H (by omega) (fun z => absurd z q) (fun _ => ⟨rfl, hi, frO_refl H⟩)
  -- what stands behind the class's part
  have yes : ((0 ≤ a ∧ a ≤ 99) ∧ (0 ≤ b ∧ b ≤ 99) ∧ (0 ≤ c ∧ c ≤ 99) ∧ (0 ≤ e ∧ e ≤ 99) ∧ (0 ≤ f ∧ f ≤ 99) ∧ 1 ≤ a + b + c + e + f) → n < 8 → ∀ h : XH, (∀ o, ¬ o = 7 → ¬ o = 8 → h o = H o) → h 7 1 = n + 1 → (∀ k, h 8 k = if n * 5 ≤ k ∧ k < n * 5 + 5 then am5L a b c e f (k - n * 5) else H 8 k) → xc X (d + 1) 53 [(2, 67), (0, a), (0, b), (0, c), (0, e), (0, f)] h (pOk H n) := by
    intro hr hn8 h f1 f2 f3
    have h68 := f1 68 (by decide) (by decide)
    have h67 := f1 67 (by decide) (by decide)
    refine s_53 (by omega) a b c e f h (by rw [h68]; omega) (fun _ => ?_) (fun z => absurd ⟨hr, by rw [h68]; omega⟩ z)
    have G : ∀ k, lyM h a b c e f 68 k = if k = 1 then n + 1 else if 560 + 5 * n ≤ k ∧ k < 560 + 5 * n + 5 then am5L a b c e f (k - 560 - 5 * n) else H 68 k := by
      intro k
      unfold lyM
      rw [xup_eq, xup_eq, xup_eq, xup_eq, xup_eq, xup_eq, h68, hn]
      unfold am5L
      repeat' split
      all_goals omega
    have ho : ∀ o, ¬ o = 68 → lyM h a b c e f o = h o := fun o q => by
      unfold lyM
      rw [xup_ne q, xup_ne q, xup_ne q, xup_ne q, xup_ne q, xup_ne q]
    have oo : ∀ o, ¬ o = 7 → ¬ o = 8 → ¬ o = 68 → lyM h a b c e f o = H o := fun o p q r => (ho o r).trans (f1 o p q)
    have g1 : lyM h a b c e f 68 1 = n + 1 := by rw [G, if_pos rfl]
    refine ⟨by rw [h68, hn], ⟨?_, ?_⟩, fun o p q => ?_, ?_, bF_same (oo 18 (by decide) (by decide) (by decide)) (oo 19 (by decide) (by decide) (by decide))⟩
    · rw [oo 67 (by decide) (by decide) (by decide)]
      refine GOk_ly (g := H 68) hg (fun k hk => ?_) (by rw [g1]; omega) (fun k p q => ?_) (fun l p q => ?_)
      · rw [G, if_neg (by omega), if_neg (by omega)]
      · rw [g1] at q
        rw [G, if_neg (by omega)]
        split
        · unfold am5L
          repeat' split
          all_goals omega
        · exact hg.lya k p (by omega)
      · rw [g1] at q
        by_cases hl : l = n
        · unfold sum5
          show 1 ≤ lyM h a b c e f 68 (560 + 5 * l) + lyM h a b c e f 68 (560 + (5 * l + 1)) + lyM h a b c e f 68 (560 + (5 * l + 2)) + lyM h a b c e f 68 (560 + (5 * l + 3)) + lyM h a b c e f 68 (560 + (5 * l + 4))
          rw [G, G, G, G, G, hl]
          simp (disch := omega) only [if_pos, if_neg]
          unfold am5L
          simp (disch := omega) only [if_pos, if_neg]
          omega
        · have z := hg.lys l p (by omega)
          rw [sum5_congr (f := fun k => H 68 (560 + k)) (fun k x y => by
            rw [G, if_neg (by omega), if_neg (by omega)])]
          exact z
    · rw [oo 67 (by decide) (by decide) (by decide), oo 2 (by decide) (by decide) (by decide), oo 3 (by decide) (by decide) (by decide), oo 4 (by decide) (by decide) (by decide), oo 5 (by decide) (by decide) (by decide), oo 6 (by decide) (by decide) (by decide), oo 9 (by decide) (by decide) (by decide), oo 10 (by decide) (by decide) (by decide), oo 11 (by decide) (by decide) (by decide), oo 13 (by decide) (by decide) (by decide), oo 14 (by decide) (by decide) (by decide), oo 15 (by decide) (by decide) (by decide), oo 16 (by decide) (by decide) (by decide), oo 17 (by decide) (by decide) (by decide), oo 18 (by decide) (by decide) (by decide), oo 19 (by decide) (by decide) (by decide), oo 1 (by decide) (by decide) (by decide), ho 7 (by decide), ho 8 (by decide)]
      refine SRel_ly (g := H 68) hg hs (fun k hk => ?_) (by rw [g1, f2]) (fun k p q => ?_)
      · rw [G, if_neg (by omega), if_neg (by omega)]
      · rw [g1] at q
        rw [f3]
        by_cases hk : n * 5 ≤ k ∧ k < n * 5 + 5
        · rw [if_pos hk, G, if_neg (by omega), if_pos (by omega)]
          congr 1
          omega
        · rw [if_neg hk, G, if_neg (by omega), if_neg (by omega)]
          exact hs.am k p (by omega)
    · exact oo o (by omega) (by omega) q
    · rw [G, if_neg (by decide), if_neg (by omega)]
  refine U_52 (by omega) a b c e f H ?_
  refine ⟨fun c1 => ?_, fun c1 => ?_⟩
  · skip
    exact no (by omega)
  · skip
    refine ⟨?_, ?_⟩
    · first | omega | (unfold xI; omega)
    refine ⟨fun c2 => ?_, fun c2 => ?_⟩
    · skip
      refine ⟨?_, ?_⟩
      · first | omega | (unfold xI; omega)
      intro h48 c3
      have y1 := c3
      have u1 : h48 7 1 = n + 1 := by
        rw [y1]
        show H 7 1 + 1 = n + 1
        rw [hc]
      refine ⟨?_, ?_⟩
      · first | omega | (unfold xI; omega)
      refine ⟨?_, ?_⟩
      · first | omega | (unfold xI; omega)
      refine ⟨?_, ?_⟩
      · first | omega | (unfold xI; omega)
      refine ⟨?_, ?_⟩
      · first | omega | (unfold xI; omega)
      intro h49 c4
      have y2 := c4
      have u2 : h49 7 1 = n + 1 := by
        rw [y2]
        exact u1
      refine ⟨?_, ?_⟩
      · first | omega | (unfold xI; omega)
      refine ⟨?_, ?_⟩
      · first | omega | (unfold xI; omega)
      refine ⟨?_, ?_⟩
      · first | omega | (unfold xI; omega)
      intro h50 c5
      have y3 := c5
      have u3 : h50 7 1 = n + 1 := by
        rw [y3]
        exact u2
      refine ⟨?_, ?_⟩
      · first | omega | (unfold xI; omega)
      refine ⟨?_, ?_⟩
      · first | omega | (unfold xI; omega)
      refine ⟨?_, ?_⟩
      · first | omega | (unfold xI; omega)
      intro h51 c6
      have y4 := c6
      have u4 : h51 7 1 = n + 1 := by
        rw [y4]
        exact u3
      refine ⟨?_, ?_⟩
      · first | omega | (unfold xI; omega)
      refine ⟨?_, ?_⟩
      · first | omega | (unfold xI; omega)
      refine ⟨?_, ?_⟩
      · first | omega | (unfold xI; omega)
      intro h52 c7
      have y5 := c7
      have u5 : h52 7 1 = n + 1 := by
        rw [y5]
        exact u4
      refine ⟨?_, ?_⟩
      · first | omega | (unfold xI; omega)
      refine ⟨?_, ?_⟩
      · first | omega | (unfold xI; omega)
      refine ⟨?_, ?_⟩
      · first | omega | (unfold xI; omega)
      intro h53 c8
      have y6 := c8
      have u6 : h53 7 1 = n + 1 := by
        rw [y6]
        exact u5
      have w : ∀ k, h53 8 k = if n * 5 ≤ k ∧ k < n * 5 + 5 then am5L a b c e f (k - n * 5) else H 8 k := fun k => by
        rw [y6, xup_eq, y5, xup_eq, y4, xup_eq, y3, xup_eq, y2, xup_eq]
        have e0 : h48 8 k = if n * 5 ≤ k ∧ k < n * 5 + 5 then 0 else H 8 k := by
          rw [y1]
          unfold adE
          rw [xset_at, hc]
        rw [e0, u1]
        unfold am5L
        repeat' split
        all_goals omega
      rw [u1, show n + 1 - 1 = n by omega]
      refine yes (by assumption) (by omega) h53 (fun o p q => ?_) u6 w
      rw [y6, xup_ne q, y5, xup_ne q, y4, xup_ne q, y3, xup_ne q, y2, xup_ne q, y1]
      unfold adE
      rw [xset_o q, xup_ne p]
    · skip
      exact no (by omega)
