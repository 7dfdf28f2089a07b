/-! THE PURE LAYER 32: the image, going back -/
def ccp (H h : XH) (s t n : Int) : Prop := ∀ k, 0 ≤ k → k < n → h t k = H s k
theorem xup_eq' (H : XH) (t j x o i : Int) : xup H t j x o i = if o = t ∧ i = j then x else H o i := rfl
theorem xcpy_in {H : XH} {s t n k : Int} (a : 0 ≤ k) (b : k < n) : xcpy H s t 0 0 n t k = H s k := by
  unfold xcpy
  rw [if_pos ⟨rfl, a, by omega⟩, Int.sub_zero, Int.zero_add]
theorem xcpy_up {H : XH} {s t j : Int} (hst : ¬ s = t) (hj : 0 ≤ j) : xup (xcpy H s t 0 0 j) t j (xcpy H s t 0 0 j s j) = xcpy H s t 0 0 (j + 1) := by
  have e : xcpy H s t 0 0 j s j = H s j := by
    unfold xcpy
    exact if_neg (fun q => hst q.1)
  rw [e]
  funext o i
  rw [xup_eq']
  unfold xcpy
  by_cases ho : o = t
  · by_cases hi : i = j
    · rw [if_pos ⟨ho, hi⟩, if_pos ⟨ho, by omega, by omega⟩, Int.sub_zero, Int.zero_add, hi]
    · rw [if_neg (fun q => hi q.2)]
      by_cases h : 0 ≤ i ∧ i < 0 + j
      · rw [if_pos ⟨ho, h⟩, if_pos ⟨ho, by omega⟩]
      · rw [if_neg (fun q => h q.2), if_neg (fun q => h (by omega))]
  · rw [if_neg (fun q => ho q.1), if_neg (fun q => ho q.1), if_neg (fun q => ho q.1)]
theorem xcpy_0 (H : XH) (s t : Int) : xcpy H s t 0 0 0 = H := by
  funext o i
  unfold xcpy
  rw [if_neg (by omega)]

theorem xcpy_o {H : XH} {s t a b n o : Int} (h : ¬ o = t) : xcpy H s t a b n o = H o := by
  funext i
  unfold xcpy
  rw [if_neg (fun q => h q.1)]

theorem U_253_4 {X : Int × (Int → Int)} {d : Nat} {Q : Int → XH → Prop} (hd : 0 ≤ d) (H : XH) (h : xq X d 253 Q 2 [(0, (2, 4)), (1, (2, 23)), (2, (0, 0))] [] H) : xc X (d + 1) 253 [(2, 4), (2, 23)] H Q := by
  refine ⟨rfl, ?_⟩
  show xq X d 253 Q 100000 [(0, (2, 4)), (1, (2, 23))] [] H
  refine xq_run [2] 300 ?_
  show xq X d 253 Q 2 [(0, (2, 4)), (1, (2, 23)), (2, (0, 0))] [] H
  exact h
theorem U_253_2_4 {X : Int × (Int → Int)} {d : Nat} {Q : Int → XH → Prop} (hd : 0 ≤ d) (v2 : Int) (H : XH) (h : ((64 ≤ v2) → Q 0 H) ∧ (¬ (64 ≤ v2) → ((64 ≤ v2) → Q 0 H) ∧ (¬ (64 ≤ v2) → ((0 : Int) ≤ v2 ∧ (v2 : Int) < 64) ∧ (((0 : Int) ≤ v2 ∧ (v2 : Int) < 64) ∧ (0 : Int) ≤ H 4 v2 ∧ (H 4 v2 : Int) ≤ 1) ∧ (xI (v2 + 1)) ∧ xq X d 253 Q 2 [(0, (2, 4)), (1, (2, 23)), (2, (0, v2 + 1))] [] (xup H 23 v2 (H 4 v2))))) : xq X d 253 Q 2 [(0, (2, 4)), (1, (2, 23)), (2, (0, v2))] [] H := by
  show xq X d 253 Q 2 [(0, (2, 4)), (1, (2, 23)), (2, (0, v2))] [] H
  refine xq_run [2] 300 ?_
  show (1 ≤ xTy xKZ 4 ∧ xTy xKZ 4 ≤ 5) ∧ ((64 ≤ v2) → xfR 2 0 ∧ xKZ = xKZ ∧ Q 0 H) ∧ (¬ (64 ≤ v2) → (1 ≤ xTy xKZ 23 ∧ xTy xKZ 23 ≤ 5) ∧ ((64 ≤ v2) → xfR 2 0 ∧ xKZ = xKZ ∧ Q 0 H) ∧ (¬ (64 ≤ v2) → ((0 : Int) ≤ v2 ∧ (v2 : Int) < 64) ∧ (((0 : Int) ≤ v2 ∧ (v2 : Int) < 64) ∧ xfB (xTy xKZ 23) (H 4 v2)) ∧ (xI (v2 + 1)) ∧ xq X d 253 Q 2 [(0, (2, 4)), (1, (2, 23)), (2, (0, v2 + 1))] [] (xup H 23 v2 (H 4 v2))))
  refine ⟨⟨by decide, by decide⟩, ?_⟩
  refine ⟨fun k_ => ?_, fun k_ => ?_⟩
  · replace h := h.1 k_
    exact ⟨trivial, rfl, h⟩
  · replace h := h.2 k_
    refine ⟨⟨by decide, by decide⟩, ?_⟩
    refine ⟨fun k_ => ?_, fun k_ => ?_⟩
    · replace h := h.1 k_
      exact ⟨trivial, rfl, h⟩
    · replace h := h.2 k_
      refine ⟨h.1, ?_⟩
      replace h := h.2
      refine ⟨⟨h.1.1, ⟨fun q => absurd q (by decide), fun _ => h.1.2⟩⟩, ?_⟩
      replace h := h.2
      refine ⟨h.1, ?_⟩
      replace h := h.2
      exact h

theorem s_253_4 {X : Int × (Int → Int)} {d : Nat} {Q : Int → XH → Prop} (hd : 1 ≤ d) (H : XH) (p : ∀ k, 0 ≤ k → k < 64 → 0 ≤ H 4 k ∧ H 4 k ≤ 1) (hQ : Q 0 (xcpy H 4 23 0 0 64)) : xc X d 253 [(2, 4), (2, 23)] H Q := by
  cases d with
  | zero => omega
  | succ d =>
  refine U_253_4 (by omega) H ?_
  have key : ∀ (k : Nat) (j : Int), 0 ≤ j → j + k = 64 → xq X d 253 Q 2 [(0, (2, 4)), (1, (2, 23)), (2, (0, j))] [] (xcpy H 4 23 0 0 j) := by
    intro k
    induction k with
    | zero =>
      intro j h0 hj
      refine U_253_2_4 (by omega) j _ ?_
      rw [show j = 64 by omega]
      refine ⟨fun c1 => ?_, fun c1 => ?_⟩
      · skip
        exact hQ
      · skip
        refine ⟨fun c2 => ?_, fun c2 => ?_⟩
        · skip
          exfalso
          omega
        · skip
          refine ⟨?_, ?_⟩
          · first | omega | (exfalso; omega)
          refine ⟨?_, ?_⟩
          · first | omega | (exfalso; omega)
          refine ⟨?_, ?_⟩
          · first | omega | (exfalso; omega)
          exfalso
          omega
    | succ k ih =>
      intro j h0 hj
      have e : xcpy H 4 23 0 0 j 4 j = H 4 j := rfl
      have z := p j h0 (by omega)
      have nx := ih (j + 1) (by omega) (by omega)
      rw [← xcpy_up (by decide) h0] at nx
      refine U_253_2_4 (by omega) j _ ?_
      refine ⟨fun c1 => ?_, fun c1 => ?_⟩
      · skip
        exfalso
        omega
      · skip
        refine ⟨fun c2 => ?_, fun c2 => ?_⟩
        · skip
          exfalso
          omega
        · skip
          refine ⟨?_, ?_⟩
          · first | omega | (unfold xI; omega) | (rw [e]; exact z) | exact ⟨by omega, by rw [e]; exact z⟩ | (exfalso; omega)
          refine ⟨?_, ?_⟩
          · first | omega | (unfold xI; omega) | (rw [e]; exact z) | exact ⟨by omega, by rw [e]; exact z⟩ | (exfalso; omega)
          refine ⟨?_, ?_⟩
          · first | omega | (unfold xI; omega) | (rw [e]; exact z) | exact ⟨by omega, by rw [e]; exact z⟩ | (exfalso; omega)
          exact nx
  have z := key 64 0 (by omega) (by omega)
  rw [xcpy_0] at z
  exact z

theorem U_253_6 {X : Int × (Int → Int)} {d : Nat} {Q : Int → XH → Prop} (hd : 0 ≤ d) (H : XH) (h : xq X d 253 Q 2 [(0, (2, 6)), (1, (2, 25)), (2, (0, 0))] [] H) : xc X (d + 1) 253 [(2, 6), (2, 25)] H Q := by
  refine ⟨rfl, ?_⟩
  show xq X d 253 Q 100000 [(0, (2, 6)), (1, (2, 25))] [] H
  refine xq_run [2] 300 ?_
  show xq X d 253 Q 2 [(0, (2, 6)), (1, (2, 25)), (2, (0, 0))] [] H
  exact h
theorem U_253_2_6 {X : Int × (Int → Int)} {d : Nat} {Q : Int → XH → Prop} (hd : 0 ≤ d) (v2 : Int) (H : XH) (h : ((64 ≤ v2) → Q 0 H) ∧ (¬ (64 ≤ v2) → ((64 ≤ v2) → Q 0 H) ∧ (¬ (64 ≤ v2) → ((0 : Int) ≤ v2 ∧ (v2 : Int) < 64) ∧ (((0 : Int) ≤ v2 ∧ (v2 : Int) < 64) ∧ (0 : Int) ≤ H 6 v2 ∧ (H 6 v2 : Int) ≤ 1) ∧ (xI (v2 + 1)) ∧ xq X d 253 Q 2 [(0, (2, 6)), (1, (2, 25)), (2, (0, v2 + 1))] [] (xup H 25 v2 (H 6 v2))))) : xq X d 253 Q 2 [(0, (2, 6)), (1, (2, 25)), (2, (0, v2))] [] H := by
  show xq X d 253 Q 2 [(0, (2, 6)), (1, (2, 25)), (2, (0, v2))] [] H
  refine xq_run [2] 300 ?_
  show (1 ≤ xTy xKZ 6 ∧ xTy xKZ 6 ≤ 5) ∧ ((64 ≤ v2) → xfR 2 0 ∧ xKZ = xKZ ∧ Q 0 H) ∧ (¬ (64 ≤ v2) → (1 ≤ xTy xKZ 25 ∧ xTy xKZ 25 ≤ 5) ∧ ((64 ≤ v2) → xfR 2 0 ∧ xKZ = xKZ ∧ Q 0 H) ∧ (¬ (64 ≤ v2) → ((0 : Int) ≤ v2 ∧ (v2 : Int) < 64) ∧ (((0 : Int) ≤ v2 ∧ (v2 : Int) < 64) ∧ xfB (xTy xKZ 25) (H 6 v2)) ∧ (xI (v2 + 1)) ∧ xq X d 253 Q 2 [(0, (2, 6)), (1, (2, 25)), (2, (0, v2 + 1))] [] (xup H 25 v2 (H 6 v2))))
  refine ⟨⟨by decide, by decide⟩, ?_⟩
  refine ⟨fun k_ => ?_, fun k_ => ?_⟩
  · replace h := h.1 k_
    exact ⟨trivial, rfl, h⟩
  · replace h := h.2 k_
    refine ⟨⟨by decide, by decide⟩, ?_⟩
    refine ⟨fun k_ => ?_, fun k_ => ?_⟩
    · replace h := h.1 k_
      exact ⟨trivial, rfl, h⟩
    · replace h := h.2 k_
      refine ⟨h.1, ?_⟩
      replace h := h.2
      refine ⟨⟨h.1.1, ⟨fun q => absurd q (by decide), fun _ => h.1.2⟩⟩, ?_⟩
      replace h := h.2
      refine ⟨h.1, ?_⟩
      replace h := h.2
      exact h

theorem s_253_6 {X : Int × (Int → Int)} {d : Nat} {Q : Int → XH → Prop} (hd : 1 ≤ d) (H : XH) (p : ∀ k, 0 ≤ k → k < 64 → 0 ≤ H 6 k ∧ H 6 k ≤ 1) (hQ : Q 0 (xcpy H 6 25 0 0 64)) : xc X d 253 [(2, 6), (2, 25)] H Q := by
  cases d with
  | zero => omega
  | succ d =>
  refine U_253_6 (by omega) H ?_
  have key : ∀ (k : Nat) (j : Int), 0 ≤ j → j + k = 64 → xq X d 253 Q 2 [(0, (2, 6)), (1, (2, 25)), (2, (0, j))] [] (xcpy H 6 25 0 0 j) := by
    intro k
    induction k with
    | zero =>
      intro j h0 hj
      refine U_253_2_6 (by omega) j _ ?_
      rw [show j = 64 by omega]
      refine ⟨fun c1 => ?_, fun c1 => ?_⟩
      · skip
        exact hQ
      · skip
        refine ⟨fun c2 => ?_, fun c2 => ?_⟩
        · skip
          exfalso
          omega
        · skip
          refine ⟨?_, ?_⟩
          · first | omega | (exfalso; omega)
          refine ⟨?_, ?_⟩
          · first | omega | (exfalso; omega)
          refine ⟨?_, ?_⟩
          · first | omega | (exfalso; omega)
          exfalso
          omega
    | succ k ih =>
      intro j h0 hj
      have e : xcpy H 6 25 0 0 j 6 j = H 6 j := rfl
      have z := p j h0 (by omega)
      have nx := ih (j + 1) (by omega) (by omega)
      rw [← xcpy_up (by decide) h0] at nx
      refine U_253_2_6 (by omega) j _ ?_
      refine ⟨fun c1 => ?_, fun c1 => ?_⟩
      · skip
        exfalso
        omega
      · skip
        refine ⟨fun c2 => ?_, fun c2 => ?_⟩
        · skip
          exfalso
          omega
        · skip
          refine ⟨?_, ?_⟩
          · first | omega | (unfold xI; omega) | (rw [e]; exact z) | exact ⟨by omega, by rw [e]; exact z⟩ | (exfalso; omega)
          refine ⟨?_, ?_⟩
          · first | omega | (unfold xI; omega) | (rw [e]; exact z) | exact ⟨by omega, by rw [e]; exact z⟩ | (exfalso; omega)
          refine ⟨?_, ?_⟩
          · first | omega | (unfold xI; omega) | (rw [e]; exact z) | exact ⟨by omega, by rw [e]; exact z⟩ | (exfalso; omega)
          exact nx
  have z := key 64 0 (by omega) (by omega)
  rw [xcpy_0] at z
  exact z

theorem U_253_18 {X : Int × (Int → Int)} {d : Nat} {Q : Int → XH → Prop} (hd : 0 ≤ d) (H : XH) (h : xq X d 253 Q 2 [(0, (2, 18)), (1, (2, 37)), (2, (0, 0))] [] H) : xc X (d + 1) 253 [(2, 18), (2, 37)] H Q := by
  refine ⟨rfl, ?_⟩
  show xq X d 253 Q 100000 [(0, (2, 18)), (1, (2, 37))] [] H
  refine xq_run [2] 300 ?_
  show xq X d 253 Q 2 [(0, (2, 18)), (1, (2, 37)), (2, (0, 0))] [] H
  exact h
theorem U_253_2_18 {X : Int × (Int → Int)} {d : Nat} {Q : Int → XH → Prop} (hd : 0 ≤ d) (v2 : Int) (H : XH) (h : ((60 ≤ v2) → Q 0 H) ∧ (¬ (60 ≤ v2) → ((60 ≤ v2) → Q 0 H) ∧ (¬ (60 ≤ v2) → ((0 : Int) ≤ v2 ∧ (v2 : Int) < 60) ∧ (((0 : Int) ≤ v2 ∧ (v2 : Int) < 60) ∧ (0 : Int) ≤ H 18 v2 ∧ (H 18 v2 : Int) ≤ 1) ∧ (xI (v2 + 1)) ∧ xq X d 253 Q 2 [(0, (2, 18)), (1, (2, 37)), (2, (0, v2 + 1))] [] (xup H 37 v2 (H 18 v2))))) : xq X d 253 Q 2 [(0, (2, 18)), (1, (2, 37)), (2, (0, v2))] [] H := by
  show xq X d 253 Q 2 [(0, (2, 18)), (1, (2, 37)), (2, (0, v2))] [] H
  refine xq_run [2] 300 ?_
  show (1 ≤ xTy xKZ 18 ∧ xTy xKZ 18 ≤ 5) ∧ ((60 ≤ v2) → xfR 2 0 ∧ xKZ = xKZ ∧ Q 0 H) ∧ (¬ (60 ≤ v2) → (1 ≤ xTy xKZ 37 ∧ xTy xKZ 37 ≤ 5) ∧ ((60 ≤ v2) → xfR 2 0 ∧ xKZ = xKZ ∧ Q 0 H) ∧ (¬ (60 ≤ v2) → ((0 : Int) ≤ v2 ∧ (v2 : Int) < 60) ∧ (((0 : Int) ≤ v2 ∧ (v2 : Int) < 60) ∧ xfB (xTy xKZ 37) (H 18 v2)) ∧ (xI (v2 + 1)) ∧ xq X d 253 Q 2 [(0, (2, 18)), (1, (2, 37)), (2, (0, v2 + 1))] [] (xup H 37 v2 (H 18 v2))))
  refine ⟨⟨by decide, by decide⟩, ?_⟩
  refine ⟨fun k_ => ?_, fun k_ => ?_⟩
  · replace h := h.1 k_
    exact ⟨trivial, rfl, h⟩
  · replace h := h.2 k_
    refine ⟨⟨by decide, by decide⟩, ?_⟩
    refine ⟨fun k_ => ?_, fun k_ => ?_⟩
    · replace h := h.1 k_
      exact ⟨trivial, rfl, h⟩
    · replace h := h.2 k_
      refine ⟨h.1, ?_⟩
      replace h := h.2
      refine ⟨⟨h.1.1, ⟨fun q => absurd q (by decide), fun _ => h.1.2⟩⟩, ?_⟩
      replace h := h.2
      refine ⟨h.1, ?_⟩
      replace h := h.2
      exact h

theorem s_253_18 {X : Int × (Int → Int)} {d : Nat} {Q : Int → XH → Prop} (hd : 1 ≤ d) (H : XH) (p : ∀ k, 0 ≤ k → k < 60 → 0 ≤ H 18 k ∧ H 18 k ≤ 1) (hQ : Q 0 (xcpy H 18 37 0 0 60)) : xc X d 253 [(2, 18), (2, 37)] H Q := by
  cases d with
  | zero => omega
  | succ d =>
  refine U_253_18 (by omega) H ?_
  have key : ∀ (k : Nat) (j : Int), 0 ≤ j → j + k = 60 → xq X d 253 Q 2 [(0, (2, 18)), (1, (2, 37)), (2, (0, j))] [] (xcpy H 18 37 0 0 j) := by
    intro k
    induction k with
    | zero =>
      intro j h0 hj
      refine U_253_2_18 (by omega) j _ ?_
      rw [show j = 60 by omega]
      refine ⟨fun c1 => ?_, fun c1 => ?_⟩
      · skip
        exact hQ
      · skip
        refine ⟨fun c2 => ?_, fun c2 => ?_⟩
        · skip
          exfalso
          omega
        · skip
          refine ⟨?_, ?_⟩
          · first | omega | (exfalso; omega)
          refine ⟨?_, ?_⟩
          · first | omega | (exfalso; omega)
          refine ⟨?_, ?_⟩
          · first | omega | (exfalso; omega)
          exfalso
          omega
    | succ k ih =>
      intro j h0 hj
      have e : xcpy H 18 37 0 0 j 18 j = H 18 j := rfl
      have z := p j h0 (by omega)
      have nx := ih (j + 1) (by omega) (by omega)
      rw [← xcpy_up (by decide) h0] at nx
      refine U_253_2_18 (by omega) j _ ?_
      refine ⟨fun c1 => ?_, fun c1 => ?_⟩
      · skip
        exfalso
        omega
      · skip
        refine ⟨fun c2 => ?_, fun c2 => ?_⟩
        · skip
          exfalso
          omega
        · skip
          refine ⟨?_, ?_⟩
          · first | omega | (unfold xI; omega) | (rw [e]; exact z) | exact ⟨by omega, by rw [e]; exact z⟩ | (exfalso; omega)
          refine ⟨?_, ?_⟩
          · first | omega | (unfold xI; omega) | (rw [e]; exact z) | exact ⟨by omega, by rw [e]; exact z⟩ | (exfalso; omega)
          refine ⟨?_, ?_⟩
          · first | omega | (unfold xI; omega) | (rw [e]; exact z) | exact ⟨by omega, by rw [e]; exact z⟩ | (exfalso; omega)
          exact nx
  have z := key 60 0 (by omega) (by omega)
  rw [xcpy_0] at z
  exact z

theorem U_253_19 {X : Int × (Int → Int)} {d : Nat} {Q : Int → XH → Prop} (hd : 0 ≤ d) (H : XH) (h : xq X d 253 Q 2 [(0, (2, 19)), (1, (2, 38)), (2, (0, 0))] [] H) : xc X (d + 1) 253 [(2, 19), (2, 38)] H Q := by
  refine ⟨rfl, ?_⟩
  show xq X d 253 Q 100000 [(0, (2, 19)), (1, (2, 38))] [] H
  refine xq_run [2] 300 ?_
  show xq X d 253 Q 2 [(0, (2, 19)), (1, (2, 38)), (2, (0, 0))] [] H
  exact h
theorem U_253_2_19 {X : Int × (Int → Int)} {d : Nat} {Q : Int → XH → Prop} (hd : 0 ≤ d) (v2 : Int) (H : XH) (h : ((60 ≤ v2) → Q 0 H) ∧ (¬ (60 ≤ v2) → ((60 ≤ v2) → Q 0 H) ∧ (¬ (60 ≤ v2) → ((0 : Int) ≤ v2 ∧ (v2 : Int) < 60) ∧ (((0 : Int) ≤ v2 ∧ (v2 : Int) < 60) ∧ (0 : Int) ≤ H 19 v2 ∧ (H 19 v2 : Int) ≤ 1) ∧ (xI (v2 + 1)) ∧ xq X d 253 Q 2 [(0, (2, 19)), (1, (2, 38)), (2, (0, v2 + 1))] [] (xup H 38 v2 (H 19 v2))))) : xq X d 253 Q 2 [(0, (2, 19)), (1, (2, 38)), (2, (0, v2))] [] H := by
  show xq X d 253 Q 2 [(0, (2, 19)), (1, (2, 38)), (2, (0, v2))] [] H
  refine xq_run [2] 300 ?_
  show (1 ≤ xTy xKZ 19 ∧ xTy xKZ 19 ≤ 5) ∧ ((60 ≤ v2) → xfR 2 0 ∧ xKZ = xKZ ∧ Q 0 H) ∧ (¬ (60 ≤ v2) → (1 ≤ xTy xKZ 38 ∧ xTy xKZ 38 ≤ 5) ∧ ((60 ≤ v2) → xfR 2 0 ∧ xKZ = xKZ ∧ Q 0 H) ∧ (¬ (60 ≤ v2) → ((0 : Int) ≤ v2 ∧ (v2 : Int) < 60) ∧ (((0 : Int) ≤ v2 ∧ (v2 : Int) < 60) ∧ xfB (xTy xKZ 38) (H 19 v2)) ∧ (xI (v2 + 1)) ∧ xq X d 253 Q 2 [(0, (2, 19)), (1, (2, 38)), (2, (0, v2 + 1))] [] (xup H 38 v2 (H 19 v2))))
  refine ⟨⟨by decide, by decide⟩, ?_⟩
  refine ⟨fun k_ => ?_, fun k_ => ?_⟩
  · replace h := h.1 k_
    exact ⟨trivial, rfl, h⟩
  · replace h := h.2 k_
    refine ⟨⟨by decide, by decide⟩, ?_⟩
    refine ⟨fun k_ => ?_, fun k_ => ?_⟩
    · replace h := h.1 k_
      exact ⟨trivial, rfl, h⟩
    · replace h := h.2 k_
      refine ⟨h.1, ?_⟩
      replace h := h.2
      refine ⟨⟨h.1.1, ⟨fun q => absurd q (by decide), fun _ => h.1.2⟩⟩, ?_⟩
      replace h := h.2
      refine ⟨h.1, ?_⟩
      replace h := h.2
      exact h

theorem s_253_19 {X : Int × (Int → Int)} {d : Nat} {Q : Int → XH → Prop} (hd : 1 ≤ d) (H : XH) (p : ∀ k, 0 ≤ k → k < 60 → 0 ≤ H 19 k ∧ H 19 k ≤ 1) (hQ : Q 0 (xcpy H 19 38 0 0 60)) : xc X d 253 [(2, 19), (2, 38)] H Q := by
  cases d with
  | zero => omega
  | succ d =>
  refine U_253_19 (by omega) H ?_
  have key : ∀ (k : Nat) (j : Int), 0 ≤ j → j + k = 60 → xq X d 253 Q 2 [(0, (2, 19)), (1, (2, 38)), (2, (0, j))] [] (xcpy H 19 38 0 0 j) := by
    intro k
    induction k with
    | zero =>
      intro j h0 hj
      refine U_253_2_19 (by omega) j _ ?_
      rw [show j = 60 by omega]
      refine ⟨fun c1 => ?_, fun c1 => ?_⟩
      · skip
        exact hQ
      · skip
        refine ⟨fun c2 => ?_, fun c2 => ?_⟩
        · skip
          exfalso
          omega
        · skip
          refine ⟨?_, ?_⟩
          · first | omega | (exfalso; omega)
          refine ⟨?_, ?_⟩
          · first | omega | (exfalso; omega)
          refine ⟨?_, ?_⟩
          · first | omega | (exfalso; omega)
          exfalso
          omega
    | succ k ih =>
      intro j h0 hj
      have e : xcpy H 19 38 0 0 j 19 j = H 19 j := rfl
      have z := p j h0 (by omega)
      have nx := ih (j + 1) (by omega) (by omega)
      rw [← xcpy_up (by decide) h0] at nx
      refine U_253_2_19 (by omega) j _ ?_
      refine ⟨fun c1 => ?_, fun c1 => ?_⟩
      · skip
        exfalso
        omega
      · skip
        refine ⟨fun c2 => ?_, fun c2 => ?_⟩
        · skip
          exfalso
          omega
        · skip
          refine ⟨?_, ?_⟩
          · first | omega | (unfold xI; omega) | (rw [e]; exact z) | exact ⟨by omega, by rw [e]; exact z⟩ | (exfalso; omega)
          refine ⟨?_, ?_⟩
          · first | omega | (unfold xI; omega) | (rw [e]; exact z) | exact ⟨by omega, by rw [e]; exact z⟩ | (exfalso; omega)
          refine ⟨?_, ?_⟩
          · first | omega | (unfold xI; omega) | (rw [e]; exact z) | exact ⟨by omega, by rw [e]; exact z⟩ | (exfalso; omega)
          exact nx
  have z := key 60 0 (by omega) (by omega)
  rw [xcpy_0] at z
  exact z

theorem U_253_23 {X : Int × (Int → Int)} {d : Nat} {Q : Int → XH → Prop} (hd : 0 ≤ d) (H : XH) (h : xq X d 253 Q 2 [(0, (2, 23)), (1, (2, 4)), (2, (0, 0))] [] H) : xc X (d + 1) 253 [(2, 23), (2, 4)] H Q := by
  refine ⟨rfl, ?_⟩
  show xq X d 253 Q 100000 [(0, (2, 23)), (1, (2, 4))] [] H
  refine xq_run [2] 300 ?_
  show xq X d 253 Q 2 [(0, (2, 23)), (1, (2, 4)), (2, (0, 0))] [] H
  exact h
theorem U_253_2_23 {X : Int × (Int → Int)} {d : Nat} {Q : Int → XH → Prop} (hd : 0 ≤ d) (v2 : Int) (H : XH) (h : ((64 ≤ v2) → Q 0 H) ∧ (¬ (64 ≤ v2) → ((64 ≤ v2) → Q 0 H) ∧ (¬ (64 ≤ v2) → ((0 : Int) ≤ v2 ∧ (v2 : Int) < 64) ∧ (((0 : Int) ≤ v2 ∧ (v2 : Int) < 64) ∧ (0 : Int) ≤ H 23 v2 ∧ (H 23 v2 : Int) ≤ 1) ∧ (xI (v2 + 1)) ∧ xq X d 253 Q 2 [(0, (2, 23)), (1, (2, 4)), (2, (0, v2 + 1))] [] (xup H 4 v2 (H 23 v2))))) : xq X d 253 Q 2 [(0, (2, 23)), (1, (2, 4)), (2, (0, v2))] [] H := by
  show xq X d 253 Q 2 [(0, (2, 23)), (1, (2, 4)), (2, (0, v2))] [] H
  refine xq_run [2] 300 ?_
  show (1 ≤ xTy xKZ 23 ∧ xTy xKZ 23 ≤ 5) ∧ ((64 ≤ v2) → xfR 2 0 ∧ xKZ = xKZ ∧ Q 0 H) ∧ (¬ (64 ≤ v2) → (1 ≤ xTy xKZ 4 ∧ xTy xKZ 4 ≤ 5) ∧ ((64 ≤ v2) → xfR 2 0 ∧ xKZ = xKZ ∧ Q 0 H) ∧ (¬ (64 ≤ v2) → ((0 : Int) ≤ v2 ∧ (v2 : Int) < 64) ∧ (((0 : Int) ≤ v2 ∧ (v2 : Int) < 64) ∧ xfB (xTy xKZ 4) (H 23 v2)) ∧ (xI (v2 + 1)) ∧ xq X d 253 Q 2 [(0, (2, 23)), (1, (2, 4)), (2, (0, v2 + 1))] [] (xup H 4 v2 (H 23 v2))))
  refine ⟨⟨by decide, by decide⟩, ?_⟩
  refine ⟨fun k_ => ?_, fun k_ => ?_⟩
  · replace h := h.1 k_
    exact ⟨trivial, rfl, h⟩
  · replace h := h.2 k_
    refine ⟨⟨by decide, by decide⟩, ?_⟩
    refine ⟨fun k_ => ?_, fun k_ => ?_⟩
    · replace h := h.1 k_
      exact ⟨trivial, rfl, h⟩
    · replace h := h.2 k_
      refine ⟨h.1, ?_⟩
      replace h := h.2
      refine ⟨⟨h.1.1, ⟨fun q => absurd q (by decide), fun _ => h.1.2⟩⟩, ?_⟩
      replace h := h.2
      refine ⟨h.1, ?_⟩
      replace h := h.2
      exact h

theorem s_253_23 {X : Int × (Int → Int)} {d : Nat} {Q : Int → XH → Prop} (hd : 1 ≤ d) (H : XH) (p : ∀ k, 0 ≤ k → k < 64 → 0 ≤ H 23 k ∧ H 23 k ≤ 1) (hQ : Q 0 (xcpy H 23 4 0 0 64)) : xc X d 253 [(2, 23), (2, 4)] H Q := by
  cases d with
  | zero => omega
  | succ d =>
  refine U_253_23 (by omega) H ?_
  have key : ∀ (k : Nat) (j : Int), 0 ≤ j → j + k = 64 → xq X d 253 Q 2 [(0, (2, 23)), (1, (2, 4)), (2, (0, j))] [] (xcpy H 23 4 0 0 j) := by
    intro k
    induction k with
    | zero =>
      intro j h0 hj
      refine U_253_2_23 (by omega) j _ ?_
      rw [show j = 64 by omega]
      refine ⟨fun c1 => ?_, fun c1 => ?_⟩
      · skip
        exact hQ
      · skip
        refine ⟨fun c2 => ?_, fun c2 => ?_⟩
        · skip
          exfalso
          omega
        · skip
          refine ⟨?_, ?_⟩
          · first | omega | (exfalso; omega)
          refine ⟨?_, ?_⟩
          · first | omega | (exfalso; omega)
          refine ⟨?_, ?_⟩
          · first | omega | (exfalso; omega)
          exfalso
          omega
    | succ k ih =>
      intro j h0 hj
      have e : xcpy H 23 4 0 0 j 23 j = H 23 j := rfl
      have z := p j h0 (by omega)
      have nx := ih (j + 1) (by omega) (by omega)
      rw [← xcpy_up (by decide) h0] at nx
      refine U_253_2_23 (by omega) j _ ?_
      refine ⟨fun c1 => ?_, fun c1 => ?_⟩
      · skip
        exfalso
        omega
      · skip
        refine ⟨fun c2 => ?_, fun c2 => ?_⟩
        · skip
          exfalso
          omega
        · skip
          refine ⟨?_, ?_⟩
          · first | omega | (unfold xI; omega) | (rw [e]; exact z) | exact ⟨by omega, by rw [e]; exact z⟩ | (exfalso; omega)
          refine ⟨?_, ?_⟩
          · first | omega | (unfold xI; omega) | (rw [e]; exact z) | exact ⟨by omega, by rw [e]; exact z⟩ | (exfalso; omega)
          refine ⟨?_, ?_⟩
          · first | omega | (unfold xI; omega) | (rw [e]; exact z) | exact ⟨by omega, by rw [e]; exact z⟩ | (exfalso; omega)
          exact nx
  have z := key 64 0 (by omega) (by omega)
  rw [xcpy_0] at z
  exact z

theorem U_253_25 {X : Int × (Int → Int)} {d : Nat} {Q : Int → XH → Prop} (hd : 0 ≤ d) (H : XH) (h : xq X d 253 Q 2 [(0, (2, 25)), (1, (2, 6)), (2, (0, 0))] [] H) : xc X (d + 1) 253 [(2, 25), (2, 6)] H Q := by
  refine ⟨rfl, ?_⟩
  show xq X d 253 Q 100000 [(0, (2, 25)), (1, (2, 6))] [] H
  refine xq_run [2] 300 ?_
  show xq X d 253 Q 2 [(0, (2, 25)), (1, (2, 6)), (2, (0, 0))] [] H
  exact h
theorem U_253_2_25 {X : Int × (Int → Int)} {d : Nat} {Q : Int → XH → Prop} (hd : 0 ≤ d) (v2 : Int) (H : XH) (h : ((64 ≤ v2) → Q 0 H) ∧ (¬ (64 ≤ v2) → ((64 ≤ v2) → Q 0 H) ∧ (¬ (64 ≤ v2) → ((0 : Int) ≤ v2 ∧ (v2 : Int) < 64) ∧ (((0 : Int) ≤ v2 ∧ (v2 : Int) < 64) ∧ (0 : Int) ≤ H 25 v2 ∧ (H 25 v2 : Int) ≤ 1) ∧ (xI (v2 + 1)) ∧ xq X d 253 Q 2 [(0, (2, 25)), (1, (2, 6)), (2, (0, v2 + 1))] [] (xup H 6 v2 (H 25 v2))))) : xq X d 253 Q 2 [(0, (2, 25)), (1, (2, 6)), (2, (0, v2))] [] H := by
  show xq X d 253 Q 2 [(0, (2, 25)), (1, (2, 6)), (2, (0, v2))] [] H
  refine xq_run [2] 300 ?_
  show (1 ≤ xTy xKZ 25 ∧ xTy xKZ 25 ≤ 5) ∧ ((64 ≤ v2) → xfR 2 0 ∧ xKZ = xKZ ∧ Q 0 H) ∧ (¬ (64 ≤ v2) → (1 ≤ xTy xKZ 6 ∧ xTy xKZ 6 ≤ 5) ∧ ((64 ≤ v2) → xfR 2 0 ∧ xKZ = xKZ ∧ Q 0 H) ∧ (¬ (64 ≤ v2) → ((0 : Int) ≤ v2 ∧ (v2 : Int) < 64) ∧ (((0 : Int) ≤ v2 ∧ (v2 : Int) < 64) ∧ xfB (xTy xKZ 6) (H 25 v2)) ∧ (xI (v2 + 1)) ∧ xq X d 253 Q 2 [(0, (2, 25)), (1, (2, 6)), (2, (0, v2 + 1))] [] (xup H 6 v2 (H 25 v2))))
  refine ⟨⟨by decide, by decide⟩, ?_⟩
  refine ⟨fun k_ => ?_, fun k_ => ?_⟩
  · replace h := h.1 k_
    exact ⟨trivial, rfl, h⟩
  · replace h := h.2 k_
    refine ⟨⟨by decide, by decide⟩, ?_⟩
    refine ⟨fun k_ => ?_, fun k_ => ?_⟩
    · replace h := h.1 k_
      exact ⟨trivial, rfl, h⟩
    · replace h := h.2 k_
      refine ⟨h.1, ?_⟩
      replace h := h.2
      refine ⟨⟨h.1.1, ⟨fun q => absurd q (by decide), fun _ => h.1.2⟩⟩, ?_⟩
      replace h := h.2
      refine ⟨h.1, ?_⟩
      replace h := h.2
      exact h

theorem s_253_25 {X : Int × (Int → Int)} {d : Nat} {Q : Int → XH → Prop} (hd : 1 ≤ d) (H : XH) (p : ∀ k, 0 ≤ k → k < 64 → 0 ≤ H 25 k ∧ H 25 k ≤ 1) (hQ : Q 0 (xcpy H 25 6 0 0 64)) : xc X d 253 [(2, 25), (2, 6)] H Q := by
  cases d with
  | zero => omega
  | succ d =>
  refine U_253_25 (by omega) H ?_
  have key : ∀ (k : Nat) (j : Int), 0 ≤ j → j + k = 64 → xq X d 253 Q 2 [(0, (2, 25)), (1, (2, 6)), (2, (0, j))] [] (xcpy H 25 6 0 0 j) := by
    intro k
    induction k with
    | zero =>
      intro j h0 hj
      refine U_253_2_25 (by omega) j _ ?_
      rw [show j = 64 by omega]
      refine ⟨fun c1 => ?_, fun c1 => ?_⟩
      · skip
        exact hQ
      · skip
        refine ⟨fun c2 => ?_, fun c2 => ?_⟩
        · skip
          exfalso
          omega
        · skip
          refine ⟨?_, ?_⟩
          · first | omega | (exfalso; omega)
          refine ⟨?_, ?_⟩
          · first | omega | (exfalso; omega)
          refine ⟨?_, ?_⟩
          · first | omega | (exfalso; omega)
          exfalso
          omega
    | succ k ih =>
      intro j h0 hj
      have e : xcpy H 25 6 0 0 j 25 j = H 25 j := rfl
      have z := p j h0 (by omega)
      have nx := ih (j + 1) (by omega) (by omega)
      rw [← xcpy_up (by decide) h0] at nx
      refine U_253_2_25 (by omega) j _ ?_
      refine ⟨fun c1 => ?_, fun c1 => ?_⟩
      · skip
        exfalso
        omega
      · skip
        refine ⟨fun c2 => ?_, fun c2 => ?_⟩
        · skip
          exfalso
          omega
        · skip
          refine ⟨?_, ?_⟩
          · first | omega | (unfold xI; omega) | (rw [e]; exact z) | exact ⟨by omega, by rw [e]; exact z⟩ | (exfalso; omega)
          refine ⟨?_, ?_⟩
          · first | omega | (unfold xI; omega) | (rw [e]; exact z) | exact ⟨by omega, by rw [e]; exact z⟩ | (exfalso; omega)
          refine ⟨?_, ?_⟩
          · first | omega | (unfold xI; omega) | (rw [e]; exact z) | exact ⟨by omega, by rw [e]; exact z⟩ | (exfalso; omega)
          exact nx
  have z := key 64 0 (by omega) (by omega)
  rw [xcpy_0] at z
  exact z

theorem U_253_37 {X : Int × (Int → Int)} {d : Nat} {Q : Int → XH → Prop} (hd : 0 ≤ d) (H : XH) (h : xq X d 253 Q 2 [(0, (2, 37)), (1, (2, 18)), (2, (0, 0))] [] H) : xc X (d + 1) 253 [(2, 37), (2, 18)] H Q := by
  refine ⟨rfl, ?_⟩
  show xq X d 253 Q 100000 [(0, (2, 37)), (1, (2, 18))] [] H
  refine xq_run [2] 300 ?_
  show xq X d 253 Q 2 [(0, (2, 37)), (1, (2, 18)), (2, (0, 0))] [] H
  exact h
theorem U_253_2_37 {X : Int × (Int → Int)} {d : Nat} {Q : Int → XH → Prop} (hd : 0 ≤ d) (v2 : Int) (H : XH) (h : ((60 ≤ v2) → Q 0 H) ∧ (¬ (60 ≤ v2) → ((60 ≤ v2) → Q 0 H) ∧ (¬ (60 ≤ v2) → ((0 : Int) ≤ v2 ∧ (v2 : Int) < 60) ∧ (((0 : Int) ≤ v2 ∧ (v2 : Int) < 60) ∧ (0 : Int) ≤ H 37 v2 ∧ (H 37 v2 : Int) ≤ 1) ∧ (xI (v2 + 1)) ∧ xq X d 253 Q 2 [(0, (2, 37)), (1, (2, 18)), (2, (0, v2 + 1))] [] (xup H 18 v2 (H 37 v2))))) : xq X d 253 Q 2 [(0, (2, 37)), (1, (2, 18)), (2, (0, v2))] [] H := by
  show xq X d 253 Q 2 [(0, (2, 37)), (1, (2, 18)), (2, (0, v2))] [] H
  refine xq_run [2] 300 ?_
  show (1 ≤ xTy xKZ 37 ∧ xTy xKZ 37 ≤ 5) ∧ ((60 ≤ v2) → xfR 2 0 ∧ xKZ = xKZ ∧ Q 0 H) ∧ (¬ (60 ≤ v2) → (1 ≤ xTy xKZ 18 ∧ xTy xKZ 18 ≤ 5) ∧ ((60 ≤ v2) → xfR 2 0 ∧ xKZ = xKZ ∧ Q 0 H) ∧ (¬ (60 ≤ v2) → ((0 : Int) ≤ v2 ∧ (v2 : Int) < 60) ∧ (((0 : Int) ≤ v2 ∧ (v2 : Int) < 60) ∧ xfB (xTy xKZ 18) (H 37 v2)) ∧ (xI (v2 + 1)) ∧ xq X d 253 Q 2 [(0, (2, 37)), (1, (2, 18)), (2, (0, v2 + 1))] [] (xup H 18 v2 (H 37 v2))))
  refine ⟨⟨by decide, by decide⟩, ?_⟩
  refine ⟨fun k_ => ?_, fun k_ => ?_⟩
  · replace h := h.1 k_
    exact ⟨trivial, rfl, h⟩
  · replace h := h.2 k_
    refine ⟨⟨by decide, by decide⟩, ?_⟩
    refine ⟨fun k_ => ?_, fun k_ => ?_⟩
    · replace h := h.1 k_
      exact ⟨trivial, rfl, h⟩
    · replace h := h.2 k_
      refine ⟨h.1, ?_⟩
      replace h := h.2
      refine ⟨⟨h.1.1, ⟨fun q => absurd q (by decide), fun _ => h.1.2⟩⟩, ?_⟩
      replace h := h.2
      refine ⟨h.1, ?_⟩
      replace h := h.2
      exact h

theorem s_253_37 {X : Int × (Int → Int)} {d : Nat} {Q : Int → XH → Prop} (hd : 1 ≤ d) (H : XH) (p : ∀ k, 0 ≤ k → k < 60 → 0 ≤ H 37 k ∧ H 37 k ≤ 1) (hQ : Q 0 (xcpy H 37 18 0 0 60)) : xc X d 253 [(2, 37), (2, 18)] H Q := by
  cases d with
  | zero => omega
  | succ d =>
  refine U_253_37 (by omega) H ?_
  have key : ∀ (k : Nat) (j : Int), 0 ≤ j → j + k = 60 → xq X d 253 Q 2 [(0, (2, 37)), (1, (2, 18)), (2, (0, j))] [] (xcpy H 37 18 0 0 j) := by
    intro k
    induction k with
    | zero =>
      intro j h0 hj
      refine U_253_2_37 (by omega) j _ ?_
      rw [show j = 60 by omega]
      refine ⟨fun c1 => ?_, fun c1 => ?_⟩
      · skip
        exact hQ
      · skip
        refine ⟨fun c2 => ?_, fun c2 => ?_⟩
        · skip
          exfalso
          omega
        · skip
          refine ⟨?_, ?_⟩
          · first | omega | (exfalso; omega)
          refine ⟨?_, ?_⟩
          · first | omega | (exfalso; omega)
          refine ⟨?_, ?_⟩
          · first | omega | (exfalso; omega)
          exfalso
          omega
    | succ k ih =>
      intro j h0 hj
      have e : xcpy H 37 18 0 0 j 37 j = H 37 j := rfl
      have z := p j h0 (by omega)
      have nx := ih (j + 1) (by omega) (by omega)
      rw [← xcpy_up (by decide) h0] at nx
      refine U_253_2_37 (by omega) j _ ?_
      refine ⟨fun c1 => ?_, fun c1 => ?_⟩
      · skip
        exfalso
        omega
      · skip
        refine ⟨fun c2 => ?_, fun c2 => ?_⟩
        · skip
          exfalso
          omega
        · skip
          refine ⟨?_, ?_⟩
          · first | omega | (unfold xI; omega) | (rw [e]; exact z) | exact ⟨by omega, by rw [e]; exact z⟩ | (exfalso; omega)
          refine ⟨?_, ?_⟩
          · first | omega | (unfold xI; omega) | (rw [e]; exact z) | exact ⟨by omega, by rw [e]; exact z⟩ | (exfalso; omega)
          refine ⟨?_, ?_⟩
          · first | omega | (unfold xI; omega) | (rw [e]; exact z) | exact ⟨by omega, by rw [e]; exact z⟩ | (exfalso; omega)
          exact nx
  have z := key 60 0 (by omega) (by omega)
  rw [xcpy_0] at z
  exact z

theorem U_253_38 {X : Int × (Int → Int)} {d : Nat} {Q : Int → XH → Prop} (hd : 0 ≤ d) (H : XH) (h : xq X d 253 Q 2 [(0, (2, 38)), (1, (2, 19)), (2, (0, 0))] [] H) : xc X (d + 1) 253 [(2, 38), (2, 19)] H Q := by
  refine ⟨rfl, ?_⟩
  show xq X d 253 Q 100000 [(0, (2, 38)), (1, (2, 19))] [] H
  refine xq_run [2] 300 ?_
  show xq X d 253 Q 2 [(0, (2, 38)), (1, (2, 19)), (2, (0, 0))] [] H
  exact h
theorem U_253_2_38 {X : Int × (Int → Int)} {d : Nat} {Q : Int → XH → Prop} (hd : 0 ≤ d) (v2 : Int) (H : XH) (h : ((60 ≤ v2) → Q 0 H) ∧ (¬ (60 ≤ v2) → ((60 ≤ v2) → Q 0 H) ∧ (¬ (60 ≤ v2) → ((0 : Int) ≤ v2 ∧ (v2 : Int) < 60) ∧ (((0 : Int) ≤ v2 ∧ (v2 : Int) < 60) ∧ (0 : Int) ≤ H 38 v2 ∧ (H 38 v2 : Int) ≤ 1) ∧ (xI (v2 + 1)) ∧ xq X d 253 Q 2 [(0, (2, 38)), (1, (2, 19)), (2, (0, v2 + 1))] [] (xup H 19 v2 (H 38 v2))))) : xq X d 253 Q 2 [(0, (2, 38)), (1, (2, 19)), (2, (0, v2))] [] H := by
  show xq X d 253 Q 2 [(0, (2, 38)), (1, (2, 19)), (2, (0, v2))] [] H
  refine xq_run [2] 300 ?_
  show (1 ≤ xTy xKZ 38 ∧ xTy xKZ 38 ≤ 5) ∧ ((60 ≤ v2) → xfR 2 0 ∧ xKZ = xKZ ∧ Q 0 H) ∧ (¬ (60 ≤ v2) → (1 ≤ xTy xKZ 19 ∧ xTy xKZ 19 ≤ 5) ∧ ((60 ≤ v2) → xfR 2 0 ∧ xKZ = xKZ ∧ Q 0 H) ∧ (¬ (60 ≤ v2) → ((0 : Int) ≤ v2 ∧ (v2 : Int) < 60) ∧ (((0 : Int) ≤ v2 ∧ (v2 : Int) < 60) ∧ xfB (xTy xKZ 19) (H 38 v2)) ∧ (xI (v2 + 1)) ∧ xq X d 253 Q 2 [(0, (2, 38)), (1, (2, 19)), (2, (0, v2 + 1))] [] (xup H 19 v2 (H 38 v2))))
  refine ⟨⟨by decide, by decide⟩, ?_⟩
  refine ⟨fun k_ => ?_, fun k_ => ?_⟩
  · replace h := h.1 k_
    exact ⟨trivial, rfl, h⟩
  · replace h := h.2 k_
    refine ⟨⟨by decide, by decide⟩, ?_⟩
    refine ⟨fun k_ => ?_, fun k_ => ?_⟩
    · replace h := h.1 k_
      exact ⟨trivial, rfl, h⟩
    · replace h := h.2 k_
      refine ⟨h.1, ?_⟩
      replace h := h.2
      refine ⟨⟨h.1.1, ⟨fun q => absurd q (by decide), fun _ => h.1.2⟩⟩, ?_⟩
      replace h := h.2
      refine ⟨h.1, ?_⟩
      replace h := h.2
      exact h

theorem s_253_38 {X : Int × (Int → Int)} {d : Nat} {Q : Int → XH → Prop} (hd : 1 ≤ d) (H : XH) (p : ∀ k, 0 ≤ k → k < 60 → 0 ≤ H 38 k ∧ H 38 k ≤ 1) (hQ : Q 0 (xcpy H 38 19 0 0 60)) : xc X d 253 [(2, 38), (2, 19)] H Q := by
  cases d with
  | zero => omega
  | succ d =>
  refine U_253_38 (by omega) H ?_
  have key : ∀ (k : Nat) (j : Int), 0 ≤ j → j + k = 60 → xq X d 253 Q 2 [(0, (2, 38)), (1, (2, 19)), (2, (0, j))] [] (xcpy H 38 19 0 0 j) := by
    intro k
    induction k with
    | zero =>
      intro j h0 hj
      refine U_253_2_38 (by omega) j _ ?_
      rw [show j = 60 by omega]
      refine ⟨fun c1 => ?_, fun c1 => ?_⟩
      · skip
        exact hQ
      · skip
        refine ⟨fun c2 => ?_, fun c2 => ?_⟩
        · skip
          exfalso
          omega
        · skip
          refine ⟨?_, ?_⟩
          · first | omega | (exfalso; omega)
          refine ⟨?_, ?_⟩
          · first | omega | (exfalso; omega)
          refine ⟨?_, ?_⟩
          · first | omega | (exfalso; omega)
          exfalso
          omega
    | succ k ih =>
      intro j h0 hj
      have e : xcpy H 38 19 0 0 j 38 j = H 38 j := rfl
      have z := p j h0 (by omega)
      have nx := ih (j + 1) (by omega) (by omega)
      rw [← xcpy_up (by decide) h0] at nx
      refine U_253_2_38 (by omega) j _ ?_
      refine ⟨fun c1 => ?_, fun c1 => ?_⟩
      · skip
        exfalso
        omega
      · skip
        refine ⟨fun c2 => ?_, fun c2 => ?_⟩
        · skip
          exfalso
          omega
        · skip
          refine ⟨?_, ?_⟩
          · first | omega | (unfold xI; omega) | (rw [e]; exact z) | exact ⟨by omega, by rw [e]; exact z⟩ | (exfalso; omega)
          refine ⟨?_, ?_⟩
          · first | omega | (unfold xI; omega) | (rw [e]; exact z) | exact ⟨by omega, by rw [e]; exact z⟩ | (exfalso; omega)
          refine ⟨?_, ?_⟩
          · first | omega | (unfold xI; omega) | (rw [e]; exact z) | exact ⟨by omega, by rw [e]; exact z⟩ | (exfalso; omega)
          exact nx
  have z := key 60 0 (by omega) (by omega)
  rw [xcpy_0] at z
  exact z

theorem U_254_i {X : Int × (Int → Int)} {d : Nat} {Q : Int → XH → Prop} (hd : 1 ≤ d) (H : XH) (h : (∀ k, 0 ≤ k → k < 64 → 0 ≤ (xcpy H 3 22 0 0 320) 4 k ∧ (xcpy H 3 22 0 0 320) 4 k ≤ 1) ∧ ((∀ k, 0 ≤ k → k < 64 → 0 ≤ (xcpy (xcpy (xcpy H 3 22 0 0 320) 4 23 0 0 64) 5 24 0 0 64) 6 k ∧ (xcpy (xcpy (xcpy H 3 22 0 0 320) 4 23 0 0 64) 5 24 0 0 64) 6 k ≤ 1) ∧ (Q 0 (xup (xcpy (xcpy (xcpy (xcpy H 3 22 0 0 320) 4 23 0 0 64) 5 24 0 0 64) 6 25 0 0 64) 21 7 (H 2 7))))) : xc X (d + 1) 254 [(2, 21), (2, 2)] H Q := by
  refine ⟨rfl, ?_⟩
  show xq X d 254 Q 100000 [(0, (2, 21)), (1, (2, 2))] [] H
  refine xq_run [27, 53] 300 ?_
  show (xTy xKZ 3 = 1 ∧ xTy xKZ 22 = 1 ∧ 0 ≤ 0 ∧ 0 ≤ 0 ∧ 0 ≤ 320 ∧ 0 + 320 ≤ xLen xKZ 3 ∧ 0 + 320 ≤ xLen xKZ 22) ∧ xWM (xE X) xMC d 253 [(2, 4), (2, 23)] xKZ (xcpy H 3 22 0 0 320) _
  refine ⟨⟨by decide, by decide, by decide, by decide, by decide, by decide, by decide⟩, ?_⟩
  refine xc_in (s_253_4 (by omega) (xcpy H 3 22 0 0 320) (h.1) ?_)
  replace h := h.2
  show xq X d 254 Q 27 [(0, (2, 21)), (1, (2, 2))] [] (xcpy (xcpy H 3 22 0 0 320) 4 23 0 0 64)
  refine xq_run [27, 53] 300 ?_
  show (xTy xKZ 5 = 1 ∧ xTy xKZ 24 = 1 ∧ 0 ≤ 0 ∧ 0 ≤ 0 ∧ 0 ≤ 64 ∧ 0 + 64 ≤ xLen xKZ 5 ∧ 0 + 64 ≤ xLen xKZ 24) ∧ xWM (xE X) xMC d 253 [(2, 6), (2, 25)] xKZ (xcpy (xcpy (xcpy H 3 22 0 0 320) 4 23 0 0 64) 5 24 0 0 64) _
  refine ⟨⟨by decide, by decide, by decide, by decide, by decide, by decide, by decide⟩, ?_⟩
  refine xc_in (s_253_6 (by omega) (xcpy (xcpy (xcpy H 3 22 0 0 320) 4 23 0 0 64) 5 24 0 0 64) (h.1) ?_)
  replace h := h.2
  show xq X d 254 Q 53 [(0, (2, 21)), (1, (2, 2))] [] (xcpy (xcpy (xcpy (xcpy H 3 22 0 0 320) 4 23 0 0 64) 5 24 0 0 64) 6 25 0 0 64)
  refine xq_run [27, 53] 300 ?_
  show xfR 2 0 ∧ xKZ = xKZ ∧ Q 0 (xup (xcpy (xcpy (xcpy (xcpy H 3 22 0 0 320) 4 23 0 0 64) 5 24 0 0 64) 6 25 0 0 64) 21 7 (H 2 7))
  exact ⟨trivial, rfl, h⟩

theorem s_254_i {X : Int × (Int → Int)} {d : Nat} {Q : Int → XH → Prop} (hd : 2 ≤ d) (H : XH) (p4 : ∀ k, 0 ≤ k → k < 64 → 0 ≤ H 4 k ∧ H 4 k ≤ 1) (p6 : ∀ k, 0 ≤ k → k < 64 → 0 ≤ H 6 k ∧ H 6 k ≤ 1) (hQ : ∀ h1 : XH, (∀ o, ¬ o = 21 → ¬ o = 22 → ¬ o = 23 → ¬ o = 24 → ¬ o = 25 → h1 o = H o) ∧ (∀ k, ¬ k = 7 → h1 21 k = H 21 k) ∧ h1 21 7 = H 2 7 ∧ ccp H h1 3 22 320 ∧ ccp H h1 4 23 64 ∧ ccp H h1 5 24 64 ∧ ccp H h1 6 25 64 → Q 0 h1) : xc X d 254 [(2, 21), (2, 2)] H Q := by
  cases d with
  | zero => omega
  | succ d =>
  refine U_254_i (by omega) H ?_
  refine ⟨?_, ?_⟩
  · first | exact p4 | exact p6 | decide
  refine ⟨?_, ?_⟩
  · first | exact p4 | exact p6 | decide
  refine hQ _ ⟨fun o z0 z1 z2 z3 z4 => ?_, fun k y0 => ?_, ?_, fun k a b => ?_, fun k a b => ?_, fun k a b => ?_, fun k a b => ?_⟩
  · simp (disch := assumption) only [xup_ne, xcpy_o]
  · first | rfl | (simp (disch := first | assumption | decide) only [xcpy_o, xup_k]; done) | (simp (disch := first | assumption | decide) only [xcpy_o, xup_k]; rfl)
  · rfl
  · first | exact xcpy_in a b | (simp (disch := decide) only [xup_ne, xcpy_o]; exact xcpy_in a b)
  · first | exact xcpy_in a b | (simp (disch := decide) only [xup_ne, xcpy_o]; exact xcpy_in a b)
  · first | exact xcpy_in a b | (simp (disch := decide) only [xup_ne, xcpy_o]; exact xcpy_in a b)
  · first | exact xcpy_in a b | (simp (disch := decide) only [xup_ne, xcpy_o]; exact xcpy_in a b)

theorem U_228_i {X : Int × (Int → Int)} {d : Nat} {Q : Int → XH → Prop} (hd : 0 ≤ d) (H : XH) (h : Q 0 (xup (xcpy H 8 27 0 0 40) 26 1 (H 7 1))) : xc X (d + 1) 228 [(2, 26), (2, 7)] H Q := by
  refine ⟨rfl, ?_⟩
  show xq X d 228 Q 100000 [(0, (2, 26)), (1, (2, 7))] [] H
  refine xq_run [] 300 ?_
  show (xTy xKZ 8 = 1 ∧ xTy xKZ 27 = 1 ∧ 0 ≤ 0 ∧ 0 ≤ 0 ∧ 0 ≤ 40 ∧ 0 + 40 ≤ xLen xKZ 8 ∧ 0 + 40 ≤ xLen xKZ 27) ∧ xfR 2 0 ∧ xKZ = xKZ ∧ Q 0 (xup (xcpy H 8 27 0 0 40) 26 1 (H 7 1))
  refine ⟨⟨by decide, by decide, by decide, by decide, by decide, by decide, by decide⟩, ?_⟩
  exact ⟨trivial, rfl, h⟩

theorem s_228_i {X : Int × (Int → Int)} {d : Nat} {Q : Int → XH → Prop} (hd : 2 ≤ d) (H : XH) (hQ : ∀ h1 : XH, (∀ o, ¬ o = 26 → ¬ o = 27 → h1 o = H o) ∧ (∀ k, ¬ k = 1 → h1 26 k = H 26 k) ∧ h1 26 1 = H 7 1 ∧ ccp H h1 8 27 40 → Q 0 h1) : xc X d 228 [(2, 26), (2, 7)] H Q := by
  cases d with
  | zero => omega
  | succ d =>
  refine U_228_i (by omega) H ?_
  refine hQ _ ⟨fun o z0 z1 => ?_, fun k y0 => ?_, ?_, fun k a b => ?_⟩
  · simp (disch := assumption) only [xup_ne, xcpy_o]
  · first | rfl | (simp (disch := first | assumption | decide) only [xcpy_o, xup_k]; done) | (simp (disch := first | assumption | decide) only [xcpy_o, xup_k]; rfl)
  · rfl
  · first | exact xcpy_in a b | (simp (disch := decide) only [xup_ne, xcpy_o]; exact xcpy_in a b)

theorem U_255_i {X : Int × (Int → Int)} {d : Nat} {Q : Int → XH → Prop} (hd : 0 ≤ d) (H : XH) (h : Q 0 (xcpy (xcpy (xup (xup (xup (xup (xup (xup H 28 0 (H 9 0)) 28 1 (H 9 1)) 28 2 (H 9 2)) 28 3 (H 9 3)) 28 4 (H 9 4)) 28 5 (H 9 5)) 10 29 0 0 5) 11 30 0 0 5)) : xc X (d + 1) 255 [(2, 28), (2, 9)] H Q := by
  refine ⟨rfl, ?_⟩
  show xq X d 255 Q 100000 [(0, (2, 28)), (1, (2, 9))] [] H
  refine xq_run [] 300 ?_
  show (xTy xKZ 10 = 1 ∧ xTy xKZ 29 = 1 ∧ 0 ≤ 0 ∧ 0 ≤ 0 ∧ 0 ≤ 5 ∧ 0 + 5 ≤ xLen xKZ 10 ∧ 0 + 5 ≤ xLen xKZ 29) ∧ (xTy xKZ 11 = 1 ∧ xTy xKZ 30 = 1 ∧ 0 ≤ 0 ∧ 0 ≤ 0 ∧ 0 ≤ 5 ∧ 0 + 5 ≤ xLen xKZ 11 ∧ 0 + 5 ≤ xLen xKZ 30) ∧ xfR 2 0 ∧ xKZ = xKZ ∧ Q 0 (xcpy (xcpy (xup (xup (xup (xup (xup (xup H 28 0 (H 9 0)) 28 1 (H 9 1)) 28 2 (H 9 2)) 28 3 (H 9 3)) 28 4 (H 9 4)) 28 5 (H 9 5)) 10 29 0 0 5) 11 30 0 0 5)
  refine ⟨⟨by decide, by decide, by decide, by decide, by decide, by decide, by decide⟩, ?_⟩
  refine ⟨⟨by decide, by decide, by decide, by decide, by decide, by decide, by decide⟩, ?_⟩
  exact ⟨trivial, rfl, h⟩

theorem s_255_i {X : Int × (Int → Int)} {d : Nat} {Q : Int → XH → Prop} (hd : 2 ≤ d) (H : XH) (hQ : ∀ h1 : XH, (∀ o, ¬ o = 28 → ¬ o = 29 → ¬ o = 30 → h1 o = H o) ∧ (∀ k, ¬ k = 0 → ¬ k = 1 → ¬ k = 2 → ¬ k = 3 → ¬ k = 4 → ¬ k = 5 → h1 28 k = H 28 k) ∧ h1 28 0 = H 9 0 ∧ h1 28 1 = H 9 1 ∧ h1 28 2 = H 9 2 ∧ h1 28 3 = H 9 3 ∧ h1 28 4 = H 9 4 ∧ h1 28 5 = H 9 5 ∧ ccp H h1 10 29 5 ∧ ccp H h1 11 30 5 → Q 0 h1) : xc X d 255 [(2, 28), (2, 9)] H Q := by
  cases d with
  | zero => omega
  | succ d =>
  refine U_255_i (by omega) H ?_
  refine hQ _ ⟨fun o z0 z1 z2 => ?_, fun k y0 y1 y2 y3 y4 y5 => ?_, ?_, ?_, ?_, ?_, ?_, ?_, fun k a b => ?_, fun k a b => ?_⟩
  · simp (disch := assumption) only [xup_ne, xcpy_o]
  · first | rfl | (simp (disch := first | assumption | decide) only [xcpy_o, xup_k]; done) | (simp (disch := first | assumption | decide) only [xcpy_o, xup_k]; rfl)
  · rfl
  · rfl
  · rfl
  · rfl
  · rfl
  · rfl
  · first | exact xcpy_in a b | (simp (disch := decide) only [xup_ne, xcpy_o]; exact xcpy_in a b)
  · first | exact xcpy_in a b | (simp (disch := decide) only [xup_ne, xcpy_o]; exact xcpy_in a b)

theorem U_256_i {X : Int × (Int → Int)} {d : Nat} {Q : Int → XH → Prop} (hd : 0 ≤ d) (H : XH) (h : Q 0 (xcpy (xcpy H 13 32 0 0 240) 14 33 0 0 4)) : xc X (d + 1) 256 [(2, 31), (2, 12)] H Q := by
  refine ⟨rfl, ?_⟩
  show xq X d 256 Q 100000 [(0, (2, 31)), (1, (2, 12))] [] H
  refine xq_run [] 300 ?_
  show (xTy xKZ 13 = 1 ∧ xTy xKZ 32 = 1 ∧ 0 ≤ 0 ∧ 0 ≤ 0 ∧ 0 ≤ 240 ∧ 0 + 240 ≤ xLen xKZ 13 ∧ 0 + 240 ≤ xLen xKZ 32) ∧ (xTy xKZ 14 = 1 ∧ xTy xKZ 33 = 1 ∧ 0 ≤ 0 ∧ 0 ≤ 0 ∧ 0 ≤ 4 ∧ 0 + 4 ≤ xLen xKZ 14 ∧ 0 + 4 ≤ xLen xKZ 33) ∧ xfR 2 0 ∧ xKZ = xKZ ∧ Q 0 (xcpy (xcpy H 13 32 0 0 240) 14 33 0 0 4)
  refine ⟨⟨by decide, by decide, by decide, by decide, by decide, by decide, by decide⟩, ?_⟩
  refine ⟨⟨by decide, by decide, by decide, by decide, by decide, by decide, by decide⟩, ?_⟩
  exact ⟨trivial, rfl, h⟩

theorem s_256_i {X : Int × (Int → Int)} {d : Nat} {Q : Int → XH → Prop} (hd : 2 ≤ d) (H : XH) (hQ : ∀ h1 : XH, (∀ o, ¬ o = 31 → ¬ o = 32 → ¬ o = 33 → h1 o = H o) ∧ (∀ k, h1 31 k = H 31 k) ∧ ccp H h1 13 32 240 ∧ ccp H h1 14 33 4 → Q 0 h1) : xc X d 256 [(2, 31), (2, 12)] H Q := by
  cases d with
  | zero => omega
  | succ d =>
  refine U_256_i (by omega) H ?_
  refine hQ _ ⟨fun o z0 z1 z2 => ?_, fun k  => ?_, fun k a b => ?_, fun k a b => ?_⟩
  · simp (disch := assumption) only [xup_ne, xcpy_o]
  · first | rfl | (simp (disch := first | assumption | decide) only [xcpy_o, xup_k]; done) | (simp (disch := first | assumption | decide) only [xcpy_o, xup_k]; rfl)
  · first | exact xcpy_in a b | (simp (disch := decide) only [xup_ne, xcpy_o]; exact xcpy_in a b)
  · first | exact xcpy_in a b | (simp (disch := decide) only [xup_ne, xcpy_o]; exact xcpy_in a b)

theorem U_257_i {X : Int × (Int → Int)} {d : Nat} {Q : Int → XH → Prop} (hd : 1 ≤ d) (H : XH) (h : (∀ k, 0 ≤ k → k < 60 → 0 ≤ (xcpy (xcpy H 16 35 0 0 60) 17 36 0 0 60) 18 k ∧ (xcpy (xcpy H 16 35 0 0 60) 17 36 0 0 60) 18 k ≤ 1) ∧ ((∀ k, 0 ≤ k → k < 60 → 0 ≤ (xcpy (xcpy (xcpy H 16 35 0 0 60) 17 36 0 0 60) 18 37 0 0 60) 19 k ∧ (xcpy (xcpy (xcpy H 16 35 0 0 60) 17 36 0 0 60) 18 37 0 0 60) 19 k ≤ 1) ∧ (Q 0 (xup (xcpy (xcpy (xcpy (xcpy H 16 35 0 0 60) 17 36 0 0 60) 18 37 0 0 60) 19 38 0 0 60) 34 4 (H 15 4))))) : xc X (d + 1) 257 [(2, 34), (2, 15)] H Q := by
  refine ⟨rfl, ?_⟩
  show xq X d 257 Q 100000 [(0, (2, 34)), (1, (2, 15))] [] H
  refine xq_run [41, 52] 300 ?_
  show (xTy xKZ 16 = 1 ∧ xTy xKZ 35 = 1 ∧ 0 ≤ 0 ∧ 0 ≤ 0 ∧ 0 ≤ 60 ∧ 0 + 60 ≤ xLen xKZ 16 ∧ 0 + 60 ≤ xLen xKZ 35) ∧ (xTy xKZ 17 = 1 ∧ xTy xKZ 36 = 1 ∧ 0 ≤ 0 ∧ 0 ≤ 0 ∧ 0 ≤ 60 ∧ 0 + 60 ≤ xLen xKZ 17 ∧ 0 + 60 ≤ xLen xKZ 36) ∧ xWM (xE X) xMC d 253 [(2, 18), (2, 37)] xKZ (xcpy (xcpy H 16 35 0 0 60) 17 36 0 0 60) _
  refine ⟨⟨by decide, by decide, by decide, by decide, by decide, by decide, by decide⟩, ?_⟩
  refine ⟨⟨by decide, by decide, by decide, by decide, by decide, by decide, by decide⟩, ?_⟩
  refine xc_in (s_253_18 (by omega) (xcpy (xcpy H 16 35 0 0 60) 17 36 0 0 60) (h.1) ?_)
  replace h := h.2
  show xq X d 257 Q 41 [(0, (2, 34)), (1, (2, 15))] [] (xcpy (xcpy (xcpy H 16 35 0 0 60) 17 36 0 0 60) 18 37 0 0 60)
  refine xq_run [41, 52] 300 ?_
  show xWM (xE X) xMC d 253 [(2, 19), (2, 38)] xKZ (xcpy (xcpy (xcpy H 16 35 0 0 60) 17 36 0 0 60) 18 37 0 0 60) _
  refine xc_in (s_253_19 (by omega) (xcpy (xcpy (xcpy H 16 35 0 0 60) 17 36 0 0 60) 18 37 0 0 60) (h.1) ?_)
  replace h := h.2
  show xq X d 257 Q 52 [(0, (2, 34)), (1, (2, 15))] [] (xcpy (xcpy (xcpy (xcpy H 16 35 0 0 60) 17 36 0 0 60) 18 37 0 0 60) 19 38 0 0 60)
  refine xq_run [41, 52] 300 ?_
  show xfR 2 0 ∧ xKZ = xKZ ∧ Q 0 (xup (xcpy (xcpy (xcpy (xcpy H 16 35 0 0 60) 17 36 0 0 60) 18 37 0 0 60) 19 38 0 0 60) 34 4 (H 15 4))
  exact ⟨trivial, rfl, h⟩

theorem s_257_i {X : Int × (Int → Int)} {d : Nat} {Q : Int → XH → Prop} (hd : 2 ≤ d) (H : XH) (p18 : ∀ k, 0 ≤ k → k < 60 → 0 ≤ H 18 k ∧ H 18 k ≤ 1) (p19 : ∀ k, 0 ≤ k → k < 60 → 0 ≤ H 19 k ∧ H 19 k ≤ 1) (hQ : ∀ h1 : XH, (∀ o, ¬ o = 34 → ¬ o = 35 → ¬ o = 36 → ¬ o = 37 → ¬ o = 38 → h1 o = H o) ∧ (∀ k, ¬ k = 4 → h1 34 k = H 34 k) ∧ h1 34 4 = H 15 4 ∧ ccp H h1 16 35 60 ∧ ccp H h1 17 36 60 ∧ ccp H h1 18 37 60 ∧ ccp H h1 19 38 60 → Q 0 h1) : xc X d 257 [(2, 34), (2, 15)] H Q := by
  cases d with
  | zero => omega
  | succ d =>
  refine U_257_i (by omega) H ?_
  refine ⟨?_, ?_⟩
  · first | exact p18 | exact p19 | decide
  refine ⟨?_, ?_⟩
  · first | exact p18 | exact p19 | decide
  refine hQ _ ⟨fun o z0 z1 z2 z3 z4 => ?_, fun k y0 => ?_, ?_, fun k a b => ?_, fun k a b => ?_, fun k a b => ?_, fun k a b => ?_⟩
  · simp (disch := assumption) only [xup_ne, xcpy_o]
  · first | rfl | (simp (disch := first | assumption | decide) only [xcpy_o, xup_k]; done) | (simp (disch := first | assumption | decide) only [xcpy_o, xup_k]; rfl)
  · rfl
  · first | exact xcpy_in a b | (simp (disch := decide) only [xup_ne, xcpy_o]; exact xcpy_in a b)
  · first | exact xcpy_in a b | (simp (disch := decide) only [xup_ne, xcpy_o]; exact xcpy_in a b)
  · first | exact xcpy_in a b | (simp (disch := decide) only [xup_ne, xcpy_o]; exact xcpy_in a b)
  · first | exact xcpy_in a b | (simp (disch := decide) only [xup_ne, xcpy_o]; exact xcpy_in a b)

theorem U_254_b {X : Int × (Int → Int)} {d : Nat} {Q : Int → XH → Prop} (hd : 1 ≤ d) (H : XH) (h : (∀ k, 0 ≤ k → k < 64 → 0 ≤ (xcpy H 22 3 0 0 320) 23 k ∧ (xcpy H 22 3 0 0 320) 23 k ≤ 1) ∧ ((∀ k, 0 ≤ k → k < 64 → 0 ≤ (xcpy (xcpy (xcpy H 22 3 0 0 320) 23 4 0 0 64) 24 5 0 0 64) 25 k ∧ (xcpy (xcpy (xcpy H 22 3 0 0 320) 23 4 0 0 64) 24 5 0 0 64) 25 k ≤ 1) ∧ (Q 0 (xup (xcpy (xcpy (xcpy (xcpy H 22 3 0 0 320) 23 4 0 0 64) 24 5 0 0 64) 25 6 0 0 64) 2 7 (H 21 7))))) : xc X (d + 1) 254 [(2, 2), (2, 21)] H Q := by
  refine ⟨rfl, ?_⟩
  show xq X d 254 Q 100000 [(0, (2, 2)), (1, (2, 21))] [] H
  refine xq_run [27, 53] 300 ?_
  show (xTy xKZ 22 = 1 ∧ xTy xKZ 3 = 1 ∧ 0 ≤ 0 ∧ 0 ≤ 0 ∧ 0 ≤ 320 ∧ 0 + 320 ≤ xLen xKZ 22 ∧ 0 + 320 ≤ xLen xKZ 3) ∧ xWM (xE X) xMC d 253 [(2, 23), (2, 4)] xKZ (xcpy H 22 3 0 0 320) _
  refine ⟨⟨by decide, by decide, by decide, by decide, by decide, by decide, by decide⟩, ?_⟩
  refine xc_in (s_253_23 (by omega) (xcpy H 22 3 0 0 320) (h.1) ?_)
  replace h := h.2
  show xq X d 254 Q 27 [(0, (2, 2)), (1, (2, 21))] [] (xcpy (xcpy H 22 3 0 0 320) 23 4 0 0 64)
  refine xq_run [27, 53] 300 ?_
  show (xTy xKZ 24 = 1 ∧ xTy xKZ 5 = 1 ∧ 0 ≤ 0 ∧ 0 ≤ 0 ∧ 0 ≤ 64 ∧ 0 + 64 ≤ xLen xKZ 24 ∧ 0 + 64 ≤ xLen xKZ 5) ∧ xWM (xE X) xMC d 253 [(2, 25), (2, 6)] xKZ (xcpy (xcpy (xcpy H 22 3 0 0 320) 23 4 0 0 64) 24 5 0 0 64) _
  refine ⟨⟨by decide, by decide, by decide, by decide, by decide, by decide, by decide⟩, ?_⟩
  refine xc_in (s_253_25 (by omega) (xcpy (xcpy (xcpy H 22 3 0 0 320) 23 4 0 0 64) 24 5 0 0 64) (h.1) ?_)
  replace h := h.2
  show xq X d 254 Q 53 [(0, (2, 2)), (1, (2, 21))] [] (xcpy (xcpy (xcpy (xcpy H 22 3 0 0 320) 23 4 0 0 64) 24 5 0 0 64) 25 6 0 0 64)
  refine xq_run [27, 53] 300 ?_
  show xfR 2 0 ∧ xKZ = xKZ ∧ Q 0 (xup (xcpy (xcpy (xcpy (xcpy H 22 3 0 0 320) 23 4 0 0 64) 24 5 0 0 64) 25 6 0 0 64) 2 7 (H 21 7))
  exact ⟨trivial, rfl, h⟩

theorem s_254_b {X : Int × (Int → Int)} {d : Nat} {Q : Int → XH → Prop} (hd : 2 ≤ d) (H : XH) (p23 : ∀ k, 0 ≤ k → k < 64 → 0 ≤ H 23 k ∧ H 23 k ≤ 1) (p25 : ∀ k, 0 ≤ k → k < 64 → 0 ≤ H 25 k ∧ H 25 k ≤ 1) (hQ : ∀ h1 : XH, (∀ o, ¬ o = 2 → ¬ o = 3 → ¬ o = 4 → ¬ o = 5 → ¬ o = 6 → h1 o = H o) ∧ (∀ k, ¬ k = 7 → h1 2 k = H 2 k) ∧ h1 2 7 = H 21 7 ∧ ccp H h1 22 3 320 ∧ ccp H h1 23 4 64 ∧ ccp H h1 24 5 64 ∧ ccp H h1 25 6 64 → Q 0 h1) : xc X d 254 [(2, 2), (2, 21)] H Q := by
  cases d with
  | zero => omega
  | succ d =>
  refine U_254_b (by omega) H ?_
  refine ⟨?_, ?_⟩
  · first | exact p23 | exact p25 | decide
  refine ⟨?_, ?_⟩
  · first | exact p23 | exact p25 | decide
  refine hQ _ ⟨fun o z0 z1 z2 z3 z4 => ?_, fun k y0 => ?_, ?_, fun k a b => ?_, fun k a b => ?_, fun k a b => ?_, fun k a b => ?_⟩
  · simp (disch := assumption) only [xup_ne, xcpy_o]
  · first | rfl | (simp (disch := first | assumption | decide) only [xcpy_o, xup_k]; done) | (simp (disch := first | assumption | decide) only [xcpy_o, xup_k]; rfl)
  · rfl
  · first | exact xcpy_in a b | (simp (disch := decide) only [xup_ne, xcpy_o]; exact xcpy_in a b)
  · first | exact xcpy_in a b | (simp (disch := decide) only [xup_ne, xcpy_o]; exact xcpy_in a b)
  · first | exact xcpy_in a b | (simp (disch := decide) only [xup_ne, xcpy_o]; exact xcpy_in a b)
  · first | exact xcpy_in a b | (simp (disch := decide) only [xup_ne, xcpy_o]; exact xcpy_in a b)

theorem U_228_b {X : Int × (Int → Int)} {d : Nat} {Q : Int → XH → Prop} (hd : 0 ≤ d) (H : XH) (h : Q 0 (xup (xcpy H 27 8 0 0 40) 7 1 (H 26 1))) : xc X (d + 1) 228 [(2, 7), (2, 26)] H Q := by
  refine ⟨rfl, ?_⟩
  show xq X d 228 Q 100000 [(0, (2, 7)), (1, (2, 26))] [] H
  refine xq_run [] 300 ?_
  show (xTy xKZ 27 = 1 ∧ xTy xKZ 8 = 1 ∧ 0 ≤ 0 ∧ 0 ≤ 0 ∧ 0 ≤ 40 ∧ 0 + 40 ≤ xLen xKZ 27 ∧ 0 + 40 ≤ xLen xKZ 8) ∧ xfR 2 0 ∧ xKZ = xKZ ∧ Q 0 (xup (xcpy H 27 8 0 0 40) 7 1 (H 26 1))
  refine ⟨⟨by decide, by decide, by decide, by decide, by decide, by decide, by decide⟩, ?_⟩
  exact ⟨trivial, rfl, h⟩

theorem s_228_b {X : Int × (Int → Int)} {d : Nat} {Q : Int → XH → Prop} (hd : 2 ≤ d) (H : XH) (hQ : ∀ h1 : XH, (∀ o, ¬ o = 7 → ¬ o = 8 → h1 o = H o) ∧ (∀ k, ¬ k = 1 → h1 7 k = H 7 k) ∧ h1 7 1 = H 26 1 ∧ ccp H h1 27 8 40 → Q 0 h1) : xc X d 228 [(2, 7), (2, 26)] H Q := by
  cases d with
  | zero => omega
  | succ d =>
  refine U_228_b (by omega) H ?_
  refine hQ _ ⟨fun o z0 z1 => ?_, fun k y0 => ?_, ?_, fun k a b => ?_⟩
  · simp (disch := assumption) only [xup_ne, xcpy_o]
  · first | rfl | (simp (disch := first | assumption | decide) only [xcpy_o, xup_k]; done) | (simp (disch := first | assumption | decide) only [xcpy_o, xup_k]; rfl)
  · rfl
  · first | exact xcpy_in a b | (simp (disch := decide) only [xup_ne, xcpy_o]; exact xcpy_in a b)

theorem U_255_b {X : Int × (Int → Int)} {d : Nat} {Q : Int → XH → Prop} (hd : 0 ≤ d) (H : XH) (h : Q 0 (xcpy (xcpy (xup (xup (xup (xup (xup (xup H 9 0 (H 28 0)) 9 1 (H 28 1)) 9 2 (H 28 2)) 9 3 (H 28 3)) 9 4 (H 28 4)) 9 5 (H 28 5)) 29 10 0 0 5) 30 11 0 0 5)) : xc X (d + 1) 255 [(2, 9), (2, 28)] H Q := by
  refine ⟨rfl, ?_⟩
  show xq X d 255 Q 100000 [(0, (2, 9)), (1, (2, 28))] [] H
  refine xq_run [] 300 ?_
  show (xTy xKZ 29 = 1 ∧ xTy xKZ 10 = 1 ∧ 0 ≤ 0 ∧ 0 ≤ 0 ∧ 0 ≤ 5 ∧ 0 + 5 ≤ xLen xKZ 29 ∧ 0 + 5 ≤ xLen xKZ 10) ∧ (xTy xKZ 30 = 1 ∧ xTy xKZ 11 = 1 ∧ 0 ≤ 0 ∧ 0 ≤ 0 ∧ 0 ≤ 5 ∧ 0 + 5 ≤ xLen xKZ 30 ∧ 0 + 5 ≤ xLen xKZ 11) ∧ xfR 2 0 ∧ xKZ = xKZ ∧ Q 0 (xcpy (xcpy (xup (xup (xup (xup (xup (xup H 9 0 (H 28 0)) 9 1 (H 28 1)) 9 2 (H 28 2)) 9 3 (H 28 3)) 9 4 (H 28 4)) 9 5 (H 28 5)) 29 10 0 0 5) 30 11 0 0 5)
  refine ⟨⟨by decide, by decide, by decide, by decide, by decide, by decide, by decide⟩, ?_⟩
  refine ⟨⟨by decide, by decide, by decide, by decide, by decide, by decide, by decide⟩, ?_⟩
  exact ⟨trivial, rfl, h⟩

theorem s_255_b {X : Int × (Int → Int)} {d : Nat} {Q : Int → XH → Prop} (hd : 2 ≤ d) (H : XH) (hQ : ∀ h1 : XH, (∀ o, ¬ o = 9 → ¬ o = 10 → ¬ o = 11 → h1 o = H o) ∧ (∀ k, ¬ k = 0 → ¬ k = 1 → ¬ k = 2 → ¬ k = 3 → ¬ k = 4 → ¬ k = 5 → h1 9 k = H 9 k) ∧ h1 9 0 = H 28 0 ∧ h1 9 1 = H 28 1 ∧ h1 9 2 = H 28 2 ∧ h1 9 3 = H 28 3 ∧ h1 9 4 = H 28 4 ∧ h1 9 5 = H 28 5 ∧ ccp H h1 29 10 5 ∧ ccp H h1 30 11 5 → Q 0 h1) : xc X d 255 [(2, 9), (2, 28)] H Q := by
  cases d with
  | zero => omega
  | succ d =>
  refine U_255_b (by omega) H ?_
  refine hQ _ ⟨fun o z0 z1 z2 => ?_, fun k y0 y1 y2 y3 y4 y5 => ?_, ?_, ?_, ?_, ?_, ?_, ?_, fun k a b => ?_, fun k a b => ?_⟩
  · simp (disch := assumption) only [xup_ne, xcpy_o]
  · first | rfl | (simp (disch := first | assumption | decide) only [xcpy_o, xup_k]; done) | (simp (disch := first | assumption | decide) only [xcpy_o, xup_k]; rfl)
  · rfl
  · rfl
  · rfl
  · rfl
  · rfl
  · rfl
  · first | exact xcpy_in a b | (simp (disch := decide) only [xup_ne, xcpy_o]; exact xcpy_in a b)
  · first | exact xcpy_in a b | (simp (disch := decide) only [xup_ne, xcpy_o]; exact xcpy_in a b)

theorem U_256_b {X : Int × (Int → Int)} {d : Nat} {Q : Int → XH → Prop} (hd : 0 ≤ d) (H : XH) (h : Q 0 (xcpy (xcpy H 32 13 0 0 240) 33 14 0 0 4)) : xc X (d + 1) 256 [(2, 12), (2, 31)] H Q := by
  refine ⟨rfl, ?_⟩
  show xq X d 256 Q 100000 [(0, (2, 12)), (1, (2, 31))] [] H
  refine xq_run [] 300 ?_
  show (xTy xKZ 32 = 1 ∧ xTy xKZ 13 = 1 ∧ 0 ≤ 0 ∧ 0 ≤ 0 ∧ 0 ≤ 240 ∧ 0 + 240 ≤ xLen xKZ 32 ∧ 0 + 240 ≤ xLen xKZ 13) ∧ (xTy xKZ 33 = 1 ∧ xTy xKZ 14 = 1 ∧ 0 ≤ 0 ∧ 0 ≤ 0 ∧ 0 ≤ 4 ∧ 0 + 4 ≤ xLen xKZ 33 ∧ 0 + 4 ≤ xLen xKZ 14) ∧ xfR 2 0 ∧ xKZ = xKZ ∧ Q 0 (xcpy (xcpy H 32 13 0 0 240) 33 14 0 0 4)
  refine ⟨⟨by decide, by decide, by decide, by decide, by decide, by decide, by decide⟩, ?_⟩
  refine ⟨⟨by decide, by decide, by decide, by decide, by decide, by decide, by decide⟩, ?_⟩
  exact ⟨trivial, rfl, h⟩

theorem s_256_b {X : Int × (Int → Int)} {d : Nat} {Q : Int → XH → Prop} (hd : 2 ≤ d) (H : XH) (hQ : ∀ h1 : XH, (∀ o, ¬ o = 12 → ¬ o = 13 → ¬ o = 14 → h1 o = H o) ∧ (∀ k, h1 12 k = H 12 k) ∧ ccp H h1 32 13 240 ∧ ccp H h1 33 14 4 → Q 0 h1) : xc X d 256 [(2, 12), (2, 31)] H Q := by
  cases d with
  | zero => omega
  | succ d =>
  refine U_256_b (by omega) H ?_
  refine hQ _ ⟨fun o z0 z1 z2 => ?_, fun k  => ?_, fun k a b => ?_, fun k a b => ?_⟩
  · simp (disch := assumption) only [xup_ne, xcpy_o]
  · first | rfl | (simp (disch := first | assumption | decide) only [xcpy_o, xup_k]; done) | (simp (disch := first | assumption | decide) only [xcpy_o, xup_k]; rfl)
  · first | exact xcpy_in a b | (simp (disch := decide) only [xup_ne, xcpy_o]; exact xcpy_in a b)
  · first | exact xcpy_in a b | (simp (disch := decide) only [xup_ne, xcpy_o]; exact xcpy_in a b)

theorem U_257_b {X : Int × (Int → Int)} {d : Nat} {Q : Int → XH → Prop} (hd : 1 ≤ d) (H : XH) (h : (∀ k, 0 ≤ k → k < 60 → 0 ≤ (xcpy (xcpy H 35 16 0 0 60) 36 17 0 0 60) 37 k ∧ (xcpy (xcpy H 35 16 0 0 60) 36 17 0 0 60) 37 k ≤ 1) ∧ ((∀ k, 0 ≤ k → k < 60 → 0 ≤ (xcpy (xcpy (xcpy H 35 16 0 0 60) 36 17 0 0 60) 37 18 0 0 60) 38 k ∧ (xcpy (xcpy (xcpy H 35 16 0 0 60) 36 17 0 0 60) 37 18 0 0 60) 38 k ≤ 1) ∧ (Q 0 (xup (xcpy (xcpy (xcpy (xcpy H 35 16 0 0 60) 36 17 0 0 60) 37 18 0 0 60) 38 19 0 0 60) 15 4 (H 34 4))))) : xc X (d + 1) 257 [(2, 15), (2, 34)] H Q := by
  refine ⟨rfl, ?_⟩
  show xq X d 257 Q 100000 [(0, (2, 15)), (1, (2, 34))] [] H
  refine xq_run [41, 52] 300 ?_
  show (xTy xKZ 35 = 1 ∧ xTy xKZ 16 = 1 ∧ 0 ≤ 0 ∧ 0 ≤ 0 ∧ 0 ≤ 60 ∧ 0 + 60 ≤ xLen xKZ 35 ∧ 0 + 60 ≤ xLen xKZ 16) ∧ (xTy xKZ 36 = 1 ∧ xTy xKZ 17 = 1 ∧ 0 ≤ 0 ∧ 0 ≤ 0 ∧ 0 ≤ 60 ∧ 0 + 60 ≤ xLen xKZ 36 ∧ 0 + 60 ≤ xLen xKZ 17) ∧ xWM (xE X) xMC d 253 [(2, 37), (2, 18)] xKZ (xcpy (xcpy H 35 16 0 0 60) 36 17 0 0 60) _
  refine ⟨⟨by decide, by decide, by decide, by decide, by decide, by decide, by decide⟩, ?_⟩
  refine ⟨⟨by decide, by decide, by decide, by decide, by decide, by decide, by decide⟩, ?_⟩
  refine xc_in (s_253_37 (by omega) (xcpy (xcpy H 35 16 0 0 60) 36 17 0 0 60) (h.1) ?_)
  replace h := h.2
  show xq X d 257 Q 41 [(0, (2, 15)), (1, (2, 34))] [] (xcpy (xcpy (xcpy H 35 16 0 0 60) 36 17 0 0 60) 37 18 0 0 60)
  refine xq_run [41, 52] 300 ?_
  show xWM (xE X) xMC d 253 [(2, 38), (2, 19)] xKZ (xcpy (xcpy (xcpy H 35 16 0 0 60) 36 17 0 0 60) 37 18 0 0 60) _
  refine xc_in (s_253_38 (by omega) (xcpy (xcpy (xcpy H 35 16 0 0 60) 36 17 0 0 60) 37 18 0 0 60) (h.1) ?_)
  replace h := h.2
  show xq X d 257 Q 52 [(0, (2, 15)), (1, (2, 34))] [] (xcpy (xcpy (xcpy (xcpy H 35 16 0 0 60) 36 17 0 0 60) 37 18 0 0 60) 38 19 0 0 60)
  refine xq_run [41, 52] 300 ?_
  show xfR 2 0 ∧ xKZ = xKZ ∧ Q 0 (xup (xcpy (xcpy (xcpy (xcpy H 35 16 0 0 60) 36 17 0 0 60) 37 18 0 0 60) 38 19 0 0 60) 15 4 (H 34 4))
  exact ⟨trivial, rfl, h⟩

theorem s_257_b {X : Int × (Int → Int)} {d : Nat} {Q : Int → XH → Prop} (hd : 2 ≤ d) (H : XH) (p37 : ∀ k, 0 ≤ k → k < 60 → 0 ≤ H 37 k ∧ H 37 k ≤ 1) (p38 : ∀ k, 0 ≤ k → k < 60 → 0 ≤ H 38 k ∧ H 38 k ≤ 1) (hQ : ∀ h1 : XH, (∀ o, ¬ o = 15 → ¬ o = 16 → ¬ o = 17 → ¬ o = 18 → ¬ o = 19 → h1 o = H o) ∧ (∀ k, ¬ k = 4 → h1 15 k = H 15 k) ∧ h1 15 4 = H 34 4 ∧ ccp H h1 35 16 60 ∧ ccp H h1 36 17 60 ∧ ccp H h1 37 18 60 ∧ ccp H h1 38 19 60 → Q 0 h1) : xc X d 257 [(2, 15), (2, 34)] H Q := by
  cases d with
  | zero => omega
  | succ d =>
  refine U_257_b (by omega) H ?_
  refine ⟨?_, ?_⟩
  · first | exact p37 | exact p38 | decide
  refine ⟨?_, ?_⟩
  · first | exact p37 | exact p38 | decide
  refine hQ _ ⟨fun o z0 z1 z2 z3 z4 => ?_, fun k y0 => ?_, ?_, fun k a b => ?_, fun k a b => ?_, fun k a b => ?_, fun k a b => ?_⟩
  · simp (disch := assumption) only [xup_ne, xcpy_o]
  · first | rfl | (simp (disch := first | assumption | decide) only [xcpy_o, xup_k]; done) | (simp (disch := first | assumption | decide) only [xcpy_o, xup_k]; rfl)
  · rfl
  · first | exact xcpy_in a b | (simp (disch := decide) only [xup_ne, xcpy_o]; exact xcpy_in a b)
  · first | exact xcpy_in a b | (simp (disch := decide) only [xup_ne, xcpy_o]; exact xcpy_in a b)
  · first | exact xcpy_in a b | (simp (disch := decide) only [xup_ne, xcpy_o]; exact xcpy_in a b)
  · first | exact xcpy_in a b | (simp (disch := decide) only [xup_ne, xcpy_o]; exact xcpy_in a b)

theorem GOk_eq {w n : Int} {g g' : Int → Int} (h : GOk w n g) (hk : ∀ k, ¬ (k < 0 ∨ 1180 ≤ k) → g' k = g k) : GOk w n g' := by
  refine ⟨h.ww,
    h.nn,
    fun e a b => by
      rw [hk _ (by omega)]
      exact h.dgb e a b,
    fun e a b => by
      rw [hk _ (by omega)]
      exact h.ogr e a b,
    Ends_congr (fun e a b => h.ogr e a (by have := h.nn; omega)) (fun e a b => hk _ (by have := h.nn; omega)) h.ogE,
    fun e a b => by
      rw [hk _ (by omega)]
      exact h.brb e a b,
    fun e a b => by
      rw [hk _ (by omega)]
      exact h.amb e a b,
    fun e a b c => by
      rw [hk _ (by omega)] at c
      rw [sum5_congr (f := fun k => g (230 + k)) (fun k x y => hk _ (by omega))]
      exact h.ams e a b c,
    fun e a b => by
      have nn := h.nn
      rw [hk _ (by omega)]
      exact h.dgn e a b,
    by
      rw [hk _ (by omega), sumTo_congr (f := fun e => g (160 + e)) (fun e a b => hk _ (by omega))]
      exact h.dgs,
    by
      rw [hk 1 (by omega)]
      exact h.lyb,
    fun k a b => by
      have y := h.lyb
      rw [hk 1 (by omega)] at b
      rw [hk _ (by omega)]
      exact h.lya k a b,
    fun l a b => by
      have y := h.lyb
      rw [hk 1 (by omega)] at b
      rw [sum5_congr (f := fun k => g (560 + k)) (fun k x y => hk _ (by omega))]
      exact h.lys l a b,
    by
      rw [hk 2 (by omega)]
      exact h.lwb,
    by
      rw [hk 3 (by omega), hk 2 (by omega)]
      exact h.lwt,
    by
      rw [hk 4 (by omega)]
      exact h.vdb,
    fun i a b => by
      have y := h.vdb
      rw [hk 4 (by omega)] at b
      rw [hk _ (by omega), hk (871 + 5 * i) (by omega), hk (872 + 5 * i) (by omega), hk (873 + 5 * i) (by omega), hk (874 + 5 * i) (by omega)]
      exact h.vdi i a b,
    by
      rw [hk 5 (by omega)]
      exact h.stc,
    by
      rw [hk 6 (by omega)]
      exact h.bnd,
    by
      rw [hk 7 (by omega)]
      exact h.pce,
    by
      rw [hk 8 (by omega)]
      exact h.kep,
    by
      rw [hk 9 (by omega)]
      exact h.msg,
    by
      rw [hk 10 (by omega)]
      exact h.odd,
    fun s a b => by
      rw [hk _ (by omega)]
      exact h.flf s a b,
    fun s a b c => by
      rw [hk _ (by omega)] at c
      rw [hk _ (by omega)]
      exact h.flt s a b c,
    fun s a b => by
      rw [hk _ (by omega)]
      exact h.spc s a b,
    fun s k a b c e => by
      have y := h.spc s a b
      rw [hk (610 + s) (by omega)] at e
      rw [hk (620 + (60 * s + 3 * k)) (by omega), hk (621 + (60 * s + 3 * k)) (by omega), hk (622 + (60 * s + 3 * k)) (by omega)]
      exact h.spb s k a b c e⟩

theorem SRel_cp {w n : Int} {L D I O B LY AM RU FF FT SP SC VD LK PL SA KN NW L' D' I' O' B' LY' AM' RU' FF' FT' SP' SC' VD' LK' PL' SA' KN' NW' g g' : Int → Int} (hg : GOk w n g) (h : SRel w n L D I O B LY AM RU FF FT SP SC VD LK PL SA KN NW g) (hk : ∀ k, ¬ (k < 0 ∨ 1180 ≤ k) → g' k = g k) (z0 : L' 0 = w) (z1 : L' 1 * w = n) (z2 : L' 2 = n) (z7 : L' 7 = L 7) (eD : ∀ k, 0 ≤ k → k < 320 → D' k = D k) (eI : ∀ k, 0 ≤ k → k < 64 → I' k = I k) (eO : ∀ k, 0 ≤ k → k < 64 → O' k = O k) (eB : ∀ k, 0 ≤ k → k < 64 → B' k = B k) (eAM : ∀ k, 0 ≤ k → k < 40 → AM' k = AM k) (eFF : ∀ k, 0 ≤ k → k < 5 → FF' k = FF k) (eFT : ∀ k, 0 ≤ k → k < 5 → FT' k = FT k) (eSP : ∀ k, 0 ≤ k → k < 240 → SP' k = SP k) (eSC : ∀ k, 0 ≤ k → k < 4 → SC' k = SC k) (eLK : ∀ k, 0 ≤ k → k < 60 → LK' k = LK k) (ePL : ∀ k, 0 ≤ k → k < 60 → PL' k = PL k) (eSA : ∀ k, 0 ≤ k → k < 60 → SA' k = SA k) (eKN : ∀ k, 0 ≤ k → k < 60 → KN' k = KN k) (eLY : LY' 1 = LY 1) (eRU : ∀ k, 0 ≤ k → k < 6 → RU' k = RU k) (eVD : VD' 4 = VD 4) (eN5 : NW' 5 = NW 5) (eN6 : NW' 6 = NW 6) : SRel w n L' D' I' O' B' LY' AM' RU' FF' FT' SP' SC' VD' LK' PL' SA' KN' NW' g' := by
  have y1 := hg.lyb
  have y4 := hg.vdb
  have k1 : g' 1 = g 1 := hk 1 (by decide)
  have k4 : g' 4 = g 4 := hk 4 (by decide)
  exact ⟨z0,
    z1,
    z2,
    by
      rw [z7, hk 0 (by decide)]
      exact h.l7,
    fun k a b => by
      rw [eD k a b, hk _ (by omega)]
      exact h.d k a b,
    fun k a b => by
      rw [eI k a b, hk _ (by omega)]
      exact h.i k a b,
    fun k a b => by
      rw [eO k a b, hk _ (by omega)]
      exact h.o k a b,
    fun k a b => by
      rw [eB k a b, hk _ (by omega)]
      exact h.b k a b,
    by
      rw [eLY, k1]
      exact h.c,
    fun k a b => by
      rw [k1] at b
      rw [eAM k a (by omega), hk _ (by omega)]
      exact h.am k a b,
    by
      rw [eRU 0 (by decide) (by decide), hk 6 (by decide)]
      exact h.r0,
    by
      rw [eRU 1 (by decide) (by decide), hk 7 (by decide)]
      exact h.r1,
    by
      rw [eRU 2 (by decide) (by decide), hk 8 (by decide)]
      exact h.r2,
    by
      rw [eRU 3 (by decide) (by decide), hk 9 (by decide)]
      exact h.r3,
    by
      rw [eRU 4 (by decide) (by decide), hk 10 (by decide)]
      exact h.r4,
    by
      rw [eRU 5 (by decide) (by decide), hk 5 (by decide)]
      exact h.r5,
    fun k a b => by
      rw [eFF k a b, hk _ (by omega)]
      exact h.ff k a b,
    fun s a b c => by
      rw [hk _ (by omega)] at c
      rw [eFT s a b, hk _ (by omega)]
      exact h.ft s a b c,
    fun k a b => by
      rw [eSP k a b, hk _ (by omega)]
      exact h.sp k a b,
    fun k a b => by
      rw [eSC k a b, hk _ (by omega)]
      exact h.sc k a b,
    by
      rw [eVD, k4]
      exact h.v4,
    fun i a b => by
      rw [k4] at b
      rw [eLK i a (by omega), hk _ (by omega)]
      exact h.lk i a b,
    fun i a b => by
      rw [k4] at b
      rw [ePL i a (by omega), hk _ (by omega), hk (872 + 5 * i) (by omega)]
      exact h.pl i a b,
    fun i a b => by
      rw [k4] at b
      rw [eSA i a (by omega), hk _ (by omega)]
      exact h.sa i a b,
    fun i a b => by
      rw [k4] at b
      rw [eKN i a (by omega), hk _ (by omega)]
      exact h.kn i a b,
    by
      rw [eN5, hk 2 (by decide)]
      exact h.n5,
    by
      rw [eN6, hk 3 (by decide)]
      exact h.n6⟩

theorem U_16_1 {X : Int × (Int → Int)} {d : Nat} {Q : Int → XH → Prop} (hd : 0 ≤ d) (H : XH) (h : xq X d 16 Q 2 [(0, (2, 67)), (1, (0, 1)), (2, (0, 0))] [] H) : xc X (d + 1) 16 [(2, 67), (0, 1)] H Q := by
  refine ⟨rfl, ?_⟩
  show xq X d 16 Q 100000 [(0, (2, 67)), (1, (0, 1))] [] H
  refine xq_run [2] 300 ?_
  show xq X d 16 Q 2 [(0, (2, 67)), (1, (0, 1)), (2, (0, 0))] [] H
  exact h
theorem U_16_2_1 {X : Int × (Int → Int)} {d : Nat} {Q : Int → XH → Prop} (hd : 0 ≤ d) (v1 v2 : Int) (H : XH) (h : ((1180 ≤ v2) → Q 0 H) ∧ (¬ (1180 ≤ v2) → ((v1 = 0) → ((0 : Int) ≤ v2 ∧ (v2 : Int) < 1180) ∧ ((0 : Int) ≤ v2 ∧ (v2 : Int) < 1180) ∧ (xI (v2 + 1)) ∧ xq X d 16 Q 2 [(0, (2, 67)), (1, (0, v1)), (2, (0, v2 + 1))] [] (xup H 68 v2 (H 69 v2))) ∧ (¬ (v1 = 0) → ((0 : Int) ≤ v2 ∧ (v2 : Int) < 1180) ∧ ((0 : Int) ≤ v2 ∧ (v2 : Int) < 1180) ∧ (xI (v2 + 1)) ∧ xq X d 16 Q 2 [(0, (2, 67)), (1, (0, v1)), (2, (0, v2 + 1))] [] (xup H 69 v2 (H 68 v2))))) : xq X d 16 Q 2 [(0, (2, 67)), (1, (0, v1)), (2, (0, v2))] [] H := by
  show xq X d 16 Q 2 [(0, (2, 67)), (1, (0, v1)), (2, (0, v2))] [] H
  refine xq_run [2] 300 ?_
  show ((1180 ≤ v2) → xfR 2 0 ∧ xKZ = xKZ ∧ Q 0 H) ∧ (¬ (1180 ≤ v2) → ((v1 = 0) → ((0 : Int) ≤ v2 ∧ (v2 : Int) < 1180) ∧ ((0 : Int) ≤ v2 ∧ (v2 : Int) < 1180) ∧ (xI (v2 + 1)) ∧ xq X d 16 Q 2 [(0, (2, 67)), (1, (0, v1)), (2, (0, v2 + 1))] [] (xup H 68 v2 (H 69 v2))) ∧ (¬ (v1 = 0) → ((0 : Int) ≤ v2 ∧ (v2 : Int) < 1180) ∧ ((0 : Int) ≤ v2 ∧ (v2 : Int) < 1180) ∧ (xI (v2 + 1)) ∧ xq X d 16 Q 2 [(0, (2, 67)), (1, (0, v1)), (2, (0, v2 + 1))] [] (xup H 69 v2 (H 68 v2))))
  refine ⟨fun k_ => ?_, fun k_ => ?_⟩
  · replace h := h.1 k_
    exact ⟨trivial, rfl, h⟩
  · replace h := h.2 k_
    refine ⟨fun k_ => ?_, fun k_ => ?_⟩
    · replace h := h.1 k_
      refine ⟨h.1, ?_⟩
      replace h := h.2
      refine ⟨h.1, ?_⟩
      replace h := h.2
      refine ⟨h.1, ?_⟩
      replace h := h.2
      exact h
    · replace h := h.2 k_
      refine ⟨h.1, ?_⟩
      replace h := h.2
      refine ⟨h.1, ?_⟩
      replace h := h.2
      refine ⟨h.1, ?_⟩
      replace h := h.2
      exact h

theorem s_16_1 {X : Int × (Int → Int)} {d : Nat} {Q : Int → XH → Prop} (hd : 1 ≤ d) (H : XH) (hQ : Q 0 (xcpy H 68 69 0 0 1180)) : xc X d 16 [(2, 67), (0, 1)] H Q := by
  cases d with
  | zero => omega
  | succ d =>
  refine U_16_1 (by omega) H ?_
  have key : ∀ (k : Nat) (j : Int), 0 ≤ j → j + k = 1180 → xq X d 16 Q 2 [(0, (2, 67)), (1, (0, 1)), (2, (0, j))] [] (xcpy H 68 69 0 0 j) := by
    intro k
    induction k with
    | zero =>
      intro j h0 hj
      refine U_16_2_1 (by omega) 1 j _ ?_
      rw [show j = 1180 by omega]
      refine ⟨fun c1 => ?_, fun c1 => ?_⟩
      · skip
        exact hQ
      · skip
        refine ⟨fun c2 => ?_, fun c2 => ?_⟩
        · skip
          refine ⟨?_, ?_⟩
          · first | omega | (exfalso; omega)
          refine ⟨?_, ?_⟩
          · first | omega | (exfalso; omega)
          refine ⟨?_, ?_⟩
          · first | omega | (exfalso; omega)
          exfalso
          omega
        · skip
          refine ⟨?_, ?_⟩
          · first | omega | (exfalso; omega)
          refine ⟨?_, ?_⟩
          · first | omega | (exfalso; omega)
          refine ⟨?_, ?_⟩
          · first | omega | (exfalso; omega)
          exfalso
          omega
    | succ k ih =>
      intro j h0 hj
      have nx := ih (j + 1) (by omega) (by omega)
      rw [← xcpy_up (by decide) h0] at nx
      refine U_16_2_1 (by omega) 1 j _ ?_
      refine ⟨fun c1 => ?_, fun c1 => ?_⟩
      · skip
        exfalso
        omega
      · skip
        refine ⟨fun c2 => ?_, fun c2 => ?_⟩
        · skip
          refine ⟨?_, ?_⟩
          · first | omega | (unfold xI; omega) | (exfalso; omega)
          refine ⟨?_, ?_⟩
          · first | omega | (unfold xI; omega) | (exfalso; omega)
          refine ⟨?_, ?_⟩
          · first | omega | (unfold xI; omega) | (exfalso; omega)
          exfalso
          omega
        · skip
          refine ⟨?_, ?_⟩
          · first | omega | (unfold xI; omega) | (exfalso; omega)
          refine ⟨?_, ?_⟩
          · first | omega | (unfold xI; omega) | (exfalso; omega)
          refine ⟨?_, ?_⟩
          · first | omega | (unfold xI; omega) | (exfalso; omega)
          exact nx
  have z := key 1180 0 (by omega) (by omega)
  rw [xcpy_0] at z
  exact z

theorem U_16_0 {X : Int × (Int → Int)} {d : Nat} {Q : Int → XH → Prop} (hd : 0 ≤ d) (H : XH) (h : xq X d 16 Q 2 [(0, (2, 67)), (1, (0, 0)), (2, (0, 0))] [] H) : xc X (d + 1) 16 [(2, 67), (0, 0)] H Q := by
  refine ⟨rfl, ?_⟩
  show xq X d 16 Q 100000 [(0, (2, 67)), (1, (0, 0))] [] H
  refine xq_run [2] 300 ?_
  show xq X d 16 Q 2 [(0, (2, 67)), (1, (0, 0)), (2, (0, 0))] [] H
  exact h
theorem U_16_2_0 {X : Int × (Int → Int)} {d : Nat} {Q : Int → XH → Prop} (hd : 0 ≤ d) (v1 v2 : Int) (H : XH) (h : ((1180 ≤ v2) → Q 0 H) ∧ (¬ (1180 ≤ v2) → ((v1 = 0) → ((0 : Int) ≤ v2 ∧ (v2 : Int) < 1180) ∧ ((0 : Int) ≤ v2 ∧ (v2 : Int) < 1180) ∧ (xI (v2 + 1)) ∧ xq X d 16 Q 2 [(0, (2, 67)), (1, (0, v1)), (2, (0, v2 + 1))] [] (xup H 68 v2 (H 69 v2))) ∧ (¬ (v1 = 0) → ((0 : Int) ≤ v2 ∧ (v2 : Int) < 1180) ∧ ((0 : Int) ≤ v2 ∧ (v2 : Int) < 1180) ∧ (xI (v2 + 1)) ∧ xq X d 16 Q 2 [(0, (2, 67)), (1, (0, v1)), (2, (0, v2 + 1))] [] (xup H 69 v2 (H 68 v2))))) : xq X d 16 Q 2 [(0, (2, 67)), (1, (0, v1)), (2, (0, v2))] [] H := by
  show xq X d 16 Q 2 [(0, (2, 67)), (1, (0, v1)), (2, (0, v2))] [] H
  refine xq_run [2] 300 ?_
  show ((1180 ≤ v2) → xfR 2 0 ∧ xKZ = xKZ ∧ Q 0 H) ∧ (¬ (1180 ≤ v2) → ((v1 = 0) → ((0 : Int) ≤ v2 ∧ (v2 : Int) < 1180) ∧ ((0 : Int) ≤ v2 ∧ (v2 : Int) < 1180) ∧ (xI (v2 + 1)) ∧ xq X d 16 Q 2 [(0, (2, 67)), (1, (0, v1)), (2, (0, v2 + 1))] [] (xup H 68 v2 (H 69 v2))) ∧ (¬ (v1 = 0) → ((0 : Int) ≤ v2 ∧ (v2 : Int) < 1180) ∧ ((0 : Int) ≤ v2 ∧ (v2 : Int) < 1180) ∧ (xI (v2 + 1)) ∧ xq X d 16 Q 2 [(0, (2, 67)), (1, (0, v1)), (2, (0, v2 + 1))] [] (xup H 69 v2 (H 68 v2))))
  refine ⟨fun k_ => ?_, fun k_ => ?_⟩
  · replace h := h.1 k_
    exact ⟨trivial, rfl, h⟩
  · replace h := h.2 k_
    refine ⟨fun k_ => ?_, fun k_ => ?_⟩
    · replace h := h.1 k_
      refine ⟨h.1, ?_⟩
      replace h := h.2
      refine ⟨h.1, ?_⟩
      replace h := h.2
      refine ⟨h.1, ?_⟩
      replace h := h.2
      exact h
    · replace h := h.2 k_
      refine ⟨h.1, ?_⟩
      replace h := h.2
      refine ⟨h.1, ?_⟩
      replace h := h.2
      refine ⟨h.1, ?_⟩
      replace h := h.2
      exact h

theorem s_16_0 {X : Int × (Int → Int)} {d : Nat} {Q : Int → XH → Prop} (hd : 1 ≤ d) (H : XH) (hQ : Q 0 (xcpy H 69 68 0 0 1180)) : xc X d 16 [(2, 67), (0, 0)] H Q := by
  cases d with
  | zero => omega
  | succ d =>
  refine U_16_0 (by omega) H ?_
  have key : ∀ (k : Nat) (j : Int), 0 ≤ j → j + k = 1180 → xq X d 16 Q 2 [(0, (2, 67)), (1, (0, 0)), (2, (0, j))] [] (xcpy H 69 68 0 0 j) := by
    intro k
    induction k with
    | zero =>
      intro j h0 hj
      refine U_16_2_0 (by omega) 0 j _ ?_
      rw [show j = 1180 by omega]
      refine ⟨fun c1 => ?_, fun c1 => ?_⟩
      · skip
        exact hQ
      · skip
        refine ⟨fun c2 => ?_, fun c2 => ?_⟩
        · skip
          refine ⟨?_, ?_⟩
          · first | omega | (exfalso; omega)
          refine ⟨?_, ?_⟩
          · first | omega | (exfalso; omega)
          refine ⟨?_, ?_⟩
          · first | omega | (exfalso; omega)
          exfalso
          omega
        · skip
          refine ⟨?_, ?_⟩
          · first | omega | (exfalso; omega)
          refine ⟨?_, ?_⟩
          · first | omega | (exfalso; omega)
          refine ⟨?_, ?_⟩
          · first | omega | (exfalso; omega)
          exfalso
          omega
    | succ k ih =>
      intro j h0 hj
      have nx := ih (j + 1) (by omega) (by omega)
      rw [← xcpy_up (by decide) h0] at nx
      refine U_16_2_0 (by omega) 0 j _ ?_
      refine ⟨fun c1 => ?_, fun c1 => ?_⟩
      · skip
        exfalso
        omega
      · skip
        refine ⟨fun c2 => ?_, fun c2 => ?_⟩
        · skip
          refine ⟨?_, ?_⟩
          · first | omega | (unfold xI; omega) | (exfalso; omega)
          refine ⟨?_, ?_⟩
          · first | omega | (unfold xI; omega) | (exfalso; omega)
          refine ⟨?_, ?_⟩
          · first | omega | (unfold xI; omega) | (exfalso; omega)
          exact nx
        · skip
          refine ⟨?_, ?_⟩
          · first | omega | (unfold xI; omega) | (exfalso; omega)
          refine ⟨?_, ?_⟩
          · first | omega | (unfold xI; omega) | (exfalso; omega)
          refine ⟨?_, ?_⟩
          · first | omega | (unfold xI; omega) | (exfalso; omega)
          exfalso
          omega
  have z := key 1180 0 (by omega) (by omega)
  rw [xcpy_0] at z
  exact z

/-- flags are flags -/
def InvB (H : XH) : Prop := ∀ k, 0 ≤ k → k < 60 → boF (H 18 k) ∧ boF (H 19 k) ∧ boF (H 37 k) ∧ boF (H 38 k)
/-- the image is what is now; all else is as it was -/
def imOk (H : XH) (r r' : Int) (H' : XH) : Prop := r' = r ∧ InvK H' ∧ InvB H' ∧ H' 69 2 = H 68 2 ∧ ∀ o, ¬ (20 ≤ o ∧ o ≤ 38) → ¬ o = 69 → H' o = H o
def baOk (H : XH) (r r' : Int) (H' : XH) : Prop := r' = r ∧ InvS H' ∧ InvB H' ∧ H' 68 2 = H 69 2 ∧ ∀ o, ¬ (1 ≤ o ∧ o ≤ 19) → ¬ o = 68 → H' o = H o

theorem U_258_i {X : Int × (Int → Int)} {d : Nat} {Q : Int → XH → Prop} (hd : 2 ≤ d) (H : XH) (h : (∀ k, 0 ≤ k → k < 64 → 0 ≤ H 4 k ∧ H 4 k ≤ 1) ∧ (∀ k, 0 ≤ k → k < 64 → 0 ≤ H 6 k ∧ H 6 k ≤ 1) ∧ (∀ (h149 : XH), ((∀ o, ¬ o = 21 → ¬ o = 22 → ¬ o = 23 → ¬ o = 24 → ¬ o = 25 → h149 o = H o) ∧ (∀ k, ¬ k = 7 → h149 21 k = H 21 k) ∧ h149 21 7 = H 2 7 ∧ ccp H h149 3 22 320 ∧ ccp H h149 4 23 64 ∧ ccp H h149 5 24 64 ∧ ccp H h149 6 25 64) → (∀ (h150 : XH), ((∀ o, ¬ o = 26 → ¬ o = 27 → h150 o = h149 o) ∧ (∀ k, ¬ k = 1 → h150 26 k = h149 26 k) ∧ h150 26 1 = h149 7 1 ∧ ccp h149 h150 8 27 40) → (∀ (h151 : XH), ((∀ o, ¬ o = 28 → ¬ o = 29 → ¬ o = 30 → h151 o = h150 o) ∧ (∀ k, ¬ k = 0 → ¬ k = 1 → ¬ k = 2 → ¬ k = 3 → ¬ k = 4 → ¬ k = 5 → h151 28 k = h150 28 k) ∧ h151 28 0 = h150 9 0 ∧ h151 28 1 = h150 9 1 ∧ h151 28 2 = h150 9 2 ∧ h151 28 3 = h150 9 3 ∧ h151 28 4 = h150 9 4 ∧ h151 28 5 = h150 9 5 ∧ ccp h150 h151 10 29 5 ∧ ccp h150 h151 11 30 5) → (∀ (h152 : XH), ((∀ o, ¬ o = 31 → ¬ o = 32 → ¬ o = 33 → h152 o = h151 o) ∧ (∀ k, h152 31 k = h151 31 k) ∧ ccp h151 h152 13 32 240 ∧ ccp h151 h152 14 33 4) → (∀ k, 0 ≤ k → k < 60 → 0 ≤ h152 18 k ∧ h152 18 k ≤ 1) ∧ (∀ k, 0 ≤ k → k < 60 → 0 ≤ h152 19 k ∧ h152 19 k ≤ 1) ∧ (∀ (h153 : XH), ((∀ o, ¬ o = 34 → ¬ o = 35 → ¬ o = 36 → ¬ o = 37 → ¬ o = 38 → h153 o = h152 o) ∧ (∀ k, ¬ k = 4 → h153 34 k = h152 34 k) ∧ h153 34 4 = h152 15 4 ∧ ccp h152 h153 16 35 60 ∧ ccp h152 h153 17 36 60 ∧ ccp h152 h153 18 37 60 ∧ ccp h152 h153 19 38 60) → Q 0 (xup (xup h153 20 5 (h153 1 5)) 20 6 (h153 1 6)))))))) : xc X (d + 1) 258 [(2, 20), (2, 1)] H Q := by
  refine ⟨rfl, ?_⟩
  show xq X d 258 Q 100000 [(0, (2, 20)), (1, (2, 1))] [] H
  refine xq_run [11, 22, 33, 44, 55] 300 ?_
  show xWM (xE X) xMC d 254 [(2, 21), (2, 2)] xKZ H _
  refine xc_in (s_254_i (by omega) H (h.1) (h.2.1) ?_)
  intro h149 q_0
  replace h := h.2.2 h149 q_0
  show xq X d 258 Q 11 [(0, (2, 20)), (1, (2, 1))] [] h149
  refine xq_run [11, 22, 33, 44, 55] 300 ?_
  show xWM (xE X) xMC d 228 [(2, 26), (2, 7)] xKZ h149 _
  refine xc_in (s_228_i (by omega) h149  ?_)
  intro h150 q_0
  replace h := h h150 q_0
  show xq X d 258 Q 22 [(0, (2, 20)), (1, (2, 1))] [] h150
  refine xq_run [11, 22, 33, 44, 55] 300 ?_
  show xWM (xE X) xMC d 255 [(2, 28), (2, 9)] xKZ h150 _
  refine xc_in (s_255_i (by omega) h150  ?_)
  intro h151 q_0
  replace h := h h151 q_0
  show xq X d 258 Q 33 [(0, (2, 20)), (1, (2, 1))] [] h151
  refine xq_run [11, 22, 33, 44, 55] 300 ?_
  show xWM (xE X) xMC d 256 [(2, 31), (2, 12)] xKZ h151 _
  refine xc_in (s_256_i (by omega) h151  ?_)
  intro h152 q_0
  replace h := h h152 q_0
  show xq X d 258 Q 44 [(0, (2, 20)), (1, (2, 1))] [] h152
  refine xq_run [11, 22, 33, 44, 55] 300 ?_
  show xWM (xE X) xMC d 257 [(2, 34), (2, 15)] xKZ h152 _
  refine xc_in (s_257_i (by omega) h152 (h.1) (h.2.1) ?_)
  intro h153 q_0
  replace h := h.2.2 h153 q_0
  show xq X d 258 Q 55 [(0, (2, 20)), (1, (2, 1))] [] h153
  refine xq_run [11, 22, 33, 44, 55] 300 ?_
  show xfR 2 0 ∧ xKZ = xKZ ∧ Q 0 (xup (xup h153 20 5 (h153 1 5)) 20 6 (h153 1 6))
  exact ⟨trivial, rfl, h⟩

theorem s_258_i {X : Int × (Int → Int)} {d : Nat} {Q : Int → XH → Prop} (hd : 3 ≤ d) (H : XH) (p4 : ∀ k, 0 ≤ k → k < 64 → 0 ≤ H 4 k ∧ H 4 k ≤ 1) (p6 : ∀ k, 0 ≤ k → k < 64 → 0 ≤ H 6 k ∧ H 6 k ≤ 1) (p18 : ∀ k, 0 ≤ k → k < 60 → 0 ≤ H 18 k ∧ H 18 k ≤ 1) (p19 : ∀ k, 0 ≤ k → k < 60 → 0 ≤ H 19 k ∧ H 19 k ≤ 1) (hQ : ∀ h1 : XH, (∀ o, ¬ (20 ≤ o ∧ o ≤ 38) → h1 o = H o) ∧ (∀ k, ¬ k = 7 → h1 21 k = H 21 k) ∧ h1 21 7 = H 2 7 ∧ ccp H h1 3 22 320 ∧ ccp H h1 4 23 64 ∧ ccp H h1 5 24 64 ∧ ccp H h1 6 25 64 ∧ ccp H h1 8 27 40 ∧ ccp H h1 10 29 5 ∧ ccp H h1 11 30 5 ∧ ccp H h1 13 32 240 ∧ ccp H h1 14 33 4 ∧ ccp H h1 16 35 60 ∧ ccp H h1 17 36 60 ∧ ccp H h1 18 37 60 ∧ ccp H h1 19 38 60 ∧ h1 26 1 = H 7 1 ∧ ccp H h1 9 28 6 ∧ h1 34 4 = H 15 4 ∧ h1 20 5 = H 1 5 ∧ h1 20 6 = H 1 6 → Q 0 h1) : xc X d 258 [(2, 20), (2, 1)] H Q := by
  cases d with
  | zero => omega
  | succ d =>
  refine U_258_i (by omega) H ?_
  refine ⟨?_, ?_⟩
  · exact p4
  refine ⟨?_, ?_⟩
  · exact p6
  intro h154 c1
  have k1 := c1
  intro h155 c2
  have k2 := c2
  intro h156 c3
  have k3 := c3
  intro h157 c4
  have k4 := c4
  refine ⟨?_, ?_⟩
  · rw [k4.1 18 (by decide) (by decide) (by decide), k3.1 18 (by decide) (by decide) (by decide), k2.1 18 (by decide) (by decide), k1.1 18 (by decide) (by decide) (by decide) (by decide) (by decide)]
    exact p18
  refine ⟨?_, ?_⟩
  · rw [k4.1 19 (by decide) (by decide) (by decide), k3.1 19 (by decide) (by decide) (by decide), k2.1 19 (by decide) (by decide), k1.1 19 (by decide) (by decide) (by decide) (by decide) (by decide)]
    exact p19
  intro h158 c5
  have k5 := c5
  have e1 : ∀ o, ¬ o = 21 → ¬ o = 22 → ¬ o = 23 → ¬ o = 24 → ¬ o = 25 → h154 o = H o := fun o a21 a22 a23 a24 a25 => k1.1 o a21 a22 a23 a24 a25
  have e2 : ∀ o, ¬ o = 26 → ¬ o = 27 → h155 o = h154 o := fun o a26 a27 => k2.1 o a26 a27
  have e3 : ∀ o, ¬ o = 28 → ¬ o = 29 → ¬ o = 30 → h156 o = h155 o := fun o a28 a29 a30 => k3.1 o a28 a29 a30
  have e4 : ∀ o, ¬ o = 31 → ¬ o = 32 → ¬ o = 33 → h157 o = h156 o := fun o a31 a32 a33 => k4.1 o a31 a32 a33
  have e5 : ∀ o, ¬ o = 34 → ¬ o = 35 → ¬ o = 36 → ¬ o = 37 → ¬ o = 38 → h158 o = h157 o := fun o a34 a35 a36 a37 a38 => k5.1 o a34 a35 a36 a37 a38
  refine hQ _ ⟨?_, ?_, ?_, ?_, ?_, ?_, ?_, ?_, ?_, ?_, ?_, ?_, ?_, ?_, ?_, ?_, ?_, ?_, ?_, ?_, ?_⟩
  · intro o z
    rw [xup_ne (by omega), xup_ne (by omega), e5 o (by omega) (by omega) (by omega) (by omega) (by omega), e4 o (by omega) (by omega) (by omega), e3 o (by omega) (by omega) (by omega), e2 o (by omega) (by omega), e1 o (by omega) (by omega) (by omega) (by omega) (by omega)]
  · intro k z
    rw [xup_ne (by decide), xup_ne (by decide), e5 21 (by decide) (by decide) (by decide) (by decide) (by decide), e4 21 (by decide) (by decide) (by decide), e3 21 (by decide) (by decide) (by decide), e2 21 (by decide) (by decide)]
    exact k1.2.1 k z
  · rw [xup_ne (by decide), xup_ne (by decide), e5 21 (by decide) (by decide) (by decide) (by decide) (by decide), e4 21 (by decide) (by decide) (by decide), e3 21 (by decide) (by decide) (by decide), e2 21 (by decide) (by decide)]
    exact k1.2.2.1
  · intro k a b
    rw [xup_ne (by decide), xup_ne (by decide), e5 22 (by decide) (by decide) (by decide) (by decide) (by decide), e4 22 (by decide) (by decide) (by decide), e3 22 (by decide) (by decide) (by decide), e2 22 (by decide) (by decide), k1.2.2.2.1 k a b]
  · intro k a b
    rw [xup_ne (by decide), xup_ne (by decide), e5 23 (by decide) (by decide) (by decide) (by decide) (by decide), e4 23 (by decide) (by decide) (by decide), e3 23 (by decide) (by decide) (by decide), e2 23 (by decide) (by decide), k1.2.2.2.2.1 k a b]
  · intro k a b
    rw [xup_ne (by decide), xup_ne (by decide), e5 24 (by decide) (by decide) (by decide) (by decide) (by decide), e4 24 (by decide) (by decide) (by decide), e3 24 (by decide) (by decide) (by decide), e2 24 (by decide) (by decide), k1.2.2.2.2.2.1 k a b]
  · intro k a b
    rw [xup_ne (by decide), xup_ne (by decide), e5 25 (by decide) (by decide) (by decide) (by decide) (by decide), e4 25 (by decide) (by decide) (by decide), e3 25 (by decide) (by decide) (by decide), e2 25 (by decide) (by decide), k1.2.2.2.2.2.2 k a b]
  · intro k a b
    rw [xup_ne (by decide), xup_ne (by decide), e5 27 (by decide) (by decide) (by decide) (by decide) (by decide), e4 27 (by decide) (by decide) (by decide), e3 27 (by decide) (by decide) (by decide), k2.2.2.2 k a b, e1 8 (by decide) (by decide) (by decide) (by decide) (by decide)]
  · intro k a b
    rw [xup_ne (by decide), xup_ne (by decide), e5 29 (by decide) (by decide) (by decide) (by decide) (by decide), e4 29 (by decide) (by decide) (by decide), k3.2.2.2.2.2.2.2.2.1 k a b, e2 10 (by decide) (by decide), e1 10 (by decide) (by decide) (by decide) (by decide) (by decide)]
  · intro k a b
    rw [xup_ne (by decide), xup_ne (by decide), e5 30 (by decide) (by decide) (by decide) (by decide) (by decide), e4 30 (by decide) (by decide) (by decide), k3.2.2.2.2.2.2.2.2.2 k a b, e2 11 (by decide) (by decide), e1 11 (by decide) (by decide) (by decide) (by decide) (by decide)]
  · intro k a b
    rw [xup_ne (by decide), xup_ne (by decide), e5 32 (by decide) (by decide) (by decide) (by decide) (by decide), k4.2.2.1 k a b, e3 13 (by decide) (by decide) (by decide), e2 13 (by decide) (by decide), e1 13 (by decide) (by decide) (by decide) (by decide) (by decide)]
  · intro k a b
    rw [xup_ne (by decide), xup_ne (by decide), e5 33 (by decide) (by decide) (by decide) (by decide) (by decide), k4.2.2.2 k a b, e3 14 (by decide) (by decide) (by decide), e2 14 (by decide) (by decide), e1 14 (by decide) (by decide) (by decide) (by decide) (by decide)]
  · intro k a b
    rw [xup_ne (by decide), xup_ne (by decide), k5.2.2.2.1 k a b, e4 16 (by decide) (by decide) (by decide), e3 16 (by decide) (by decide) (by decide), e2 16 (by decide) (by decide), e1 16 (by decide) (by decide) (by decide) (by decide) (by decide)]
  · intro k a b
    rw [xup_ne (by decide), xup_ne (by decide), k5.2.2.2.2.1 k a b, e4 17 (by decide) (by decide) (by decide), e3 17 (by decide) (by decide) (by decide), e2 17 (by decide) (by decide), e1 17 (by decide) (by decide) (by decide) (by decide) (by decide)]
  · intro k a b
    rw [xup_ne (by decide), xup_ne (by decide), k5.2.2.2.2.2.1 k a b, e4 18 (by decide) (by decide) (by decide), e3 18 (by decide) (by decide) (by decide), e2 18 (by decide) (by decide), e1 18 (by decide) (by decide) (by decide) (by decide) (by decide)]
  · intro k a b
    rw [xup_ne (by decide), xup_ne (by decide), k5.2.2.2.2.2.2 k a b, e4 19 (by decide) (by decide) (by decide), e3 19 (by decide) (by decide) (by decide), e2 19 (by decide) (by decide), e1 19 (by decide) (by decide) (by decide) (by decide) (by decide)]
  · rw [xup_ne (by decide), xup_ne (by decide), e5 26 (by decide) (by decide) (by decide) (by decide) (by decide), e4 26 (by decide) (by decide) (by decide), e3 26 (by decide) (by decide) (by decide), k2.2.2.1, e1 7 (by decide) (by decide) (by decide) (by decide) (by decide)]
  · intro k a b
    rcases (show k = 0 ∨ k = 1 ∨ k = 2 ∨ k = 3 ∨ k = 4 ∨ k = 5 by omega) with q | q | q | q | q | q <;> subst q
    · rw [xup_ne (by decide), xup_ne (by decide), e5 28 (by decide) (by decide) (by decide) (by decide) (by decide), e4 28 (by decide) (by decide) (by decide), k3.2.2.1, e2 9 (by decide) (by decide), e1 9 (by decide) (by decide) (by decide) (by decide) (by decide)]
    · rw [xup_ne (by decide), xup_ne (by decide), e5 28 (by decide) (by decide) (by decide) (by decide) (by decide), e4 28 (by decide) (by decide) (by decide), k3.2.2.2.1, e2 9 (by decide) (by decide), e1 9 (by decide) (by decide) (by decide) (by decide) (by decide)]
    · rw [xup_ne (by decide), xup_ne (by decide), e5 28 (by decide) (by decide) (by decide) (by decide) (by decide), e4 28 (by decide) (by decide) (by decide), k3.2.2.2.2.1, e2 9 (by decide) (by decide), e1 9 (by decide) (by decide) (by decide) (by decide) (by decide)]
    · rw [xup_ne (by decide), xup_ne (by decide), e5 28 (by decide) (by decide) (by decide) (by decide) (by decide), e4 28 (by decide) (by decide) (by decide), k3.2.2.2.2.2.1, e2 9 (by decide) (by decide), e1 9 (by decide) (by decide) (by decide) (by decide) (by decide)]
    · rw [xup_ne (by decide), xup_ne (by decide), e5 28 (by decide) (by decide) (by decide) (by decide) (by decide), e4 28 (by decide) (by decide) (by decide), k3.2.2.2.2.2.2.1, e2 9 (by decide) (by decide), e1 9 (by decide) (by decide) (by decide) (by decide) (by decide)]
    · rw [xup_ne (by decide), xup_ne (by decide), e5 28 (by decide) (by decide) (by decide) (by decide) (by decide), e4 28 (by decide) (by decide) (by decide), k3.2.2.2.2.2.2.2.1, e2 9 (by decide) (by decide), e1 9 (by decide) (by decide) (by decide) (by decide) (by decide)]
  · rw [xup_ne (by decide), xup_ne (by decide), k5.2.2.1, e4 15 (by decide) (by decide) (by decide), e3 15 (by decide) (by decide) (by decide), e2 15 (by decide) (by decide), e1 15 (by decide) (by decide) (by decide) (by decide) (by decide)]
  · rw [xup_k (by decide), xup_self, e5 1 (by decide) (by decide) (by decide) (by decide) (by decide), e4 1 (by decide) (by decide) (by decide), e3 1 (by decide) (by decide) (by decide), e2 1 (by decide) (by decide), e1 1 (by decide) (by decide) (by decide) (by decide) (by decide)]
  · rw [xup_self, e5 1 (by decide) (by decide) (by decide) (by decide) (by decide), e4 1 (by decide) (by decide) (by decide), e3 1 (by decide) (by decide) (by decide), e2 1 (by decide) (by decide), e1 1 (by decide) (by decide) (by decide) (by decide) (by decide)]

theorem U_258_b {X : Int × (Int → Int)} {d : Nat} {Q : Int → XH → Prop} (hd : 2 ≤ d) (H : XH) (h : (∀ k, 0 ≤ k → k < 64 → 0 ≤ H 23 k ∧ H 23 k ≤ 1) ∧ (∀ k, 0 ≤ k → k < 64 → 0 ≤ H 25 k ∧ H 25 k ≤ 1) ∧ (∀ (h159 : XH), ((∀ o, ¬ o = 2 → ¬ o = 3 → ¬ o = 4 → ¬ o = 5 → ¬ o = 6 → h159 o = H o) ∧ (∀ k, ¬ k = 7 → h159 2 k = H 2 k) ∧ h159 2 7 = H 21 7 ∧ ccp H h159 22 3 320 ∧ ccp H h159 23 4 64 ∧ ccp H h159 24 5 64 ∧ ccp H h159 25 6 64) → (∀ (h160 : XH), ((∀ o, ¬ o = 7 → ¬ o = 8 → h160 o = h159 o) ∧ (∀ k, ¬ k = 1 → h160 7 k = h159 7 k) ∧ h160 7 1 = h159 26 1 ∧ ccp h159 h160 27 8 40) → (∀ (h161 : XH), ((∀ o, ¬ o = 9 → ¬ o = 10 → ¬ o = 11 → h161 o = h160 o) ∧ (∀ k, ¬ k = 0 → ¬ k = 1 → ¬ k = 2 → ¬ k = 3 → ¬ k = 4 → ¬ k = 5 → h161 9 k = h160 9 k) ∧ h161 9 0 = h160 28 0 ∧ h161 9 1 = h160 28 1 ∧ h161 9 2 = h160 28 2 ∧ h161 9 3 = h160 28 3 ∧ h161 9 4 = h160 28 4 ∧ h161 9 5 = h160 28 5 ∧ ccp h160 h161 29 10 5 ∧ ccp h160 h161 30 11 5) → (∀ (h162 : XH), ((∀ o, ¬ o = 12 → ¬ o = 13 → ¬ o = 14 → h162 o = h161 o) ∧ (∀ k, h162 12 k = h161 12 k) ∧ ccp h161 h162 32 13 240 ∧ ccp h161 h162 33 14 4) → (∀ k, 0 ≤ k → k < 60 → 0 ≤ h162 37 k ∧ h162 37 k ≤ 1) ∧ (∀ k, 0 ≤ k → k < 60 → 0 ≤ h162 38 k ∧ h162 38 k ≤ 1) ∧ (∀ (h163 : XH), ((∀ o, ¬ o = 15 → ¬ o = 16 → ¬ o = 17 → ¬ o = 18 → ¬ o = 19 → h163 o = h162 o) ∧ (∀ k, ¬ k = 4 → h163 15 k = h162 15 k) ∧ h163 15 4 = h162 34 4 ∧ ccp h162 h163 35 16 60 ∧ ccp h162 h163 36 17 60 ∧ ccp h162 h163 37 18 60 ∧ ccp h162 h163 38 19 60) → Q 0 (xup (xup h163 1 5 (h163 20 5)) 1 6 (h163 20 6)))))))) : xc X (d + 1) 258 [(2, 1), (2, 20)] H Q := by
  refine ⟨rfl, ?_⟩
  show xq X d 258 Q 100000 [(0, (2, 1)), (1, (2, 20))] [] H
  refine xq_run [11, 22, 33, 44, 55] 300 ?_
  show xWM (xE X) xMC d 254 [(2, 2), (2, 21)] xKZ H _
  refine xc_in (s_254_b (by omega) H (h.1) (h.2.1) ?_)
  intro h159 q_0
  replace h := h.2.2 h159 q_0
  show xq X d 258 Q 11 [(0, (2, 1)), (1, (2, 20))] [] h159
  refine xq_run [11, 22, 33, 44, 55] 300 ?_
  show xWM (xE X) xMC d 228 [(2, 7), (2, 26)] xKZ h159 _
  refine xc_in (s_228_b (by omega) h159  ?_)
  intro h160 q_0
  replace h := h h160 q_0
  show xq X d 258 Q 22 [(0, (2, 1)), (1, (2, 20))] [] h160
  refine xq_run [11, 22, 33, 44, 55] 300 ?_
  show xWM (xE X) xMC d 255 [(2, 9), (2, 28)] xKZ h160 _
  refine xc_in (s_255_b (by omega) h160  ?_)
  intro h161 q_0
  replace h := h h161 q_0
  show xq X d 258 Q 33 [(0, (2, 1)), (1, (2, 20))] [] h161
  refine xq_run [11, 22, 33, 44, 55] 300 ?_
  show xWM (xE X) xMC d 256 [(2, 12), (2, 31)] xKZ h161 _
  refine xc_in (s_256_b (by omega) h161  ?_)
  intro h162 q_0
  replace h := h h162 q_0
  show xq X d 258 Q 44 [(0, (2, 1)), (1, (2, 20))] [] h162
  refine xq_run [11, 22, 33, 44, 55] 300 ?_
  show xWM (xE X) xMC d 257 [(2, 15), (2, 34)] xKZ h162 _
  refine xc_in (s_257_b (by omega) h162 (h.1) (h.2.1) ?_)
  intro h163 q_0
  replace h := h.2.2 h163 q_0
  show xq X d 258 Q 55 [(0, (2, 1)), (1, (2, 20))] [] h163
  refine xq_run [11, 22, 33, 44, 55] 300 ?_
  show xfR 2 0 ∧ xKZ = xKZ ∧ Q 0 (xup (xup h163 1 5 (h163 20 5)) 1 6 (h163 20 6))
  exact ⟨trivial, rfl, h⟩

theorem s_258_b {X : Int × (Int → Int)} {d : Nat} {Q : Int → XH → Prop} (hd : 3 ≤ d) (H : XH) (p23 : ∀ k, 0 ≤ k → k < 64 → 0 ≤ H 23 k ∧ H 23 k ≤ 1) (p25 : ∀ k, 0 ≤ k → k < 64 → 0 ≤ H 25 k ∧ H 25 k ≤ 1) (p37 : ∀ k, 0 ≤ k → k < 60 → 0 ≤ H 37 k ∧ H 37 k ≤ 1) (p38 : ∀ k, 0 ≤ k → k < 60 → 0 ≤ H 38 k ∧ H 38 k ≤ 1) (hQ : ∀ h1 : XH, (∀ o, ¬ (1 ≤ o ∧ o ≤ 19) → h1 o = H o) ∧ (∀ k, ¬ k = 7 → h1 2 k = H 2 k) ∧ h1 2 7 = H 21 7 ∧ ccp H h1 22 3 320 ∧ ccp H h1 23 4 64 ∧ ccp H h1 24 5 64 ∧ ccp H h1 25 6 64 ∧ ccp H h1 27 8 40 ∧ ccp H h1 29 10 5 ∧ ccp H h1 30 11 5 ∧ ccp H h1 32 13 240 ∧ ccp H h1 33 14 4 ∧ ccp H h1 35 16 60 ∧ ccp H h1 36 17 60 ∧ ccp H h1 37 18 60 ∧ ccp H h1 38 19 60 ∧ h1 7 1 = H 26 1 ∧ ccp H h1 28 9 6 ∧ h1 15 4 = H 34 4 ∧ h1 1 5 = H 20 5 ∧ h1 1 6 = H 20 6 → Q 0 h1) : xc X d 258 [(2, 1), (2, 20)] H Q := by
  cases d with
  | zero => omega
  | succ d =>
  refine U_258_b (by omega) H ?_
  refine ⟨?_, ?_⟩
  · exact p23
  refine ⟨?_, ?_⟩
  · exact p25
  intro h164 c1
  have k1 := c1
  intro h165 c2
  have k2 := c2
  intro h166 c3
  have k3 := c3
  intro h167 c4
  have k4 := c4
  refine ⟨?_, ?_⟩
  · rw [k4.1 37 (by decide) (by decide) (by decide), k3.1 37 (by decide) (by decide) (by decide), k2.1 37 (by decide) (by decide), k1.1 37 (by decide) (by decide) (by decide) (by decide) (by decide)]
    exact p37
  refine ⟨?_, ?_⟩
  · rw [k4.1 38 (by decide) (by decide) (by decide), k3.1 38 (by decide) (by decide) (by decide), k2.1 38 (by decide) (by decide), k1.1 38 (by decide) (by decide) (by decide) (by decide) (by decide)]
    exact p38
  intro h168 c5
  have k5 := c5
  have e1 : ∀ o, ¬ o = 2 → ¬ o = 3 → ¬ o = 4 → ¬ o = 5 → ¬ o = 6 → h164 o = H o := fun o a2 a3 a4 a5 a6 => k1.1 o a2 a3 a4 a5 a6
  have e2 : ∀ o, ¬ o = 7 → ¬ o = 8 → h165 o = h164 o := fun o a7 a8 => k2.1 o a7 a8
  have e3 : ∀ o, ¬ o = 9 → ¬ o = 10 → ¬ o = 11 → h166 o = h165 o := fun o a9 a10 a11 => k3.1 o a9 a10 a11
  have e4 : ∀ o, ¬ o = 12 → ¬ o = 13 → ¬ o = 14 → h167 o = h166 o := fun o a12 a13 a14 => k4.1 o a12 a13 a14
  have e5 : ∀ o, ¬ o = 15 → ¬ o = 16 → ¬ o = 17 → ¬ o = 18 → ¬ o = 19 → h168 o = h167 o := fun o a15 a16 a17 a18 a19 => k5.1 o a15 a16 a17 a18 a19
  refine hQ _ ⟨?_, ?_, ?_, ?_, ?_, ?_, ?_, ?_, ?_, ?_, ?_, ?_, ?_, ?_, ?_, ?_, ?_, ?_, ?_, ?_, ?_⟩
  · intro o z
    rw [xup_ne (by omega), xup_ne (by omega), e5 o (by omega) (by omega) (by omega) (by omega) (by omega), e4 o (by omega) (by omega) (by omega), e3 o (by omega) (by omega) (by omega), e2 o (by omega) (by omega), e1 o (by omega) (by omega) (by omega) (by omega) (by omega)]
  · intro k z
    rw [xup_ne (by decide), xup_ne (by decide), e5 2 (by decide) (by decide) (by decide) (by decide) (by decide), e4 2 (by decide) (by decide) (by decide), e3 2 (by decide) (by decide) (by decide), e2 2 (by decide) (by decide)]
    exact k1.2.1 k z
  · rw [xup_ne (by decide), xup_ne (by decide), e5 2 (by decide) (by decide) (by decide) (by decide) (by decide), e4 2 (by decide) (by decide) (by decide), e3 2 (by decide) (by decide) (by decide), e2 2 (by decide) (by decide)]
    exact k1.2.2.1
  · intro k a b
    rw [xup_ne (by decide), xup_ne (by decide), e5 3 (by decide) (by decide) (by decide) (by decide) (by decide), e4 3 (by decide) (by decide) (by decide), e3 3 (by decide) (by decide) (by decide), e2 3 (by decide) (by decide), k1.2.2.2.1 k a b]
  · intro k a b
    rw [xup_ne (by decide), xup_ne (by decide), e5 4 (by decide) (by decide) (by decide) (by decide) (by decide), e4 4 (by decide) (by decide) (by decide), e3 4 (by decide) (by decide) (by decide), e2 4 (by decide) (by decide), k1.2.2.2.2.1 k a b]
  · intro k a b
    rw [xup_ne (by decide), xup_ne (by decide), e5 5 (by decide) (by decide) (by decide) (by decide) (by decide), e4 5 (by decide) (by decide) (by decide), e3 5 (by decide) (by decide) (by decide), e2 5 (by decide) (by decide), k1.2.2.2.2.2.1 k a b]
  · intro k a b
    rw [xup_ne (by decide), xup_ne (by decide), e5 6 (by decide) (by decide) (by decide) (by decide) (by decide), e4 6 (by decide) (by decide) (by decide), e3 6 (by decide) (by decide) (by decide), e2 6 (by decide) (by decide), k1.2.2.2.2.2.2 k a b]
  · intro k a b
    rw [xup_ne (by decide), xup_ne (by decide), e5 8 (by decide) (by decide) (by decide) (by decide) (by decide), e4 8 (by decide) (by decide) (by decide), e3 8 (by decide) (by decide) (by decide), k2.2.2.2 k a b, e1 27 (by decide) (by decide) (by decide) (by decide) (by decide)]
  · intro k a b
    rw [xup_ne (by decide), xup_ne (by decide), e5 10 (by decide) (by decide) (by decide) (by decide) (by decide), e4 10 (by decide) (by decide) (by decide), k3.2.2.2.2.2.2.2.2.1 k a b, e2 29 (by decide) (by decide), e1 29 (by decide) (by decide) (by decide) (by decide) (by decide)]
  · intro k a b
    rw [xup_ne (by decide), xup_ne (by decide), e5 11 (by decide) (by decide) (by decide) (by decide) (by decide), e4 11 (by decide) (by decide) (by decide), k3.2.2.2.2.2.2.2.2.2 k a b, e2 30 (by decide) (by decide), e1 30 (by decide) (by decide) (by decide) (by decide) (by decide)]
  · intro k a b
    rw [xup_ne (by decide), xup_ne (by decide), e5 13 (by decide) (by decide) (by decide) (by decide) (by decide), k4.2.2.1 k a b, e3 32 (by decide) (by decide) (by decide), e2 32 (by decide) (by decide), e1 32 (by decide) (by decide) (by decide) (by decide) (by decide)]
  · intro k a b
    rw [xup_ne (by decide), xup_ne (by decide), e5 14 (by decide) (by decide) (by decide) (by decide) (by decide), k4.2.2.2 k a b, e3 33 (by decide) (by decide) (by decide), e2 33 (by decide) (by decide), e1 33 (by decide) (by decide) (by decide) (by decide) (by decide)]
  · intro k a b
    rw [xup_ne (by decide), xup_ne (by decide), k5.2.2.2.1 k a b, e4 35 (by decide) (by decide) (by decide), e3 35 (by decide) (by decide) (by decide), e2 35 (by decide) (by decide), e1 35 (by decide) (by decide) (by decide) (by decide) (by decide)]
  · intro k a b
    rw [xup_ne (by decide), xup_ne (by decide), k5.2.2.2.2.1 k a b, e4 36 (by decide) (by decide) (by decide), e3 36 (by decide) (by decide) (by decide), e2 36 (by decide) (by decide), e1 36 (by decide) (by decide) (by decide) (by decide) (by decide)]
  · intro k a b
    rw [xup_ne (by decide), xup_ne (by decide), k5.2.2.2.2.2.1 k a b, e4 37 (by decide) (by decide) (by decide), e3 37 (by decide) (by decide) (by decide), e2 37 (by decide) (by decide), e1 37 (by decide) (by decide) (by decide) (by decide) (by decide)]
  · intro k a b
    rw [xup_ne (by decide), xup_ne (by decide), k5.2.2.2.2.2.2 k a b, e4 38 (by decide) (by decide) (by decide), e3 38 (by decide) (by decide) (by decide), e2 38 (by decide) (by decide), e1 38 (by decide) (by decide) (by decide) (by decide) (by decide)]
  · rw [xup_ne (by decide), xup_ne (by decide), e5 7 (by decide) (by decide) (by decide) (by decide) (by decide), e4 7 (by decide) (by decide) (by decide), e3 7 (by decide) (by decide) (by decide), k2.2.2.1, e1 26 (by decide) (by decide) (by decide) (by decide) (by decide)]
  · intro k a b
    rcases (show k = 0 ∨ k = 1 ∨ k = 2 ∨ k = 3 ∨ k = 4 ∨ k = 5 by omega) with q | q | q | q | q | q <;> subst q
    · rw [xup_ne (by decide), xup_ne (by decide), e5 9 (by decide) (by decide) (by decide) (by decide) (by decide), e4 9 (by decide) (by decide) (by decide), k3.2.2.1, e2 28 (by decide) (by decide), e1 28 (by decide) (by decide) (by decide) (by decide) (by decide)]
    · rw [xup_ne (by decide), xup_ne (by decide), e5 9 (by decide) (by decide) (by decide) (by decide) (by decide), e4 9 (by decide) (by decide) (by decide), k3.2.2.2.1, e2 28 (by decide) (by decide), e1 28 (by decide) (by decide) (by decide) (by decide) (by decide)]
    · rw [xup_ne (by decide), xup_ne (by decide), e5 9 (by decide) (by decide) (by decide) (by decide) (by decide), e4 9 (by decide) (by decide) (by decide), k3.2.2.2.2.1, e2 28 (by decide) (by decide), e1 28 (by decide) (by decide) (by decide) (by decide) (by decide)]
    · rw [xup_ne (by decide), xup_ne (by decide), e5 9 (by decide) (by decide) (by decide) (by decide) (by decide), e4 9 (by decide) (by decide) (by decide), k3.2.2.2.2.2.1, e2 28 (by decide) (by decide), e1 28 (by decide) (by decide) (by decide) (by decide) (by decide)]
    · rw [xup_ne (by decide), xup_ne (by decide), e5 9 (by decide) (by decide) (by decide) (by decide) (by decide), e4 9 (by decide) (by decide) (by decide), k3.2.2.2.2.2.2.1, e2 28 (by decide) (by decide), e1 28 (by decide) (by decide) (by decide) (by decide) (by decide)]
    · rw [xup_ne (by decide), xup_ne (by decide), e5 9 (by decide) (by decide) (by decide) (by decide) (by decide), e4 9 (by decide) (by decide) (by decide), k3.2.2.2.2.2.2.2.1, e2 28 (by decide) (by decide), e1 28 (by decide) (by decide) (by decide) (by decide) (by decide)]
  · rw [xup_ne (by decide), xup_ne (by decide), k5.2.2.1, e4 34 (by decide) (by decide) (by decide), e3 34 (by decide) (by decide) (by decide), e2 34 (by decide) (by decide), e1 34 (by decide) (by decide) (by decide) (by decide) (by decide)]
  · rw [xup_k (by decide), xup_self, e5 20 (by decide) (by decide) (by decide) (by decide) (by decide), e4 20 (by decide) (by decide) (by decide), e3 20 (by decide) (by decide) (by decide), e2 20 (by decide) (by decide), e1 20 (by decide) (by decide) (by decide) (by decide) (by decide)]
  · rw [xup_self, e5 20 (by decide) (by decide) (by decide) (by decide) (by decide), e4 20 (by decide) (by decide) (by decide), e3 20 (by decide) (by decide) (by decide), e2 20 (by decide) (by decide), e1 20 (by decide) (by decide) (by decide) (by decide) (by decide)]

theorem U_259 {X : Int × (Int → Int)} {d : Nat} {Q : Int → XH → Prop} (hd : 3 ≤ d) (H : XH) (h : (∀ k, 0 ≤ k → k < 64 → 0 ≤ H 4 k ∧ H 4 k ≤ 1) ∧ (∀ k, 0 ≤ k → k < 64 → 0 ≤ H 6 k ∧ H 6 k ≤ 1) ∧ (∀ k, 0 ≤ k → k < 60 → 0 ≤ H 18 k ∧ H 18 k ≤ 1) ∧ (∀ k, 0 ≤ k → k < 60 → 0 ≤ H 19 k ∧ H 19 k ≤ 1) ∧ (∀ (h169 : XH), ((∀ o, ¬ (20 ≤ o ∧ o ≤ 38) → h169 o = H o) ∧ (∀ k, ¬ k = 7 → h169 21 k = H 21 k) ∧ h169 21 7 = H 2 7 ∧ ccp H h169 3 22 320 ∧ ccp H h169 4 23 64 ∧ ccp H h169 5 24 64 ∧ ccp H h169 6 25 64 ∧ ccp H h169 8 27 40 ∧ ccp H h169 10 29 5 ∧ ccp H h169 11 30 5 ∧ ccp H h169 13 32 240 ∧ ccp H h169 14 33 4 ∧ ccp H h169 16 35 60 ∧ ccp H h169 17 36 60 ∧ ccp H h169 18 37 60 ∧ ccp H h169 19 38 60 ∧ h169 26 1 = H 7 1 ∧ ccp H h169 9 28 6 ∧ h169 34 4 = H 15 4 ∧ h169 20 5 = H 1 5 ∧ h169 20 6 = H 1 6) → Q (h169 2 7) h169)) : xc X (d + 1) 259 [(2, 0)] H Q := by
  refine ⟨rfl, ?_⟩
  show xq X d 259 Q 100000 [(0, (2, 0))] [] H
  refine xq_run [11] 300 ?_
  show xWM (xE X) xMC d 258 [(2, 20), (2, 1)] xKZ H _
  refine xc_in (s_258_i (by omega) H (h.1) (h.2.1) (h.2.2.1) (h.2.2.2.1) ?_)
  intro h169 q_0
  replace h := h.2.2.2.2 h169 q_0
  show xq X d 259 Q 11 [(0, (2, 0))] [] h169
  refine xq_run [11] 300 ?_
  show xfR 0 (h169 2 7) ∧ xKZ = xKZ ∧ Q (h169 2 7) h169
  exact ⟨trivial, rfl, h⟩

theorem U_260 {X : Int × (Int → Int)} {d : Nat} {Q : Int → XH → Prop} (hd : 1 ≤ d) (H : XH) (h : (Q (H 68 0) (xcpy H 68 69 0 0 1180))) : xc X (d + 1) 260 [(2, 67)] H Q := by
  refine ⟨rfl, ?_⟩
  show xq X d 260 Q 100000 [(0, (2, 67))] [] H
  refine xq_run [5] 300 ?_
  show xWM (xE X) xMC d 16 [(2, 67), (0, 1)] xKZ H _
  refine xc_in (s_16_1 (by omega) H  ?_)
  replace h := h
  show xq X d 260 Q 5 [(0, (2, 67))] [] (xcpy H 68 69 0 0 1180)
  refine xq_run [5] 300 ?_
  show ((0 : Int) ≤ 0 ∧ (0 : Int) < 1180) ∧ xfR 0 (H 68 0) ∧ xKZ = xKZ ∧ Q (H 68 0) (xcpy H 68 69 0 0 1180)
  refine ⟨⟨by decide, by decide⟩, ?_⟩
  exact ⟨trivial, rfl, h⟩

theorem p_image {X : Int × (Int → Int)} {d : Nat} (hd : 6 ≤ d) (H : XH) (hi : InvS H) (hk : InvK H) (hb : InvB H) : xc X d 259 [(2, 0)] H (fun r H1 => xc X d 260 [(2, 67)] H1 (imOk H r)) := by
  cases d with
  | zero => omega
  | succ d =>
  refine U_259 (by omega) H ?_
  refine ⟨?_, ?_⟩
  · first | (intro k a b; have z := hi.2.i k a (by omega); have y := hi.1.dgb k a (by omega); omega) | (intro k a b; have z := hi.2.b k a (by omega); have y := hi.1.brb k a (by omega); omega) | (intro k a b; have z := hb k a (by omega); unfold boF at z; omega) | omega
  refine ⟨?_, ?_⟩
  · first | (intro k a b; have z := hi.2.i k a (by omega); have y := hi.1.dgb k a (by omega); omega) | (intro k a b; have z := hi.2.b k a (by omega); have y := hi.1.brb k a (by omega); omega) | (intro k a b; have z := hb k a (by omega); unfold boF at z; omega) | omega
  refine ⟨?_, ?_⟩
  · first | (intro k a b; have z := hi.2.i k a (by omega); have y := hi.1.dgb k a (by omega); omega) | (intro k a b; have z := hi.2.b k a (by omega); have y := hi.1.brb k a (by omega); omega) | (intro k a b; have z := hb k a (by omega); unfold boF at z; omega) | omega
  refine ⟨?_, ?_⟩
  · first | (intro k a b; have z := hi.2.i k a (by omega); have y := hi.1.dgb k a (by omega); omega) | (intro k a b; have z := hi.2.b k a (by omega); have y := hi.1.brb k a (by omega); omega) | (intro k a b; have z := hb k a (by omega); unfold boF at z; omega) | omega
  intro h170 c1
  have k := c1
  have q68 := k.1 68 (by decide)
  have q69 := k.1 69 (by decide)
  have q67 := k.1 67 (by decide)
  have hk' : ∀ k : Int, ¬ (k < 0 ∨ 1180 ≤ k) → xcpy h170 68 69 0 0 1180 69 k = H 68 k := fun j q => by
    rw [xcpy_in (by omega) (by omega), q68]
  have hS := SRel_cp (g := H 68) (g' := xcpy h170 68 69 0 0 1180 69) hi.1 hi.2 hk' (by rw [k.2.1 0 (by decide)]; exact hk.2.l0) (by rw [k.2.1 1 (by decide)]; exact hk.2.l1) (by rw [k.2.1 2 (by decide)]; exact hk.2.l2) k.2.2.1 k.2.2.2.1 k.2.2.2.2.1 k.2.2.2.2.2.1 k.2.2.2.2.2.2.1 k.2.2.2.2.2.2.2.1 k.2.2.2.2.2.2.2.2.1 k.2.2.2.2.2.2.2.2.2.1 k.2.2.2.2.2.2.2.2.2.2.1 k.2.2.2.2.2.2.2.2.2.2.2.1 k.2.2.2.2.2.2.2.2.2.2.2.2.1 k.2.2.2.2.2.2.2.2.2.2.2.2.2.1 k.2.2.2.2.2.2.2.2.2.2.2.2.2.2.1 k.2.2.2.2.2.2.2.2.2.2.2.2.2.2.2.1 k.2.2.2.2.2.2.2.2.2.2.2.2.2.2.2.2.1 k.2.2.2.2.2.2.2.2.2.2.2.2.2.2.2.2.2.1 k.2.2.2.2.2.2.2.2.2.2.2.2.2.2.2.2.2.2.1 k.2.2.2.2.2.2.2.2.2.2.2.2.2.2.2.2.2.2.2.1 k.2.2.2.2.2.2.2.2.2.2.2.2.2.2.2.2.2.2.2.2
  have hG := GOk_eq (g := H 68) hi.1 hk'
  have hI : InvK (xcpy h170 68 69 0 0 1180) := by
    show GOk (h170 67 0) (h170 67 1) (xcpy h170 68 69 0 0 1180 69) ∧ SRel (h170 67 0) (h170 67 1) (h170 21) (h170 22) (h170 23) (h170 24) (h170 25) (h170 26) (h170 27) (h170 28) (h170 29) (h170 30) (h170 32) (h170 33) (h170 34) (h170 35) (h170 36) (h170 37) (h170 38) (h170 20) (xcpy h170 68 69 0 0 1180 69)
    rw [q67]
    exact ⟨hG, hS⟩
  have hB : InvB (xcpy h170 68 69 0 0 1180) := fun j a b => ⟨by rw [show xcpy h170 68 69 0 0 1180 18 = h170 18 from rfl, k.1 18 (by decide)]; exact (hb j a b).1, by rw [show xcpy h170 68 69 0 0 1180 19 = h170 19 from rfl, k.1 19 (by decide)]; exact (hb j a b).2.1, by rw [show xcpy h170 68 69 0 0 1180 37 = h170 37 from rfl, k.2.2.2.2.2.2.2.2.2.2.2.2.2.2.1 j a b]; exact (hb j a b).1, by rw [show xcpy h170 68 69 0 0 1180 38 = h170 38 from rfl, k.2.2.2.2.2.2.2.2.2.2.2.2.2.2.2.1 j a b]; exact (hb j a b).2.1⟩
  refine U_260 (by omega) h170 ?_
  refine ⟨?_, hI, hB, ?_, fun o a b => ?_⟩
  · show h170 68 0 = h170 2 7
    rw [q68, k.1 2 (by decide)]
    exact hi.2.l7.symm
  · show xcpy h170 68 69 0 0 1180 69 2 = _
    exact hk' 2 (by decide)
  · rw [xcpy_o b]
    exact k.1 o a

theorem U_261 {X : Int × (Int → Int)} {d : Nat} {Q : Int → XH → Prop} (hd : 3 ≤ d) (H : XH) (h : (∀ k, 0 ≤ k → k < 64 → 0 ≤ H 23 k ∧ H 23 k ≤ 1) ∧ (∀ k, 0 ≤ k → k < 64 → 0 ≤ H 25 k ∧ H 25 k ≤ 1) ∧ (∀ k, 0 ≤ k → k < 60 → 0 ≤ H 37 k ∧ H 37 k ≤ 1) ∧ (∀ k, 0 ≤ k → k < 60 → 0 ≤ H 38 k ∧ H 38 k ≤ 1) ∧ (∀ (h171 : XH), ((∀ o, ¬ (1 ≤ o ∧ o ≤ 19) → h171 o = H o) ∧ (∀ k, ¬ k = 7 → h171 2 k = H 2 k) ∧ h171 2 7 = H 21 7 ∧ ccp H h171 22 3 320 ∧ ccp H h171 23 4 64 ∧ ccp H h171 24 5 64 ∧ ccp H h171 25 6 64 ∧ ccp H h171 27 8 40 ∧ ccp H h171 29 10 5 ∧ ccp H h171 30 11 5 ∧ ccp H h171 32 13 240 ∧ ccp H h171 33 14 4 ∧ ccp H h171 35 16 60 ∧ ccp H h171 36 17 60 ∧ ccp H h171 37 18 60 ∧ ccp H h171 38 19 60 ∧ h171 7 1 = H 26 1 ∧ ccp H h171 28 9 6 ∧ h171 15 4 = H 34 4 ∧ h171 1 5 = H 20 5 ∧ h171 1 6 = H 20 6) → Q (h171 2 7) h171)) : xc X (d + 1) 261 [(2, 0)] H Q := by
  refine ⟨rfl, ?_⟩
  show xq X d 261 Q 100000 [(0, (2, 0))] [] H
  refine xq_run [11] 300 ?_
  show xWM (xE X) xMC d 258 [(2, 1), (2, 20)] xKZ H _
  refine xc_in (s_258_b (by omega) H (h.1) (h.2.1) (h.2.2.1) (h.2.2.2.1) ?_)
  intro h171 q_0
  replace h := h.2.2.2.2 h171 q_0
  show xq X d 261 Q 11 [(0, (2, 0))] [] h171
  refine xq_run [11] 300 ?_
  show xfR 0 (h171 2 7) ∧ xKZ = xKZ ∧ Q (h171 2 7) h171
  exact ⟨trivial, rfl, h⟩

theorem U_262 {X : Int × (Int → Int)} {d : Nat} {Q : Int → XH → Prop} (hd : 1 ≤ d) (H : XH) (h : (Q ((xcpy H 69 68 0 0 1180) 68 0) (xcpy H 69 68 0 0 1180))) : xc X (d + 1) 262 [(2, 67)] H Q := by
  refine ⟨rfl, ?_⟩
  show xq X d 262 Q 100000 [(0, (2, 67))] [] H
  refine xq_run [5] 300 ?_
  show xWM (xE X) xMC d 16 [(2, 67), (0, 0)] xKZ H _
  refine xc_in (s_16_0 (by omega) H  ?_)
  replace h := h
  show xq X d 262 Q 5 [(0, (2, 67))] [] (xcpy H 69 68 0 0 1180)
  refine xq_run [5] 300 ?_
  show ((0 : Int) ≤ 0 ∧ (0 : Int) < 1180) ∧ xfR 0 ((xcpy H 69 68 0 0 1180) 68 0) ∧ xKZ = xKZ ∧ Q ((xcpy H 69 68 0 0 1180) 68 0) (xcpy H 69 68 0 0 1180)
  refine ⟨⟨by decide, by decide⟩, ?_⟩
  exact ⟨trivial, rfl, h⟩

theorem p_back {X : Int × (Int → Int)} {d : Nat} (hd : 6 ≤ d) (H : XH) (hi : InvS H) (hk : InvK H) (hb : InvB H) : xc X d 261 [(2, 0)] H (fun r H1 => xc X d 262 [(2, 67)] H1 (baOk H r)) := by
  cases d with
  | zero => omega
  | succ d =>
  refine U_261 (by omega) H ?_
  refine ⟨?_, ?_⟩
  · first | (intro k a b; have z := hk.2.i k a (by omega); have y := hk.1.dgb k a (by omega); omega) | (intro k a b; have z := hk.2.b k a (by omega); have y := hk.1.brb k a (by omega); omega) | (intro k a b; have z := hb k a (by omega); unfold boF at z; omega) | omega
  refine ⟨?_, ?_⟩
  · first | (intro k a b; have z := hk.2.i k a (by omega); have y := hk.1.dgb k a (by omega); omega) | (intro k a b; have z := hk.2.b k a (by omega); have y := hk.1.brb k a (by omega); omega) | (intro k a b; have z := hb k a (by omega); unfold boF at z; omega) | omega
  refine ⟨?_, ?_⟩
  · first | (intro k a b; have z := hk.2.i k a (by omega); have y := hk.1.dgb k a (by omega); omega) | (intro k a b; have z := hk.2.b k a (by omega); have y := hk.1.brb k a (by omega); omega) | (intro k a b; have z := hb k a (by omega); unfold boF at z; omega) | omega
  refine ⟨?_, ?_⟩
  · first | (intro k a b; have z := hk.2.i k a (by omega); have y := hk.1.dgb k a (by omega); omega) | (intro k a b; have z := hk.2.b k a (by omega); have y := hk.1.brb k a (by omega); omega) | (intro k a b; have z := hb k a (by omega); unfold boF at z; omega) | omega
  intro h172 c1
  have k := c1
  have q69 := k.1 69 (by decide)
  have q68 := k.1 68 (by decide)
  have q67 := k.1 67 (by decide)
  have hk' : ∀ k : Int, ¬ (k < 0 ∨ 1180 ≤ k) → xcpy h172 69 68 0 0 1180 68 k = H 69 k := fun j q => by
    rw [xcpy_in (by omega) (by omega), q69]
  have hS := SRel_cp (g := H 69) (g' := xcpy h172 69 68 0 0 1180 68) hk.1 hk.2 hk' (by rw [k.2.1 0 (by decide)]; exact hi.2.l0) (by rw [k.2.1 1 (by decide)]; exact hi.2.l1) (by rw [k.2.1 2 (by decide)]; exact hi.2.l2) k.2.2.1 k.2.2.2.1 k.2.2.2.2.1 k.2.2.2.2.2.1 k.2.2.2.2.2.2.1 k.2.2.2.2.2.2.2.1 k.2.2.2.2.2.2.2.2.1 k.2.2.2.2.2.2.2.2.2.1 k.2.2.2.2.2.2.2.2.2.2.1 k.2.2.2.2.2.2.2.2.2.2.2.1 k.2.2.2.2.2.2.2.2.2.2.2.2.1 k.2.2.2.2.2.2.2.2.2.2.2.2.2.1 k.2.2.2.2.2.2.2.2.2.2.2.2.2.2.1 k.2.2.2.2.2.2.2.2.2.2.2.2.2.2.2.1 k.2.2.2.2.2.2.2.2.2.2.2.2.2.2.2.2.1 k.2.2.2.2.2.2.2.2.2.2.2.2.2.2.2.2.2.1 k.2.2.2.2.2.2.2.2.2.2.2.2.2.2.2.2.2.2.1 k.2.2.2.2.2.2.2.2.2.2.2.2.2.2.2.2.2.2.2.1 k.2.2.2.2.2.2.2.2.2.2.2.2.2.2.2.2.2.2.2.2
  have hG := GOk_eq (g := H 69) hk.1 hk'
  have hI : InvS (xcpy h172 69 68 0 0 1180) := by
    show GOk (h172 67 0) (h172 67 1) (xcpy h172 69 68 0 0 1180 68) ∧ SRel (h172 67 0) (h172 67 1) (h172 2) (h172 3) (h172 4) (h172 5) (h172 6) (h172 7) (h172 8) (h172 9) (h172 10) (h172 11) (h172 13) (h172 14) (h172 15) (h172 16) (h172 17) (h172 18) (h172 19) (h172 1) (xcpy h172 69 68 0 0 1180 68)
    rw [q67]
    exact ⟨hG, hS⟩
  have hB : InvB (xcpy h172 69 68 0 0 1180) := fun j a b => ⟨by rw [show xcpy h172 69 68 0 0 1180 18 = h172 18 from rfl, k.2.2.2.2.2.2.2.2.2.2.2.2.2.2.1 j a b]; exact (hb j a b).2.2.1, by rw [show xcpy h172 69 68 0 0 1180 19 = h172 19 from rfl, k.2.2.2.2.2.2.2.2.2.2.2.2.2.2.2.1 j a b]; exact (hb j a b).2.2.2, by rw [show xcpy h172 69 68 0 0 1180 37 = h172 37 from rfl, k.1 37 (by decide)]; exact (hb j a b).2.2.1, by rw [show xcpy h172 69 68 0 0 1180 38 = h172 38 from rfl, k.1 38 (by decide)]; exact (hb j a b).2.2.2⟩
  refine U_262 (by omega) h172 ?_
  refine ⟨?_, hI, hB, ?_, fun o a b => ?_⟩
  · show xcpy h172 69 68 0 0 1180 68 0 = h172 2 7
    rw [hk' 0 (by decide), k.2.2.1]
    exact hk.2.l7.symm
  · show xcpy h172 69 68 0 0 1180 68 2 = _
    exact hk' 2 (by decide)
  · rw [xcpy_o b]
    exact k.1 o a
