/-! THE PURE LAYER 56: the law is read, the model: the whole -/
theorem U_192 {X : Int × (Int → Int)} {d : Nat} {Q : Int → XH → Prop} (hd : 0 ≤ d) (t : Int) (H : XH) (h : ((0 : Int) ≤ t ∧ (t : Int) < 4) ∧ xq X d 192 Q 12 [(0, (2, 67)), (1, (0, t)), (2, (0, 0))] [] (xup H 71 t (H 67 39))) : xc X (d + 1) 192 [(2, 67), (0, t)] H Q := by
  refine ⟨rfl, ?_⟩
  show xq X d 192 Q 100000 [(0, (2, 67)), (1, (0, t))] [] H
  refine xq_run [12, 68] 300 ?_
  show ((0 : Int) ≤ t ∧ (t : Int) < 4) ∧ xq X d 192 Q 12 [(0, (2, 67)), (1, (0, t)), (2, (0, 0))] [] (xup H 71 t (H 67 39))
  refine ⟨h.1, ?_⟩
  replace h := h.2
  exact h
theorem U_192_12 {X : Int × (Int → Int)} {d : Nat} {Q : Int → XH → Prop} (hd : 0 ≤ d) (v1 v2 : Int) (H : XH) (h : ((H 67 39 ≤ v2) → xq X d 192 Q 68 [(0, (2, 67)), (1, (0, v1)), (2, (0, 0))] [] H) ∧ (¬ (H 67 39 ≤ v2) → (xI (10 * v1)) ∧ (xI ((10 * v1) + v2)) ∧ ((0 : Int) ≤ v2 ∧ (v2 : Int) < 10) ∧ ((0 : Int) ≤ (10 * v1) + v2 ∧ ((10 * v1) + v2 : Int) < 40) ∧ (xI (10 * v1)) ∧ (xI ((10 * v1) + v2)) ∧ (xI (400 * v1)) ∧ ((0 : Int) ≤ v2 ∧ (v2 : Int) < 10) ∧ (xI ((400 * v1) + (H 91 v2))) ∧ ((0 : Int) ≤ (10 * v1) + v2 ∧ ((10 * v1) + v2 : Int) < 40) ∧ (xI (v2 + 1)) ∧ xq X d 192 Q 12 [(0, (2, 67)), (1, (0, v1)), (2, (0, v2 + 1))] [] (xup (xup H 72 ((10 * v1) + v2) (H 90 v2)) 73 ((10 * v1) + v2) ((400 * v1) + (H 91 v2))))) : xq X d 192 Q 12 [(0, (2, 67)), (1, (0, v1)), (2, (0, v2))] [] H := by
  show xq X d 192 Q 12 [(0, (2, 67)), (1, (0, v1)), (2, (0, v2))] [] H
  refine xq_run [12, 68] 300 ?_
  show ((H 67 39 ≤ v2) → xq X d 192 Q 68 [(0, (2, 67)), (1, (0, v1)), (2, (0, 0))] [] H) ∧ (¬ (H 67 39 ≤ v2) → (xI (10 * v1)) ∧ (xI ((10 * v1) + v2)) ∧ ((0 : Int) ≤ v2 ∧ (v2 : Int) < 10) ∧ ((0 : Int) ≤ (10 * v1) + v2 ∧ ((10 * v1) + v2 : Int) < 40) ∧ (xI (10 * v1)) ∧ (xI ((10 * v1) + v2)) ∧ (xI (400 * v1)) ∧ ((0 : Int) ≤ v2 ∧ (v2 : Int) < 10) ∧ (xI ((400 * v1) + (H 91 v2))) ∧ ((0 : Int) ≤ (10 * v1) + v2 ∧ ((10 * v1) + v2 : Int) < 40) ∧ (xI (v2 + 1)) ∧ xq X d 192 Q 12 [(0, (2, 67)), (1, (0, v1)), (2, (0, v2 + 1))] [] (xup (xup H 72 ((10 * v1) + v2) (H 90 v2)) 73 ((10 * v1) + v2) ((400 * v1) + (H 91 v2))))
  refine ⟨fun k_ => ?_, fun k_ => ?_⟩
  · replace h := h.1 k_
    exact h
  · replace h := h.2 k_
    refine ⟨h.1, ?_⟩
    replace h := h.2
    refine ⟨h.1, ?_⟩
    replace h := h.2
    refine ⟨h.1, ?_⟩
    replace h := h.2
    refine ⟨h.1, ?_⟩
    replace h := h.2
    refine ⟨h.1, ?_⟩
    replace h := h.2
    refine ⟨h.1, ?_⟩
    replace h := h.2
    refine ⟨h.1, ?_⟩
    replace h := h.2
    refine ⟨h.1, ?_⟩
    replace h := h.2
    refine ⟨h.1, ?_⟩
    replace h := h.2
    refine ⟨h.1, ?_⟩
    replace h := h.2
    refine ⟨h.1, ?_⟩
    replace h := h.2
    exact h
theorem U_192_68 {X : Int × (Int → Int)} {d : Nat} {Q : Int → XH → Prop} (hd : 0 ≤ d) (v1 v2 : Int) (H : XH) (h : ((H 67 42 ≤ v2) → Q 0 H) ∧ (¬ (H 67 42 ≤ v2) → (xI (400 * v1)) ∧ (xI ((400 * v1) + v2)) ∧ ((0 : Int) ≤ v2 ∧ (v2 : Int) < 400) ∧ ((0 : Int) ≤ (400 * v1) + v2 ∧ ((400 * v1) + v2 : Int) < 1600) ∧ (xI (400 * v1)) ∧ (xI ((400 * v1) + v2)) ∧ ((0 : Int) ≤ v2 ∧ (v2 : Int) < 400) ∧ ((0 : Int) ≤ (400 * v1) + v2 ∧ ((400 * v1) + v2 : Int) < 1600) ∧ (xI (v2 + 1)) ∧ xq X d 192 Q 68 [(0, (2, 67)), (1, (0, v1)), (2, (0, v2 + 1))] [] (xup (xup H 74 ((400 * v1) + v2) (H 92 v2)) 75 ((400 * v1) + v2) (H 93 v2)))) : xq X d 192 Q 68 [(0, (2, 67)), (1, (0, v1)), (2, (0, v2))] [] H := by
  show xq X d 192 Q 68 [(0, (2, 67)), (1, (0, v1)), (2, (0, v2))] [] H
  refine xq_run [12, 68] 300 ?_
  show ((H 67 42 ≤ v2) → xfR 2 0 ∧ xKZ = xKZ ∧ Q 0 H) ∧ (¬ (H 67 42 ≤ v2) → (xI (400 * v1)) ∧ (xI ((400 * v1) + v2)) ∧ ((0 : Int) ≤ v2 ∧ (v2 : Int) < 400) ∧ ((0 : Int) ≤ (400 * v1) + v2 ∧ ((400 * v1) + v2 : Int) < 1600) ∧ (xI (400 * v1)) ∧ (xI ((400 * v1) + v2)) ∧ ((0 : Int) ≤ v2 ∧ (v2 : Int) < 400) ∧ ((0 : Int) ≤ (400 * v1) + v2 ∧ ((400 * v1) + v2 : Int) < 1600) ∧ (xI (v2 + 1)) ∧ xq X d 192 Q 68 [(0, (2, 67)), (1, (0, v1)), (2, (0, v2 + 1))] [] (xup (xup H 74 ((400 * v1) + v2) (H 92 v2)) 75 ((400 * v1) + v2) (H 93 v2)))
  refine ⟨fun k_ => ?_, fun k_ => ?_⟩
  · replace h := h.1 k_
    exact ⟨trivial, rfl, h⟩
  · replace h := h.2 k_
    refine ⟨h.1, ?_⟩
    replace h := h.2
    refine ⟨h.1, ?_⟩
    replace h := h.2
    refine ⟨h.1, ?_⟩
    replace h := h.2
    refine ⟨h.1, ?_⟩
    replace h := h.2
    refine ⟨h.1, ?_⟩
    replace h := h.2
    refine ⟨h.1, ?_⟩
    replace h := h.2
    refine ⟨h.1, ?_⟩
    replace h := h.2
    refine ⟨h.1, ?_⟩
    replace h := h.2
    refine ⟨h.1, ?_⟩
    replace h := h.2
    exact h

/-- the text is kept: n clauses, m orders -/
def ktP (t n m : Int) (H h : XH) : Prop := (∀ o, ¬ (71 ≤ o ∧ o ≤ 75) → h o = H o) ∧ (∀ j, h 71 j = if j = t then n else H 71 j) ∧ (∀ j, h 72 j = if 10 * t ≤ j ∧ j < 10 * t + n then H 90 (j - 10 * t) else H 72 j) ∧ (∀ j, h 73 j = if 10 * t ≤ j ∧ j < 10 * t + n then 400 * t + H 91 (j - 10 * t) else H 73 j) ∧ (∀ j, h 74 j = if 400 * t ≤ j ∧ j < 400 * t + m then H 92 (j - 400 * t) else H 74 j) ∧ ∀ j, h 75 j = if 400 * t ≤ j ∧ j < 400 * t + m then H 93 (j - 400 * t) else H 75 j
theorem s_192 {X : Int × (Int → Int)} {d : Nat} {Q : Int → XH → Prop} (hd : 1 ≤ d) (t n m : Int) (H : XH) (pt : 0 ≤ t ∧ t ≤ 3) (h39 : H 67 39 = n) (h42 : H 67 42 = m) (pn : 0 ≤ n ∧ n ≤ 10) (pm : 0 ≤ m ∧ m ≤ 400) (pa : ∀ j, 0 ≤ j → j < n → 0 ≤ H 91 j ∧ H 91 j ≤ 1000) (hQ : ∀ h1, ktP t n m H h1 → Q 0 h1) : xc X d 192 [(2, 67), (0, t)] H Q := by
  cases d with
  | zero => omega
  | succ d =>
  have key2 : ∀ (k : Nat) (i : Int) (h : XH), i + k = m → 0 ≤ i → ktP t n i H h → xq X d 192 Q 68 [(0, (2, 67)), (1, (0, t)), (2, (0, i))] [] h := by
    intro k
    induction k with
    | zero =>
      intro i h hk i0 kt
      have z := hQ h (by rw [show i = m by omega] at kt; exact kt)
      have e67 := kt.1 67 (by decide)
      refine U_192_68 (by omega) t i h ?_
      rw [e67, h42]
      refine ⟨fun c1 => ?_, fun c1 => ?_⟩
      · skip
        exact z
      · skip
        refine ⟨?_, ?_⟩
        · first | omega | (unfold xI; omega) | (exfalso; omega)
        refine ⟨?_, ?_⟩
        · first | omega | (unfold xI; omega) | (exfalso; omega)
        refine ⟨?_, ?_⟩
        · first | omega | (unfold xI; omega) | (exfalso; omega)
        refine ⟨?_, ?_⟩
        · first | omega | (unfold xI; omega) | (exfalso; omega)
        refine ⟨?_, ?_⟩
        · first | omega | (unfold xI; omega) | (exfalso; omega)
        refine ⟨?_, ?_⟩
        · first | omega | (unfold xI; omega) | (exfalso; omega)
        refine ⟨?_, ?_⟩
        · first | omega | (unfold xI; omega) | (exfalso; omega)
        refine ⟨?_, ?_⟩
        · first | omega | (unfold xI; omega) | (exfalso; omega)
        refine ⟨?_, ?_⟩
        · first | omega | (unfold xI; omega) | (exfalso; omega)
        exfalso
        omega
    | succ k ih =>
      intro i h hk i0 kt
      obtain ⟨k1, k2, k3, k4, k5, k6⟩ := kt
      have e67 := k1 67 (by decide)
      have e92 := k1 92 (by decide)
      have e93 := k1 93 (by decide)
      have nx : xq X d 192 Q 68 [(0, (2, 67)), (1, (0, t)), (2, (0, i + 1))] [] (xup (xup h 74 (400 * t + i) (H 92 i)) 75 (400 * t + i) (H 93 i)) := by
        refine ih (i + 1) _ (by omega) (by omega) ⟨fun o a => by rw [xup_ne (by omega), xup_ne (by omega)]; exact k1 o a, k2, k3, k4, fun j => ?_, fun j => ?_⟩
        · show xup h 74 (400 * t + i) (H 92 i) 74 j = _
          rw [xup_eq]
          by_cases q : j = 400 * t + i
          · rw [if_pos q, if_pos (by omega), show j - 400 * t = i by omega]
          · rw [if_neg q, k5]
            by_cases y : 400 * t ≤ j ∧ j < 400 * t + i
            · rw [if_pos y, if_pos (by omega)]
            · rw [if_neg y, if_neg (by omega)]
        · rw [xup_eq]
          by_cases q : j = 400 * t + i
          · rw [if_pos q, if_pos (by omega), show j - 400 * t = i by omega]
          · rw [if_neg q]
            show h 75 j = _
            rw [k6]
            by_cases y : 400 * t ≤ j ∧ j < 400 * t + i
            · rw [if_pos y, if_pos (by omega)]
            · rw [if_neg y, if_neg (by omega)]
      refine U_192_68 (by omega) t i h ?_
      rw [e67, h42, e92]
      have e93' : xup h 74 (400 * t + i) (H 92 i) 93 = H 93 := e93
      refine ⟨fun c1 => ?_, fun c1 => ?_⟩
      · skip
        exfalso
        omega
      · skip
        refine ⟨?_, ?_⟩
        · first | omega | (unfold xI; omega) | (exfalso; omega)
        refine ⟨?_, ?_⟩
        · first | omega | (unfold xI; omega) | (exfalso; omega)
        refine ⟨?_, ?_⟩
        · first | omega | (unfold xI; omega) | (exfalso; omega)
        refine ⟨?_, ?_⟩
        · first | omega | (unfold xI; omega) | (exfalso; omega)
        refine ⟨?_, ?_⟩
        · first | omega | (unfold xI; omega) | (exfalso; omega)
        refine ⟨?_, ?_⟩
        · first | omega | (unfold xI; omega) | (exfalso; omega)
        refine ⟨?_, ?_⟩
        · first | omega | (unfold xI; omega) | (exfalso; omega)
        refine ⟨?_, ?_⟩
        · first | omega | (unfold xI; omega) | (exfalso; omega)
        refine ⟨?_, ?_⟩
        · first | omega | (unfold xI; omega) | (exfalso; omega)
        first | exact nx | (rw [e93]; exact nx)
  have key1 : ∀ (k : Nat) (i : Int) (h : XH), i + k = n → 0 ≤ i → ((∀ o, ¬ (71 ≤ o ∧ o ≤ 75) → h o = H o) ∧ (∀ j, h 71 j = if j = t then n else H 71 j) ∧ (∀ j, h 72 j = if 10 * t ≤ j ∧ j < 10 * t + i then H 90 (j - 10 * t) else H 72 j) ∧ (∀ j, h 73 j = if 10 * t ≤ j ∧ j < 10 * t + i then 400 * t + H 91 (j - 10 * t) else H 73 j) ∧ h 74 = H 74 ∧ h 75 = H 75) → xq X d 192 Q 12 [(0, (2, 67)), (1, (0, t)), (2, (0, i))] [] h := by
    intro k
    induction k with
    | zero =>
      intro i h hk i0 kt
      obtain ⟨k1, k2, k3, k4, k5, k6⟩ := kt
      have z := key2 m.toNat 0 h (by omega) (by omega) ⟨k1, k2, by rw [show i = n by omega] at k3; exact k3, by rw [show i = n by omega] at k4; exact k4, fun j => by rw [k5, if_neg (by omega)], fun j => by rw [k6, if_neg (by omega)]⟩
      have e67 := k1 67 (by decide)
      refine U_192_12 (by omega) t i h ?_
      rw [e67, h39]
      refine ⟨fun c1 => ?_, fun c1 => ?_⟩
      · skip
        exact z
      · skip
        refine ⟨?_, ?_⟩
        · first | omega | (unfold xI; omega) | (exfalso; omega)
        refine ⟨?_, ?_⟩
        · first | omega | (unfold xI; omega) | (exfalso; omega)
        refine ⟨?_, ?_⟩
        · first | omega | (unfold xI; omega) | (exfalso; omega)
        refine ⟨?_, ?_⟩
        · first | omega | (unfold xI; omega) | (exfalso; omega)
        refine ⟨?_, ?_⟩
        · first | omega | (unfold xI; omega) | (exfalso; omega)
        refine ⟨?_, ?_⟩
        · first | omega | (unfold xI; omega) | (exfalso; omega)
        refine ⟨?_, ?_⟩
        · first | omega | (unfold xI; omega) | (exfalso; omega)
        refine ⟨?_, ?_⟩
        · first | omega | (unfold xI; omega) | (exfalso; omega)
        refine ⟨?_, ?_⟩
        · first | omega | (unfold xI; omega) | (exfalso; omega)
        refine ⟨?_, ?_⟩
        · first | omega | (unfold xI; omega) | (exfalso; omega)
        refine ⟨?_, ?_⟩
        · first | omega | (unfold xI; omega) | (exfalso; omega)
        exfalso
        omega
    | succ k ih =>
      intro i h hk i0 kt
      obtain ⟨k1, k2, k3, k4, k5, k6⟩ := kt
      have e67 := k1 67 (by decide)
      have e90 := k1 90 (by decide)
      have e91 := k1 91 (by decide)
      have pi := pa i i0 (by omega)
      have nx : xq X d 192 Q 12 [(0, (2, 67)), (1, (0, t)), (2, (0, i + 1))] [] (xup (xup h 72 (10 * t + i) (H 90 i)) 73 (10 * t + i) (400 * t + H 91 i)) := by
        refine ih (i + 1) _ (by omega) (by omega) ⟨fun o a => by rw [xup_ne (by omega), xup_ne (by omega)]; exact k1 o a, k2, fun j => ?_, fun j => ?_, k5, k6⟩
        · show xup h 72 (10 * t + i) (H 90 i) 72 j = _
          rw [xup_eq]
          by_cases q : j = 10 * t + i
          · rw [if_pos q, if_pos (by omega), show j - 10 * t = i by omega]
          · rw [if_neg q, k3]
            by_cases y : 10 * t ≤ j ∧ j < 10 * t + i
            · rw [if_pos y, if_pos (by omega)]
            · rw [if_neg y, if_neg (by omega)]
        · rw [xup_eq]
          by_cases q : j = 10 * t + i
          · rw [if_pos q, if_pos (by omega), show j - 10 * t = i by omega]
          · rw [if_neg q]
            show h 73 j = _
            rw [k4]
            by_cases y : 10 * t ≤ j ∧ j < 10 * t + i
            · rw [if_pos y, if_pos (by omega)]
            · rw [if_neg y, if_neg (by omega)]
      refine U_192_12 (by omega) t i h ?_
      rw [e67, h39, e90]
      have e91' : xup h 72 (10 * t + i) (H 90 i) 91 = H 91 := e91
      refine ⟨fun c1 => ?_, fun c1 => ?_⟩
      · skip
        exfalso
        omega
      · skip
        refine ⟨?_, ?_⟩
        · first | omega | (unfold xI; omega) | (rw [e91]; unfold xI; omega) | (exfalso; omega)
        refine ⟨?_, ?_⟩
        · first | omega | (unfold xI; omega) | (rw [e91]; unfold xI; omega) | (exfalso; omega)
        refine ⟨?_, ?_⟩
        · first | omega | (unfold xI; omega) | (rw [e91]; unfold xI; omega) | (exfalso; omega)
        refine ⟨?_, ?_⟩
        · first | omega | (unfold xI; omega) | (rw [e91]; unfold xI; omega) | (exfalso; omega)
        refine ⟨?_, ?_⟩
        · first | omega | (unfold xI; omega) | (rw [e91]; unfold xI; omega) | (exfalso; omega)
        refine ⟨?_, ?_⟩
        · first | omega | (unfold xI; omega) | (rw [e91]; unfold xI; omega) | (exfalso; omega)
        refine ⟨?_, ?_⟩
        · first | omega | (unfold xI; omega) | (rw [e91]; unfold xI; omega) | (exfalso; omega)
        refine ⟨?_, ?_⟩
        · first | omega | (unfold xI; omega) | (rw [e91]; unfold xI; omega) | (exfalso; omega)
        refine ⟨?_, ?_⟩
        · first | omega | (unfold xI; omega) | (rw [e91]; unfold xI; omega) | (exfalso; omega)
        refine ⟨?_, ?_⟩
        · first | omega | (unfold xI; omega) | (rw [e91]; unfold xI; omega) | (exfalso; omega)
        refine ⟨?_, ?_⟩
        · first | omega | (unfold xI; omega) | (rw [e91]; unfold xI; omega) | (exfalso; omega)
        first | exact nx | (rw [e91]; exact nx)
  refine U_192 (by omega) t H ?_
  rw [h39]
  refine ⟨?_, ?_⟩
  · first | omega | (unfold xI; omega) | (exfalso; omega)
  refine key1 n.toNat 0 _ (by omega) (by omega) ⟨fun o a => xup_ne (by omega), fun j => ?_, fun j => ?_, fun j => ?_, rfl, rfl⟩
  · exact xup_eq _ _ _ _ _
  · rw [if_neg (by omega)]
    rfl
  · rw [if_neg (by omega)]
    rfl

theorem U_193 {X : Int × (Int → Int)} {d : Nat} {Q : Int → XH → Prop} (hd : 0 ≤ d) (H : XH) (h : ((¬ H 68 2 = 4) → (xc X d 171 [(2, 67)] (xup (xup (xup (xup (xup (xup (xup (xup (xup (xup (xup H 67 24 (H 67 5)) 67 5 0) 67 25 0) 67 29 0) 67 30 (-1)) 67 31 0) 67 32 0) 67 35 0) 67 38 4) 67 39 0) 67 42 0) (fun (J1531 : Int) (h1530 : XH) => xq X d 193 Q 74 [(0, (2, 67))] [] h1530))) ∧ (¬ (¬ H 68 2 = 4) → Q (-1) H)) : xc X (d + 1) 193 [(2, 67)] H Q := by
  refine ⟨rfl, ?_⟩
  show xq X d 193 Q 100000 [(0, (2, 67))] [] H
  refine xq_run [74, 96, 136, 143, 150, 157, 164, 167, 202, 100074] 300 ?_
  show ((0 : Int) ≤ 2 ∧ (2 : Int) < 1180) ∧ ((¬ H 68 2 = 4) → xWM (xE X) xMC d 171 [(2, 67)] xKZ (xup (xup (xup (xup (xup (xup (xup (xup (xup (xup (xup H 67 24 (H 67 5)) 67 5 0) 67 25 0) 67 29 0) 67 30 (-1)) 67 31 0) 67 32 0) 67 35 0) 67 38 4) 67 39 0) 67 42 0) _) ∧ (¬ (¬ H 68 2 = 4) → xfR 0 (-1) ∧ xKZ = xKZ ∧ Q (-1) H)
  refine ⟨⟨by decide, by decide⟩, ?_⟩
  refine ⟨fun k_ => ?_, fun k_ => ?_⟩
  · replace h := h.1 k_
    refine xc_in (xc_mono (fun J1531 h1530 q_ => ?_) h)
    replace h := q_
    show xq X d 193 Q 100074 [(0, (2, 67))] [] h1530
    refine xq_run [74, 96, 136, 143, 150, 157, 164, 167, 202, 100074] 300 ?_
    show xq X d 193 Q 74 [(0, (2, 67))] [] h1530
    exact h
  · replace h := h.2 k_
    exact ⟨trivial, rfl, h⟩
theorem U_193_74 {X : Int × (Int → Int)} {d : Nat} {Q : Int → XH → Prop} (hd : 0 ≤ d) (H : XH) (h : ((¬ H 67 29 = 0) → xq X d 193 Q 167 [(0, (2, 67))] [] H) ∧ (¬ (¬ H 67 29 = 0) → ((¬ H 67 38 = 4) → xq X d 193 Q 96 [(0, (2, 67))] [] H) ∧ (¬ (¬ H 67 38 = 4) → ((H 67 27 = 0) → xq X d 193 Q 167 [(0, (2, 67))] [] H) ∧ (¬ (H 67 27 = 0) → xq X d 193 Q 96 [(0, (2, 67))] [] H)))) : xq X d 193 Q 74 [(0, (2, 67))] [] H := by
  show xq X d 193 Q 74 [(0, (2, 67))] [] H
  refine xq_run [74, 96, 136, 143, 150, 157, 164, 167, 202, 100074] 300 ?_
  show ((¬ H 67 29 = 0) → xq X d 193 Q 167 [(0, (2, 67))] [] H) ∧ (¬ (¬ H 67 29 = 0) → ((¬ H 67 38 = 4) → xq X d 193 Q 96 [(0, (2, 67))] [] H) ∧ (¬ (¬ H 67 38 = 4) → ((H 67 27 = 0) → xq X d 193 Q 167 [(0, (2, 67))] [] H) ∧ (¬ (H 67 27 = 0) → xq X d 193 Q 96 [(0, (2, 67))] [] H)))
  refine ⟨fun k_ => ?_, fun k_ => ?_⟩
  · replace h := h.1 k_
    exact h
  · replace h := h.2 k_
    refine ⟨fun k_ => ?_, fun k_ => ?_⟩
    · replace h := h.1 k_
      exact h
    · replace h := h.2 k_
      refine ⟨fun k_ => ?_, fun k_ => ?_⟩
      · replace h := h.1 k_
        exact h
      · replace h := h.2 k_
        exact h
theorem U_193_167 {X : Int × (Int → Int)} {d : Nat} {Q : Int → XH → Prop} (hd : 0 ≤ d) (H : XH) (h : ((H 67 29 ≤ 0) → (xc X d 192 [(2, 67), (0, H 68 2)] (xup (xup H 67 6 (H 67 29)) 67 7 (H 67 30)) (fun (J1533 : Int) (h1532 : XH) => (xI ((h1532 68 2) + 1)) ∧ (xI (((h1532 68 2) + 1) - 1)) ∧ Q (((h1532 68 2) + 1) - 1) (xup h1532 68 2 ((h1532 68 2) + 1))))) ∧ (¬ (H 67 29 ≤ 0) → Q (-1) (xup (xup H 67 6 (H 67 29)) 67 7 (H 67 30)))) : xq X d 193 Q 167 [(0, (2, 67))] [] H := by
  show xq X d 193 Q 167 [(0, (2, 67))] [] H
  refine xq_run [74, 96, 136, 143, 150, 157, 164, 167, 202, 100074] 300 ?_
  show ((H 67 29 ≤ 0) → ((0 : Int) ≤ 2 ∧ (2 : Int) < 1180) ∧ xWM (xE X) xMC d 192 [(2, 67), (0, H 68 2)] xKZ (xup (xup H 67 6 (H 67 29)) 67 7 (H 67 30)) _) ∧ (¬ (H 67 29 ≤ 0) → xfR 0 (-1) ∧ xKZ = xKZ ∧ Q (-1) (xup (xup H 67 6 (H 67 29)) 67 7 (H 67 30)))
  refine ⟨fun k_ => ?_, fun k_ => ?_⟩
  · replace h := h.1 k_
    refine ⟨⟨by decide, by decide⟩, ?_⟩
    refine xc_in (xc_mono (fun J1533 h1532 q_ => ?_) h)
    replace h := q_
    show xq X d 193 Q 202 [(0, (2, 67))] [] h1532
    refine xq_run [74, 96, 136, 143, 150, 157, 164, 167, 202, 100074] 300 ?_
    show ((0 : Int) ≤ 2 ∧ (2 : Int) < 1180) ∧ (xI ((h1532 68 2) + 1)) ∧ ((0 : Int) ≤ 2 ∧ (2 : Int) < 1180) ∧ ((0 : Int) ≤ 2 ∧ (2 : Int) < 1180) ∧ (xI (((h1532 68 2) + 1) - 1)) ∧ xfR 0 (((h1532 68 2) + 1) - 1) ∧ xKZ = xKZ ∧ Q (((h1532 68 2) + 1) - 1) (xup h1532 68 2 ((h1532 68 2) + 1))
    refine ⟨⟨by decide, by decide⟩, ?_⟩
    refine ⟨h.1, ?_⟩
    replace h := h.2
    refine ⟨⟨by decide, by decide⟩, ?_⟩
    refine ⟨⟨by decide, by decide⟩, ?_⟩
    refine ⟨h.1, ?_⟩
    replace h := h.2
    exact ⟨trivial, rfl, h⟩
  · replace h := h.2 k_
    exact ⟨trivial, rfl, h⟩
theorem U_193_96 {X : Int × (Int → Int)} {d : Nat} {Q : Int → XH → Prop} (hd : 0 ≤ d) (H : XH) (h : ((H 67 38 = 0) → (xc X d 176 [(2, 67)] H (fun (J1535 : Int) (h1534 : XH) => xq X d 193 Q 74 [(0, (2, 67))] [] h1534))) ∧ (¬ (H 67 38 = 0) → ((H 67 38 = 1) → (xc X d 181 [(2, 67)] H (fun (J1537 : Int) (h1536 : XH) => xq X d 193 Q 74 [(0, (2, 67))] [] h1536))) ∧ (¬ (H 67 38 = 1) → ((H 67 38 = 2) → (xc X d 188 [(2, 67)] H (fun (J1539 : Int) (h1538 : XH) => xq X d 193 Q 74 [(0, (2, 67))] [] h1538))) ∧ (¬ (H 67 38 = 2) → ((H 67 38 = 3) → (xc X d 189 [(2, 67)] H (fun (J1541 : Int) (h1540 : XH) => xq X d 193 Q 74 [(0, (2, 67))] [] h1540))) ∧ (¬ (H 67 38 = 3) → (xc X d 191 [(2, 67)] H (fun (J1543 : Int) (h1542 : XH) => xq X d 193 Q 74 [(0, (2, 67))] [] h1542))))))) : xq X d 193 Q 96 [(0, (2, 67))] [] H := by
  show xq X d 193 Q 96 [(0, (2, 67))] [] H
  refine xq_run [74, 96, 136, 143, 150, 157, 164, 167, 202, 100074] 300 ?_
  show ((H 67 38 = 0) → xWM (xE X) xMC d 176 [(2, 67)] xKZ H _) ∧ (¬ (H 67 38 = 0) → ((H 67 38 = 1) → xWM (xE X) xMC d 181 [(2, 67)] xKZ H _) ∧ (¬ (H 67 38 = 1) → ((H 67 38 = 2) → xWM (xE X) xMC d 188 [(2, 67)] xKZ H _) ∧ (¬ (H 67 38 = 2) → ((H 67 38 = 3) → xWM (xE X) xMC d 189 [(2, 67)] xKZ H _) ∧ (¬ (H 67 38 = 3) → xWM (xE X) xMC d 191 [(2, 67)] xKZ H _))))
  refine ⟨fun k_ => ?_, fun k_ => ?_⟩
  · replace h := h.1 k_
    refine xc_in (xc_mono (fun J1535 h1534 q_ => ?_) h)
    replace h := q_
    show xq X d 193 Q 136 [(0, (2, 67))] [] h1534
    refine xq_run [74, 96, 136, 143, 150, 157, 164, 167, 202, 100074] 300 ?_
    show xq X d 193 Q 100074 [(0, (2, 67))] [] h1534
    show xq X d 193 Q 100074 [(0, (2, 67))] [] h1534
    refine xq_run [74, 96, 136, 143, 150, 157, 164, 167, 202, 100074] 300 ?_
    show xq X d 193 Q 74 [(0, (2, 67))] [] h1534
    exact h
  · replace h := h.2 k_
    refine ⟨fun k_ => ?_, fun k_ => ?_⟩
    · replace h := h.1 k_
      refine xc_in (xc_mono (fun J1537 h1536 q_ => ?_) h)
      replace h := q_
      show xq X d 193 Q 143 [(0, (2, 67))] [] h1536
      refine xq_run [74, 96, 136, 143, 150, 157, 164, 167, 202, 100074] 300 ?_
      show xq X d 193 Q 100074 [(0, (2, 67))] [] h1536
      show xq X d 193 Q 100074 [(0, (2, 67))] [] h1536
      refine xq_run [74, 96, 136, 143, 150, 157, 164, 167, 202, 100074] 300 ?_
      show xq X d 193 Q 74 [(0, (2, 67))] [] h1536
      exact h
    · replace h := h.2 k_
      refine ⟨fun k_ => ?_, fun k_ => ?_⟩
      · replace h := h.1 k_
        refine xc_in (xc_mono (fun J1539 h1538 q_ => ?_) h)
        replace h := q_
        show xq X d 193 Q 150 [(0, (2, 67))] [] h1538
        refine xq_run [74, 96, 136, 143, 150, 157, 164, 167, 202, 100074] 300 ?_
        show xq X d 193 Q 100074 [(0, (2, 67))] [] h1538
        show xq X d 193 Q 100074 [(0, (2, 67))] [] h1538
        refine xq_run [74, 96, 136, 143, 150, 157, 164, 167, 202, 100074] 300 ?_
        show xq X d 193 Q 74 [(0, (2, 67))] [] h1538
        exact h
      · replace h := h.2 k_
        refine ⟨fun k_ => ?_, fun k_ => ?_⟩
        · replace h := h.1 k_
          refine xc_in (xc_mono (fun J1541 h1540 q_ => ?_) h)
          replace h := q_
          show xq X d 193 Q 157 [(0, (2, 67))] [] h1540
          refine xq_run [74, 96, 136, 143, 150, 157, 164, 167, 202, 100074] 300 ?_
          show xq X d 193 Q 100074 [(0, (2, 67))] [] h1540
          show xq X d 193 Q 100074 [(0, (2, 67))] [] h1540
          refine xq_run [74, 96, 136, 143, 150, 157, 164, 167, 202, 100074] 300 ?_
          show xq X d 193 Q 74 [(0, (2, 67))] [] h1540
          exact h
        · replace h := h.2 k_
          refine xc_in (xc_mono (fun J1543 h1542 q_ => ?_) h)
          replace h := q_
          show xq X d 193 Q 164 [(0, (2, 67))] [] h1542
          refine xq_run [74, 96, 136, 143, 150, 157, 164, 167, 202, 100074] 300 ?_
          show xq X d 193 Q 100074 [(0, (2, 67))] [] h1542
          show xq X d 193 Q 100074 [(0, (2, 67))] [] h1542
          refine xq_run [74, 96, 136, 143, 150, 157, 164, 167, 202, 100074] 300 ?_
          show xq X d 193 Q 74 [(0, (2, 67))] [] h1542
          exact h

/-- how the model stands behind its reading of a law: s is where the machine came to -/
def lwM (n : Int) (B : Int → Int) (H : XH) (s : MS) (r : Int) (h : XH) : Prop := (∀ o, ¬ o = 67 → ¬ o = 68 → ¬ (71 ≤ o ∧ o ≤ 75) → ¬ (86 ≤ o ∧ o ≤ 93) → h o = H o) ∧ (∀ k, k < 24 → ¬ k = 5 → ¬ k = 6 → ¬ k = 7 → h 67 k = H 67 k) ∧ h 67 5 = 0 ∧
  ((10 ≤ s.1 ∧ r = -1 ∧ h 68 = H 68 ∧ (∀ o, 71 ≤ o → o ≤ 75 → h o = H o) ∧ h 67 6 = s.1 - 10 ∧ h 67 7 = B s.2.1) ∨
   (s.1 = 4 ∧ r = H 68 2 ∧ h 68 = xup H 68 2 (H 68 2 + 1) 68 ∧ h 67 6 = 0 ∧ h 67 7 = -1 ∧ h 71 (H 68 2) = (s.2.2.2.2.2.2.length : Int) ∧ (∀ k : Nat, k < s.2.2.2.2.2.2.length → h 72 (10 * H 68 2 + k) = (s.2.2.2.2.2.2.getD k (0, 0)).1 ∧ h 73 (10 * H 68 2 + k) = 400 * H 68 2 + (s.2.2.2.2.2.2.getD k (0, 0)).2) ∧ (∀ k : Nat, k < s.2.2.2.2.2.1.length → orR (s.2.2.2.2.2.1.getD k 0) (h 74 (400 * H 68 2 + k)) (h 75 (400 * H 68 2 + k))) ∧ (∀ j, ¬ j = H 68 2 → h 71 j = H 71 j) ∧ (∀ j, ¬ (10 * H 68 2 ≤ j ∧ j < 10 * H 68 2 + 10) → h 72 j = H 72 j ∧ h 73 j = H 73 j) ∧ ∀ j, ¬ (400 * H 68 2 ≤ j ∧ j < 400 * H 68 2 + 400) → h 74 j = H 74 j ∧ h 75 j = H 75 j))
/-- where the machine ends -/
def mFin (K : Int → Int) (s : MS) : Prop := (10 < s.1 ∧ s.1 ≤ 15) ∨ (s.1 = 4 ∧ K s.2.1 = 21 ∧ s.2.2.2.2.2.1.length ≤ 300 ∧ s.2.2.2.2.2.2.length ≤ 10 ∧ ∀ p ∈ s.2.2.2.2.2.2, 0 ≤ p.2 ∧ p.2 ≤ 1000)
theorem tk_0 {k v s u : Int} (h : (k = 21 ∧ s = 0) ∨ tkR k v s u) : s = 0 ↔ k = 21 := by
  rcases h with ⟨q1, q2⟩ | ⟨q1, q2, q3⟩ | ⟨q1, q2, q3, q4⟩ | ⟨q2, q1⟩ | ⟨q1, q2, q3⟩
  · omega
  · omega
  · omega
  · rcases q1 with ⟨q1, q3⟩ | ⟨q1, q3⟩ | ⟨q1, q3⟩ | ⟨q1, q3⟩ | ⟨q1, q3⟩ | ⟨q1, q3⟩ | ⟨q1, q3⟩ | ⟨q1, q3⟩ | ⟨q1, q3⟩ | ⟨q1, q3⟩ | ⟨q1, q3⟩ | ⟨q1, q3⟩ | ⟨q1, q3⟩ <;> omega
  · omega
theorem s_193 {X : Int × (Int → Int)} {d : Nat} {Q : Int → XH → Prop} (hd : 14 ≤ d) {t : Int → Int} {n T : Int} {B K N E : Int → Int} (H : XH) (hl : 0 ≤ H 68 2 ∧ H 68 2 < 4) (h5 : H 67 5 = n) (tk : TKS t n T B K N E) (hb : ∀ i, 0 ≤ i → i < n → byR (t i) (H 70 i)) (hn : 0 ≤ n ∧ n ≤ 300) {k : Nat} {s' : MS} (go : mGo K N T k mS_s s') (fin : mFin K s') (hQ : ∀ r h1, lwM n B H s' r h1 → Q r h1) : xc X d 193 [(2, 67)] H Q := by
  cases d with
  | zero => omega
  | succ d =>
  obtain ⟨H0, hH0⟩ : ∃ H0, xup (xup H 67 24 n) 67 5 0 = H0 := ⟨_, rfl⟩
  have g67 : ∀ k, ¬ k = 24 → ¬ k = 5 → H0 67 k = H 67 k := fun k a b => by rw [← hH0, xup_k b, xup_k a]
  have go_ : ∀ o, ¬ o = 67 → H0 o = H o := fun o a => by rw [← hH0, xup_ne a, xup_ne a]
  have g5 : H0 67 5 = 0 := by rw [← hH0, xup_self]
  have g24 : H0 67 24 = n := by rw [← hH0, xup_k (by decide), xup_self]
  have cx : cXp t H0 n T B K N E := ⟨tk, by rw [go_ 70 (by decide)]; exact hb, g24, hn⟩
  have hK : K T = 21 := tk.2.2.2.2.2.2
  have k167 : ∀ h, mRl H0 n T B K N E s' h → xq X d 193 Q 167 [(0, (2, 67))] [] h := by
    intro h m
    obtain ⟨st, i, o, F, W, O, C⟩ := s'
    have frm : frM2 H0 h := by
      rcases m with ⟨-, m⟩ | ⟨-, m⟩
      · exact m.1
      · exact m.1
    have f68 : h 68 = H 68 := (frm.1 68 (by decide) (by decide)).trans (go_ 68 (by decide))
    have fo : ∀ o, ¬ o = 67 → ¬ (86 ≤ o ∧ o ≤ 93) → h o = H o := fun o a b => (frm.1 o a b).trans (go_ o a)
    have ff : ∀ k, k < 24 → ¬ k = 5 → h 67 k = H 67 k := fun k a b => (frm.2 k (by omega)).trans (g67 k (by omega) b)
    have f5 : h 67 5 = 0 := (frm.2 5 (by decide)).trans g5
    rcases fin with ⟨fa, fb⟩ | ⟨fa, fk, fO, fC, fp⟩
    · have fa : 10 < st := fa
      have fb : st ≤ 15 := fb
      rcases m with ⟨m1, -⟩ | ⟨m1, m2, m3, m4⟩
      · omega
      refine U_193_167 (by omega) h ?_
      rw [m3, m4]
      refine ⟨fun c1 => ?_, fun c1 => ?_⟩
      · skip
        exfalso
        omega
      · skip
        refine hQ _ _ ⟨fun o a b c e => by rw [xup_ne a, xup_ne a]; exact fo o a e, fun k a b c e => by rw [xup_k e, xup_k c]; exact ff k a b, by rw [xup_k (by decide), xup_k (by decide)]; exact f5, Or.inl ⟨m1, rfl, f68, fun o a b => by rw [xup_ne (by omega), xup_ne (by omega)]; exact fo o (by omega) (by omega), by rw [xup_k (by decide), xup_self], xup_self _ _ _ _⟩⟩
    · have fa : st = 4 := fa
      subst fa
      have m := m.resolve_right (fun z => absurd z.1 (by decide))
      obtain ⟨-, m1, m2, m3, m4, m5, m6, m7, m8, m9, m10⟩ := m
      have e39 : h 67 39 = (C.length : Int) := m8.trans (if_pos rfl)
      have hc := m9.1
      have ho := m10.2
      have fC : C.length ≤ 10 := fC
      have fO : O.length ≤ 300 := fO
      refine U_193_167 (by omega) h ?_
      rw [m3.1, m3.2, f68]
      refine ⟨fun c1 => ?_, fun c1 => ?_⟩
      · skip
        refine s_192 (by omega) (H 68 2) (C.length : Int) (O.length : Int) _ (by omega) e39 m10.1 (by omega) (by omega) (fun j a b => ?_) (fun h1550 kt => ?_)
        · show 0 ≤ h 91 j ∧ h 91 j ≤ 1000
          have z := (hc j.toNat (by omega)).2
          rw [Int.toNat_of_nonneg a] at z
          rw [z]
          refine fp _ ?_
          show C.getD j.toNat (0, 0) ∈ C
          rw [List.getD_eq_getElem?_getD, List.getElem?_eq_getElem (by omega)]
          exact List.getElem_mem _
        have e68 : h1550 68 2 = H 68 2 := by
          rw [kt.1 68 (by decide)]
          exact congrFun f68 2
        refine ⟨?_, ?_⟩
        · first | omega | decide | (rw [e68]; unfold xI; omega) | (rw [e68]; omega) | (unfold xI; omega) | (exfalso; omega)
        refine ⟨?_, ?_⟩
        · first | omega | decide | (rw [e68]; unfold xI; omega) | (rw [e68]; omega) | (unfold xI; omega) | (exfalso; omega)
        rw [e68]
        rw [show H 68 2 + 1 - 1 = H 68 2 by omega]
        refine hQ _ _ ⟨fun o a b c e => ?_, fun k a b c e => ?_, ?_, Or.inr ⟨rfl, rfl, ?_, ?_, ?_, ?_, fun k q => ⟨?_, ?_⟩, fun k q => ?_, fun j q => ?_, fun j q => ⟨?_, ?_⟩, fun j q => ⟨?_, ?_⟩⟩⟩
        · rw [xup_ne b, kt.1 o (by omega), xup_ne a, xup_ne a]
          exact fo o a e
        · rw [xup_ne (by decide), kt.1 67 (by decide), xup_k e, xup_k c]
          exact ff k a b
        · rw [xup_ne (by decide), kt.1 67 (by decide), xup_k (by decide), xup_k (by decide)]
          exact f5
        · funext j
          rw [xup_eq, xup_eq, kt.1 68 (by decide), xup_ne (by decide), xup_ne (by decide), f68]
        · rw [xup_ne (by decide), kt.1 67 (by decide), xup_k (by decide), xup_self]
        · rw [xup_ne (by decide), kt.1 67 (by decide), xup_self]
        · rw [xup_ne (by decide), kt.2.1, if_pos rfl]
        · have z := hc k q
          rw [xup_ne (by decide), kt.2.2.1, if_pos (by have q : k < C.length := q; omega), show 10 * H 68 2 + (k : Int) - 10 * H 68 2 = (k : Int) by omega]
          exact z.1
        · have z := hc k q
          rw [xup_ne (by decide), kt.2.2.2.1, if_pos (by have q : k < C.length := q; omega), show 10 * H 68 2 + (k : Int) - 10 * H 68 2 = (k : Int) by omega]
          show 400 * H 68 2 + h 91 (k : Int) = _
          rw [z.2]
        · have z := ho k q
          rw [xup_ne (by decide), xup_ne (by decide), kt.2.2.2.2.1, kt.2.2.2.2.2, if_pos (by have q : k < O.length := q; omega), if_pos (by have q : k < O.length := q; omega), show 400 * H 68 2 + (k : Int) - 400 * H 68 2 = (k : Int) by omega]
          exact z
        · rw [xup_ne (by decide), kt.2.1, if_neg q]
          show h 71 j = _
          rw [fo 71 (by decide) (by decide)]
        · rw [xup_ne (by decide), kt.2.2.1, if_neg (by omega)]
          show h 72 j = _
          rw [fo 72 (by decide) (by decide)]
        · rw [xup_ne (by decide), kt.2.2.2.1, if_neg (by omega)]
          show h 73 j = _
          rw [fo 73 (by decide) (by decide)]
        · rw [xup_ne (by decide), kt.2.2.2.2.1, if_neg (by omega)]
          show h 74 j = _
          rw [fo 74 (by decide) (by decide)]
        · rw [xup_ne (by decide), kt.2.2.2.2.2, if_neg (by omega)]
          show h 75 j = _
          rw [fo 75 (by decide) (by decide)]
      · skip
        exfalso
        omega
  have key : ∀ (k : Nat) (s : MS) (h : XH), mGo K N T k s s' → mRl H0 n T B K N E s h → xq X d 193 Q 74 [(0, (2, 67))] [] h := by
    intro k
    induction k with
    | zero =>
      intro s h g m
      have e : s = s' := g
      subst e
      have z := k167 h m
      obtain ⟨st, i, o, F, W, O, C⟩ := s
      rcases fin with ⟨fa, fb⟩ | ⟨fa, fk, -⟩
      · have fa : 10 < st := fa
        rcases m with ⟨m1, -⟩ | ⟨m1, m2, m3, m4⟩
        · omega
        refine U_193_74 (by omega) h ?_
        rw [m3]
        refine ⟨fun c1 => ?_, fun c1 => ?_⟩
        · skip
          exact z
        · skip
          refine ⟨fun c2 => ?_, fun c2 => ?_⟩
          · skip
            exfalso
            omega
          · skip
            refine ⟨fun c3 => ?_, fun c3 => ?_⟩
            · skip
              exfalso
              omega
            · skip
              exfalso
              omega
      · have fa : st = 4 := fa
        subst fa
        have m := m.resolve_right (fun z => absurd z.1 (by decide))
        have e27 := (tk_0 (hT_or hK m.2.2.1)).mpr fk
        have e29 := m.2.2.2.1.1
        have e38 := m.2.2.2.2.2.2.2.1
        refine U_193_74 (by omega) h ?_
        rw [e29, e38, e27]
        refine ⟨fun c1 => ?_, fun c1 => ?_⟩
        · skip
          exfalso
          omega
        · skip
          refine ⟨fun c2 => ?_, fun c2 => ?_⟩
          · skip
            exfalso
            omega
          · skip
            refine ⟨fun c3 => ?_, fun c3 => ?_⟩
            · skip
              exact z
            · skip
              exfalso
              omega
    | succ k ih =>
      intro s h g m
      obtain ⟨ok, g⟩ := g
      obtain ⟨st, i, o, F, W, O, C⟩ := s
      have st1 := ok.1
      have m := m.resolve_right (fun z => by have := z.1; omega)
      have n4 := ok.2.1
      have e27 := tk_0 (hT_or hK m.2.2.1)
      have e29 := m.2.2.2.1.1
      have e38 := m.2.2.2.2.2.2.2.1
      have m := m.2
      have z96 : xq X d 193 Q 96 [(0, (2, 67))] [] h := by
        rcases (show st = 0 ∨ st = 1 ∨ st = 2 ∨ st = 3 ∨ st = 4 by omega) with q | q | q | q | q <;> subst q
        · refine U_193_96 (by omega) h ?_
          rw [e38]
          refine ⟨fun c1 => ?_, fun c1 => ?_⟩
          · skip
            refine s_176m (by omega) cx m ok (fun h1560 r => ?_)
            have nx := ih _ _ g r
            exact nx
          · skip
            refine ⟨fun c2 => ?_, fun c2 => ?_⟩
            · skip
              exfalso
              omega
            · skip
              refine ⟨fun c3 => ?_, fun c3 => ?_⟩
              · skip
                exfalso
                omega
              · skip
                refine ⟨fun c4 => ?_, fun c4 => ?_⟩
                · skip
                  exfalso
                  omega
                · skip
                  exfalso
                  omega
        · refine U_193_96 (by omega) h ?_
          rw [e38]
          refine ⟨fun c1 => ?_, fun c1 => ?_⟩
          · skip
            exfalso
            omega
          · skip
            refine ⟨fun c2 => ?_, fun c2 => ?_⟩
            · skip
              refine s_181m (by omega) cx m ok (fun h1576 r => ?_)
              have nx := ih _ _ g r
              exact nx
            · skip
              refine ⟨fun c3 => ?_, fun c3 => ?_⟩
              · skip
                exfalso
                omega
              · skip
                refine ⟨fun c4 => ?_, fun c4 => ?_⟩
                · skip
                  exfalso
                  omega
                · skip
                  exfalso
                  omega
        · refine U_193_96 (by omega) h ?_
          rw [e38]
          refine ⟨fun c1 => ?_, fun c1 => ?_⟩
          · skip
            exfalso
            omega
          · skip
            refine ⟨fun c2 => ?_, fun c2 => ?_⟩
            · skip
              exfalso
              omega
            · skip
              refine ⟨fun c3 => ?_, fun c3 => ?_⟩
              · skip
                refine s_188m (by omega) cx m ok (fun h1592 r => ?_)
                have nx := ih _ _ g r
                exact nx
              · skip
                refine ⟨fun c4 => ?_, fun c4 => ?_⟩
                · skip
                  exfalso
                  omega
                · skip
                  exfalso
                  omega
        · refine U_193_96 (by omega) h ?_
          rw [e38]
          refine ⟨fun c1 => ?_, fun c1 => ?_⟩
          · skip
            exfalso
            omega
          · skip
            refine ⟨fun c2 => ?_, fun c2 => ?_⟩
            · skip
              exfalso
              omega
            · skip
              refine ⟨fun c3 => ?_, fun c3 => ?_⟩
              · skip
                exfalso
                omega
              · skip
                refine ⟨fun c4 => ?_, fun c4 => ?_⟩
                · skip
                  refine s_189m (by omega) cx m ok (fun h1608 r => ?_)
                  have nx := ih _ _ g r
                  exact nx
                · skip
                  exfalso
                  omega
        · refine U_193_96 (by omega) h ?_
          rw [e38]
          refine ⟨fun c1 => ?_, fun c1 => ?_⟩
          · skip
            exfalso
            omega
          · skip
            refine ⟨fun c2 => ?_, fun c2 => ?_⟩
            · skip
              exfalso
              omega
            · skip
              refine ⟨fun c3 => ?_, fun c3 => ?_⟩
              · skip
                exfalso
                omega
              · skip
                refine ⟨fun c4 => ?_, fun c4 => ?_⟩
                · skip
                  exfalso
                  omega
                · skip
                  refine s_191m (by omega) cx m ok (fun h1624 r => ?_)
                  have nx := ih _ _ g r
                  exact nx
      refine U_193_74 (by omega) h ?_
      rw [e29, e38]
      refine ⟨fun c1 => ?_, fun c1 => ?_⟩
      · skip
        exfalso
        omega
      · skip
        refine ⟨fun c2 => ?_, fun c2 => ?_⟩
        · skip
          exact z96
        · skip
          refine ⟨fun c3 => ?_, fun c3 => ?_⟩
          · skip
            exact absurd ⟨by omega, e27.mp (by assumption)⟩ n4
          · skip
            exact z96
  refine U_193 (by omega) H ?_
  rw [h5]
  refine ⟨fun c1 => ?_, fun c1 => ?_⟩
  · skip
    have b0 : (E 0 ≤ B 0 ∧ B 0 ≤ n) ∧ (∀ x, E 0 ≤ x → x < B 0 → isBl (t x)) ∧ (B 0 < n → ¬ isBl (t (B 0))) := by
      obtain ⟨u1, u2, u3, u4, u5, u6, u7⟩ := tk
      by_cases y : (0 : Int) = T
      · rw [y, u6]
        exact ⟨⟨u4, Int.le_refl _⟩, u5, fun z => by omega⟩
      · have z := u3 0 (by omega) (by omega)
        exact ⟨⟨z.1.1, by omega⟩, z.2.1, fun _ => z.2.2.1⟩
    have E0 : E 0 = 0 := tk.2.1
    refine s_171 (by omega) (t := t) (b := H 70) (n := n) (a := 0) (p := B 0) rfl rfl rfl hb hn (by omega) (fun x y z => b0.2.1 x (by omega) z) b0.2.2 (fun h1628 nx k1 k2 => ?_)
    refine key k mS_s _ go (Or.inl ⟨by decide, ?_, ⟨by have := tk.1; omega, ?_⟩, ?_, ?_, ⟨?_, trivial⟩, ⟨?_, trivial⟩, ?_, ?_, ⟨fun k q => absurd q (Nat.not_lt_zero k), fun p hp => by cases hp⟩, ⟨?_, fun k q => absurd q (Nat.not_lt_zero k)⟩⟩)
    · refine ⟨fun o a b => ?_, fun k a => ?_⟩
      · rw [nx.1 o a, xup_ne a, xup_ne a, xup_ne a, xup_ne a, xup_ne a, xup_ne a, xup_ne a, xup_ne a, xup_ne a, xup_ne a, xup_ne a, go_ o a]
      · rw [nx.2 k (by omega), xup_k (by omega), xup_k (by omega), xup_k (by omega), xup_k (by omega), xup_k (by omega), xup_k (by omega), xup_k (by omega), xup_k (by omega), xup_k (by omega), ← hH0]
    · by_cases y : (0 : Int) = T
      · have z := k1 (by rw [y]; exact tk.2.2.2.2.2.1)
        exact Or.inr ⟨y, z.2.1, z.2.2⟩
      · have z := tk.2.2.1 0 (by decide) (by have := tk.1; omega)
        have w := k2 _ _ _ z.1.2 z.2.2.2
        exact Or.inl ⟨by have := tk.1; omega, w.1, w.2.1, w.2.2⟩
    · exact ⟨nx.2 29 (by decide), nx.2 30 (by decide)⟩
    · exact nx.2 31 (by decide)
    · exact nx.2 32 (by decide)
    · exact nx.2 35 (by decide)
    · exact nx.2 38 (by decide)
    · exact nx.2 39 (by decide)
    · exact nx.2 42 (by decide)
  · skip
    exfalso
    omega
