/-! THE PURE LAYER 55: the law is read, the model: clauses -/
theorem U_190 {X : Int × (Int → Int)} {d : Nat} {Q : Int → XH → Prop} (hd : 0 ≤ d) (w : Int) (H : XH) (h : xq X d 190 Q 4 [(0, (2, 67)), (1, (0, w)), (2, (0, 0)), (3, (0, 0))] [] H) : xc X (d + 1) 190 [(2, 67), (0, w)] H Q := by
  refine ⟨rfl, ?_⟩
  show xq X d 190 Q 100000 [(0, (2, 67)), (1, (0, w))] [] H
  refine xq_run [4] 300 ?_
  show xq X d 190 Q 4 [(0, (2, 67)), (1, (0, w)), (2, (0, 0)), (3, (0, 0))] [] H
  exact h
theorem U_190_4 {X : Int × (Int → Int)} {d : Nat} {Q : Int → XH → Prop} (hd : 0 ≤ d) (v1 v2 v3 : Int) (H : XH) (h : ((H 67 39 ≤ v3) → (0 ≤ v2 ∧ v2 ≤ 1) ∧ Q v2 H) ∧ (¬ (H 67 39 ≤ v3) → ((¬ v2 = 0) → (xI (v3 + 1)) ∧ xq X d 190 Q 4 [(0, (2, 67)), (1, (0, v1)), (2, (0, 1)), (3, (0, v3 + 1))] [] H) ∧ (¬ (¬ v2 = 0) → ((0 : Int) ≤ v3 ∧ (v3 : Int) < 10) ∧ ((¬ H 90 v3 = v1) → (xI (v3 + 1)) ∧ xq X d 190 Q 4 [(0, (2, 67)), (1, (0, v1)), (2, (0, 0)), (3, (0, v3 + 1))] [] H) ∧ (¬ (¬ H 90 v3 = v1) → (xI (v3 + 1)) ∧ xq X d 190 Q 4 [(0, (2, 67)), (1, (0, v1)), (2, (0, 1)), (3, (0, v3 + 1))] [] H)))) : xq X d 190 Q 4 [(0, (2, 67)), (1, (0, v1)), (2, (0, v2)), (3, (0, v3))] [] H := by
  show xq X d 190 Q 4 [(0, (2, 67)), (1, (0, v1)), (2, (0, v2)), (3, (0, v3))] [] H
  refine xq_run [4] 300 ?_
  show ((H 67 39 ≤ v3) → xfR 3 v2 ∧ xKZ = xKZ ∧ Q v2 H) ∧ (¬ (H 67 39 ≤ v3) → ((¬ v2 = 0) → (xI (v3 + 1)) ∧ xq X d 190 Q 4 [(0, (2, 67)), (1, (0, v1)), (2, (0, 1)), (3, (0, v3 + 1))] [] H) ∧ (¬ (¬ v2 = 0) → ((0 : Int) ≤ v3 ∧ (v3 : Int) < 10) ∧ ((¬ H 90 v3 = v1) → (xI (v3 + 1)) ∧ xq X d 190 Q 4 [(0, (2, 67)), (1, (0, v1)), (2, (0, 0)), (3, (0, v3 + 1))] [] H) ∧ (¬ (¬ H 90 v3 = v1) → (xI (v3 + 1)) ∧ xq X d 190 Q 4 [(0, (2, 67)), (1, (0, v1)), (2, (0, 1)), (3, (0, v3 + 1))] [] H)))
  refine ⟨fun k_ => ?_, fun k_ => ?_⟩
  · replace h := h.1 k_
    exact ⟨h.1, rfl, h.2⟩
  · replace h := h.2 k_
    refine ⟨fun k_ => ?_, fun k_ => ?_⟩
    · replace h := h.1 k_
      refine ⟨h.1, ?_⟩
      replace h := h.2
      exact h
    · replace h := h.2 k_
      refine ⟨h.1, ?_⟩
      replace h := h.2
      refine ⟨fun k_ => ?_, fun k_ => ?_⟩
      · replace h := h.1 k_
        refine ⟨h.1, ?_⟩
        replace h := h.2
        exact h
      · replace h := h.2 k_
        refine ⟨h.1, ?_⟩
        replace h := h.2
        exact h

theorem s_190m {X : Int × (Int → Int)} {d : Nat} {Q : Int → XH → Prop} (hd : 1 ≤ d) {H0 : XH} {n T : Int} {B K N E : Int → Int} {st nc i o : Int} {F W : List (Int × Int)} {O : List Int} {C : List (Int × Int)} {h : XH} (w : Int) (L_H : mHp H0 n T B K N E st nc i o F W O C h) (hn : nc = (C.length : Int)) (hC : C.length ≤ 10) (hQ : ∀ r, (r = 1 ∧ ∃ p ∈ C, p.1 = w) ∨ (r = 0 ∧ ¬ ∃ p ∈ C, p.1 = w) → Q r h) : xc X d 190 [(2, 67), (0, w)] h Q := by
  cases d with
  | zero => omega
  | succ d =>
  have e39 : h 67 39 = (C.length : Int) := L_H.2.2.2.2.2.2.2.1.trans hn
  have hc := L_H.2.2.2.2.2.2.2.2.1.1
  have at_ : ∀ k : Nat, k < C.length → C.getD k (0, 0) ∈ C := fun k q => by
    rw [List.getD_eq_getElem?_getD, List.getElem?_eq_getElem q]
    exact List.getElem_mem q
  have of_ : ∀ p ∈ C, ∃ k : Nat, k < C.length ∧ C.getD k (0, 0) = p := fun p hp => by
    obtain ⟨k, q, e⟩ := List.mem_iff_getElem.mp hp
    exact ⟨k, q, by rw [List.getD_eq_getElem?_getD, List.getElem?_eq_getElem q, e]; rfl⟩
  have key : ∀ (n k : Nat) (v : Int), k + n = C.length → ((v = 1 ∧ ∃ p ∈ C, p.1 = w) ∨ (v = 0 ∧ ∀ j : Nat, j < k → ¬ (C.getD j (0, 0)).1 = w)) → xq X d 190 Q 4 [(0, (2, 67)), (1, (0, w)), (2, (0, v)), (3, (0, (k : Int)))] [] h := by
    intro n
    induction n with
    | zero =>
      intro k v hk hv
      have z := hQ v (by
        rcases hv with q | ⟨q, q2⟩
        · exact Or.inl q
        · refine Or.inr ⟨q, fun ⟨p, hp, e⟩ => ?_⟩
          obtain ⟨k', a, b⟩ := of_ p hp
          exact q2 k' (by omega) (by rw [b]; exact e))
      refine U_190_4 (by omega) w v (k : Int) h ?_
      rw [e39]
      refine ⟨fun c1 => ?_, fun c1 => ?_⟩
      · skip
        refine ⟨?_, ?_⟩
        · first | omega | (clear key; omega) | (unfold xI; omega) | (rcases hv with ⟨q, -⟩ | ⟨q, -⟩ <;> omega) | (exfalso; omega)
        exact z
      · skip
        refine ⟨fun c2 => ?_, fun c2 => ?_⟩
        · skip
          refine ⟨?_, ?_⟩
          · first | omega | (clear key; omega) | (unfold xI; omega) | (rcases hv with ⟨q, -⟩ | ⟨q, -⟩ <;> omega) | (exfalso; omega)
          exfalso
          omega
        · skip
          refine ⟨?_, ?_⟩
          · first | omega | (clear key; omega) | (unfold xI; omega) | (rcases hv with ⟨q, -⟩ | ⟨q, -⟩ <;> omega) | (exfalso; omega)
          refine ⟨fun c3 => ?_, fun c3 => ?_⟩
          · skip
            refine ⟨?_, ?_⟩
            · first | omega | (clear key; omega) | (unfold xI; omega) | (rcases hv with ⟨q, -⟩ | ⟨q, -⟩ <;> omega) | (exfalso; omega)
            exfalso
            omega
          · skip
            refine ⟨?_, ?_⟩
            · first | omega | (clear key; omega) | (unfold xI; omega) | (rcases hv with ⟨q, -⟩ | ⟨q, -⟩ <;> omega) | (exfalso; omega)
            exfalso
            omega
    | succ n ih =>
      intro k v hk hv
      have hck := (hc k (by omega)).1
      have v01 : v = 0 ∨ v = 1 := by rcases hv with ⟨q, -⟩ | ⟨q, -⟩ <;> omega
      have c10 : (k : Int) < 10 := by omega
      have kC : (k : Int) < (C.length : Int) := by omega
      have nx : ∀ v', ((v' = 1 ∧ (v = 1 ∨ (C.getD k (0, 0)).1 = w)) ∨ (v' = 0 ∧ v = 0 ∧ ¬ (C.getD k (0, 0)).1 = w)) → xq X d 190 Q 4 [(0, (2, 67)), (1, (0, w)), (2, (0, v')), (3, (0, (k : Int) + 1))] [] h := fun v' q => by
        refine ih (k + 1) v' (by omega) ?_
        rcases q with ⟨q1, q2⟩ | ⟨q1, q2, q3⟩
        · rcases q2 with q2 | q2
          · rcases hv with ⟨-, z⟩ | ⟨z, -⟩
            · exact Or.inl ⟨q1, z⟩
            · exact absurd (z.symm.trans q2) (by decide)
          · exact Or.inl ⟨q1, _, at_ k (by omega), q2⟩
        · rcases hv with ⟨z, -⟩ | ⟨-, z⟩
          · exact absurd (q2.symm.trans z) (by decide)
          · refine Or.inr ⟨q1, fun j hj => ?_⟩
            by_cases y : j = k
            · rw [y]
              exact q3
            · exact z j (by omega)
      clear hv ih hQ
      refine U_190_4 (by omega) w v (k : Int) h ?_
      rw [e39, hck]
      refine ⟨fun c1 => ?_, fun c1 => ?_⟩
      · skip
        refine ⟨?_, ?_⟩
        · first | omega | (unfold xI; omega) | (exfalso; omega)
        exfalso
        omega
      · skip
        refine ⟨fun c2 => ?_, fun c2 => ?_⟩
        · skip
          refine ⟨?_, ?_⟩
          · first | omega | (unfold xI; omega) | (exfalso; omega)
          exact nx _ (by omega)
        · skip
          refine ⟨?_, ?_⟩
          · first | omega | (unfold xI; omega) | (exfalso; omega)
          refine ⟨fun c3 => ?_, fun c3 => ?_⟩
          · skip
            refine ⟨?_, ?_⟩
            · first | omega | (unfold xI; omega) | (exfalso; omega)
            exact nx _ (by omega)
          · skip
            refine ⟨?_, ?_⟩
            · first | omega | (unfold xI; omega) | (exfalso; omega)
            exact nx _ (by omega)
  refine U_190 (by omega) w h ?_
  exact key C.length 0 0 (by omega) (Or.inr ⟨rfl, fun j q => absurd q (Nat.not_lt_zero j)⟩)

theorem U_191 {X : Int × (Int → Int)} {d : Nat} {Q : Int → XH → Prop} (hd : 0 ≤ d) (H : XH) (h : ((¬ H 67 27 = 1) → (xc X d 173 [(2, 67), (0, 1)] H (fun (J1467 : Int) (h1466 : XH) => Q 0 h1466))) ∧ (¬ (¬ H 67 27 = 1) → ((H 67 28 ≤ 3) → xq X d 191 Q 22 [(0, (2, 67))] [] H) ∧ (¬ (H 67 28 ≤ 3) → (xc X d 173 [(2, 67), (0, 1)] H (fun (J1469 : Int) (h1468 : XH) => Q 0 h1468))))) : xc X (d + 1) 191 [(2, 67)] H Q := by
  refine ⟨rfl, ?_⟩
  show xq X d 191 Q 100000 [(0, (2, 67))] [] H
  refine xq_run [21, 22, 37, 45, 48, 62, 70, 97, 111] 300 ?_
  show ((¬ H 67 27 = 1) → xWM (xE X) xMC d 173 [(2, 67), (0, 1)] xKZ H _) ∧ (¬ (¬ H 67 27 = 1) → ((H 67 28 ≤ 3) → xq X d 191 Q 22 [(0, (2, 67))] [] H) ∧ (¬ (H 67 28 ≤ 3) → xWM (xE X) xMC d 173 [(2, 67), (0, 1)] xKZ H _))
  refine ⟨fun k_ => ?_, fun k_ => ?_⟩
  · replace h := h.1 k_
    refine xc_in (xc_mono (fun J1467 h1466 q_ => ?_) h)
    replace h := q_
    show xq X d 191 Q 21 [(0, (2, 67))] [] h1466
    refine xq_run [21, 22, 37, 45, 48, 62, 70, 97, 111] 300 ?_
    show xfR 2 0 ∧ xKZ = xKZ ∧ Q 0 h1466
    exact ⟨trivial, rfl, h⟩
  · replace h := h.2 k_
    refine ⟨fun k_ => ?_, fun k_ => ?_⟩
    · replace h := h.1 k_
      exact h
    · replace h := h.2 k_
      refine xc_in (xc_mono (fun J1469 h1468 q_ => ?_) h)
      replace h := q_
      show xq X d 191 Q 21 [(0, (2, 67))] [] h1468
      refine xq_run [21, 22, 37, 45, 48, 62, 70, 97, 111] 300 ?_
      show xfR 2 0 ∧ xKZ = xKZ ∧ Q 0 h1468
      exact ⟨trivial, rfl, h⟩
theorem U_191_22 {X : Int × (Int → Int)} {d : Nat} {Q : Int → XH → Prop} (hd : 0 ≤ d) (H : XH) (h : ((1 < H 67 28) → xq X d 191 Q 48 [(1, (0, H 67 28)), (0, (2, 67))] [] H) ∧ (¬ (1 < H 67 28) → (xc X d 190 [(2, 67), (0, H 67 28)] H (fun (J1471 : Int) (h1470 : XH) => ((J1471 = 0) → xq X d 191 Q 48 [(1, (0, H 67 28)), (0, (2, 67))] [] h1470) ∧ (¬ (J1471 = 0) → (xc X d 173 [(2, 67), (0, 4)] h1470 (fun (J1473 : Int) (h1472 : XH) => xq X d 191 Q 62 [(1, (0, H 67 28)), (0, (2, 67))] [] h1472))))))) : xq X d 191 Q 22 [(0, (2, 67))] [] H := by
  show xq X d 191 Q 22 [(0, (2, 67))] [] H
  refine xq_run [21, 22, 37, 45, 48, 62, 70, 97, 111] 300 ?_
  show ((1 < H 67 28) → xq X d 191 Q 48 [(1, (0, H 67 28)), (0, (2, 67))] [] H) ∧ (¬ (1 < H 67 28) → xWM (xE X) xMC d 190 [(2, 67), (0, H 67 28)] xKZ H _)
  refine ⟨fun k_ => ?_, fun k_ => ?_⟩
  · replace h := h.1 k_
    exact h
  · replace h := h.2 k_
    refine xc_in (xc_mono (fun J1471 h1470 q_ => ?_) h)
    replace h := q_
    show xq X d 191 Q 37 [(1, (0, H 67 28)), (0, (2, 67))] [(0, J1471)] h1470
    refine xq_run [21, 22, 37, 45, 48, 62, 70, 97, 111] 300 ?_
    show ((J1471 = 0) → xq X d 191 Q 48 [(1, (0, H 67 28)), (0, (2, 67))] [] h1470) ∧ (¬ (J1471 = 0) → xWM (xE X) xMC d 173 [(2, 67), (0, 4)] xKZ h1470 _)
    refine ⟨fun k_ => ?_, fun k_ => ?_⟩
    · replace h := h.1 k_
      exact h
    · replace h := h.2 k_
      refine xc_in (xc_mono (fun J1473 h1472 q_ => ?_) h)
      replace h := q_
      show xq X d 191 Q 45 [(1, (0, H 67 28)), (0, (2, 67))] [] h1472
      refine xq_run [21, 22, 37, 45, 48, 62, 70, 97, 111] 300 ?_
      show xq X d 191 Q 62 [(1, (0, H 67 28)), (0, (2, 67))] [] h1472
      exact h
theorem U_191_48 {X : Int × (Int → Int)} {d : Nat} {Q : Int → XH → Prop} (hd : 0 ≤ d) (v1 : Int) (H : XH) (h : ((¬ H 67 39 = 10) → xq X d 191 Q 62 [(1, (0, v1)), (0, (2, 67))] [] H) ∧ (¬ (¬ H 67 39 = 10) → (xc X d 173 [(2, 67), (0, 5)] H (fun (J1475 : Int) (h1474 : XH) => ((h1474 67 29 ≤ 0) → xq X d 191 Q 70 [(1, (0, v1)), (0, (2, 67))] [] h1474) ∧ (¬ (h1474 67 29 ≤ 0) → Q 0 h1474))))) : xq X d 191 Q 48 [(1, (0, v1)), (0, (2, 67))] [] H := by
  show xq X d 191 Q 48 [(1, (0, v1)), (0, (2, 67))] [] H
  refine xq_run [21, 22, 37, 45, 48, 62, 70, 97, 111] 300 ?_
  show ((¬ H 67 39 = 10) → xq X d 191 Q 62 [(1, (0, v1)), (0, (2, 67))] [] H) ∧ (¬ (¬ H 67 39 = 10) → xWM (xE X) xMC d 173 [(2, 67), (0, 5)] xKZ H _)
  refine ⟨fun k_ => ?_, fun k_ => ?_⟩
  · replace h := h.1 k_
    exact h
  · replace h := h.2 k_
    refine xc_in (xc_mono (fun J1475 h1474 q_ => ?_) h)
    replace h := q_
    show xq X d 191 Q 62 [(1, (0, v1)), (0, (2, 67))] [] h1474
    refine xq_run [21, 22, 37, 45, 48, 62, 70, 97, 111] 300 ?_
    show ((h1474 67 29 ≤ 0) → xq X d 191 Q 70 [(1, (0, v1)), (0, (2, 67))] [] h1474) ∧ (¬ (h1474 67 29 ≤ 0) → xfR 2 0 ∧ xKZ = xKZ ∧ Q 0 h1474)
    refine ⟨fun k_ => ?_, fun k_ => ?_⟩
    · replace h := h.1 k_
      exact h
    · replace h := h.2 k_
      exact ⟨trivial, rfl, h⟩
theorem U_191_62 {X : Int × (Int → Int)} {d : Nat} {Q : Int → XH → Prop} (hd : 0 ≤ d) (v1 : Int) (H : XH) (h : ((H 67 29 ≤ 0) → xq X d 191 Q 70 [(1, (0, v1)), (0, (2, 67))] [] H) ∧ (¬ (H 67 29 ≤ 0) → Q 0 H)) : xq X d 191 Q 62 [(1, (0, v1)), (0, (2, 67))] [] H := by
  show xq X d 191 Q 62 [(1, (0, v1)), (0, (2, 67))] [] H
  refine xq_run [21, 22, 37, 45, 48, 62, 70, 97, 111] 300 ?_
  show ((H 67 29 ≤ 0) → xq X d 191 Q 70 [(1, (0, v1)), (0, (2, 67))] [] H) ∧ (¬ (H 67 29 ≤ 0) → xfR 2 0 ∧ xKZ = xKZ ∧ Q 0 H)
  refine ⟨fun k_ => ?_, fun k_ => ?_⟩
  · replace h := h.1 k_
    exact h
  · replace h := h.2 k_
    exact ⟨trivial, rfl, h⟩
theorem U_191_70 {X : Int × (Int → Int)} {d : Nat} {Q : Int → XH → Prop} (hd : 0 ≤ d) (v1 : Int) (H : XH) (h : ((0 : Int) ≤ H 67 39 ∧ (H 67 39 : Int) < 10) ∧ ((0 : Int) ≤ H 67 39 ∧ (H 67 39 : Int) < 10) ∧ (xc X d 171 [(2, 67)] (xup (xup H 90 (H 67 39) v1) 91 (H 67 39) (H 67 42)) (fun (J1477 : Int) (h1476 : XH) => ((1 < v1) → (xc X d 174 [(2, 67), (0, 2)] h1476 (fun (J1479 : Int) (h1478 : XH) => ((1 < v1) → Q 0 (xup h1478 67 38 0)) ∧ (¬ (1 < v1) → Q 0 (xup h1478 67 38 1))))) ∧ (¬ (1 < v1) → (xc X d 174 [(2, 67), (0, 1)] h1476 (fun (J1481 : Int) (h1480 : XH) => ((1 < v1) → Q 0 (xup h1480 67 38 0)) ∧ (¬ (1 < v1) → Q 0 (xup h1480 67 38 1)))))))) : xq X d 191 Q 70 [(1, (0, v1)), (0, (2, 67))] [] H := by
  show xq X d 191 Q 70 [(1, (0, v1)), (0, (2, 67))] [] H
  refine xq_run [21, 22, 37, 45, 48, 62, 70, 97, 111] 300 ?_
  show ((0 : Int) ≤ H 67 39 ∧ (H 67 39 : Int) < 10) ∧ ((0 : Int) ≤ H 67 39 ∧ (H 67 39 : Int) < 10) ∧ xWM (xE X) xMC d 171 [(2, 67)] xKZ (xup (xup H 90 (H 67 39) v1) 91 (H 67 39) (H 67 42)) _
  refine ⟨h.1, ?_⟩
  replace h := h.2
  refine ⟨h.1, ?_⟩
  replace h := h.2
  refine xc_in (xc_mono (fun J1477 h1476 q_ => ?_) h)
  replace h := q_
  show xq X d 191 Q 97 [(1, (0, v1)), (0, (2, 67))] [] h1476
  refine xq_run [21, 22, 37, 45, 48, 62, 70, 97, 111] 300 ?_
  show ((1 < v1) → xWM (xE X) xMC d 174 [(2, 67), (0, 2)] xKZ h1476 _) ∧ (¬ (1 < v1) → xWM (xE X) xMC d 174 [(2, 67), (0, 1)] xKZ h1476 _)
  refine ⟨fun k_ => ?_, fun k_ => ?_⟩
  · replace h := h.1 k_
    refine xc_in (xc_mono (fun J1479 h1478 q_ => ?_) h)
    replace h := q_
    show xq X d 191 Q 111 [(1, (0, v1)), (0, (2, 67))] [] h1478
    refine xq_run [21, 22, 37, 45, 48, 62, 70, 97, 111] 300 ?_
    show ((1 < v1) → xfR 2 0 ∧ xKZ = xKZ ∧ Q 0 (xup h1478 67 38 0)) ∧ (¬ (1 < v1) → xfR 2 0 ∧ xKZ = xKZ ∧ Q 0 (xup h1478 67 38 1))
    refine ⟨fun k_ => ?_, fun k_ => ?_⟩
    · replace h := h.1 k_
      exact ⟨trivial, rfl, h⟩
    · replace h := h.2 k_
      exact ⟨trivial, rfl, h⟩
  · replace h := h.2 k_
    refine xc_in (xc_mono (fun J1481 h1480 q_ => ?_) h)
    replace h := q_
    show xq X d 191 Q 111 [(1, (0, v1)), (0, (2, 67))] [] h1480
    refine xq_run [21, 22, 37, 45, 48, 62, 70, 97, 111] 300 ?_
    show ((1 < v1) → xfR 2 0 ∧ xKZ = xKZ ∧ Q 0 (xup h1480 67 38 0)) ∧ (¬ (1 < v1) → xfR 2 0 ∧ xKZ = xKZ ∧ Q 0 (xup h1480 67 38 1))
    refine ⟨fun k_ => ?_, fun k_ => ?_⟩
    · replace h := h.1 k_
      exact ⟨trivial, rfl, h⟩
    · replace h := h.2 k_
      exact ⟨trivial, rfl, h⟩

theorem s_191m {X : Int × (Int → Int)} {d : Nat} {Q : Int → XH → Prop} (hd : 9 ≤ d) {t : Int → Int} {H0 : XH} {n T : Int} {B K N E : Int → Int} {i o : Int} {F W : List (Int × Int)} {O : List Int} {C : List (Int × Int)} {h : XH} (cx : cXp t H0 n T B K N E) (L_H : mHp H0 n T B K N E 4 (mNc 4 C) i o F W O C h) (ok : mOk K T (4, i, o, F, W, O, C)) (hQ : ∀ h1, mRl H0 n T B K N E (mS4 K i o F W O C) h1 → Q 0 h1) : xc X d 191 [(2, 67)] h Q := by
  cases d with
  | zero => omega
  | succ d =>
  have hK : K T = 21 := cx.1.2.2.2.2.2.2
  have tk := hT_or hK L_H.2.1
  have iT : ¬ K i = 21 → i < T := fun z => by
    have := L_H.2.1.1
    by_cases y : i = T
    · exact absurd (by rw [y]; exact hK) z
    · omega
  obtain ⟨-, k4, i1, o1, F1, W1, O1, C1, C2, fb⟩ := ok
  have fE := tkE tk
  have nC : mNc 4 C = (C.length : Int) := if_pos rfl
  have e39 : h 67 39 = (C.length : Int) := L_H.2.2.2.2.2.2.2.1.trans nC
  have e42 := L_H.2.2.2.2.2.2.2.2.2.1
  have e29 := L_H.2.2.1.1
  have k111 : ∀ (v x : Int) (h' : XH), (0 ≤ v ∧ v ≤ 3) → 0 ≤ i → (v = K i) → mHp H0 n T B K N E 4 ((C ++ [(v, (O.length : Int))]).length - 1) (i + 1) o (((if v ≤ 1 then 1 else 2), 0) :: F) W O (C ++ [(v, (O.length : Int))]) h' → (0 ≤ K i ∧ K i ≤ 3) → ¬ (K i ≤ 1 ∧ ∃ p ∈ C, p.1 = K i) → ¬ C.length = 10 → x = (if K i ≤ 1 then (1 : Int) else 0) → Q 0 (xup h' 67 38 x) := by
    intro v x h' hv hi ek L_H b1 b2 b3 hx
    refine hQ _ ?_
    unfold mS4
    rw [if_pos b1, if_neg b2, if_neg b3, ← hx, ← ek]
    refine Or.inl ⟨by split at hx <;> omega, ?_⟩
    have z := mH_38 x L_H
    have e : mNc x (C ++ [(v, (O.length : Int))]) = ((C ++ [(v, (O.length : Int))]).length : Int) - 1 := if_neg (by split at hx <;> omega)
    rw [e]
    exact z
  have k70 : ∀ v : Int, v = K i → h 67 28 = v → (0 ≤ K i ∧ K i ≤ 3) → ¬ (K i ≤ 1 ∧ ∃ p ∈ C, p.1 = K i) → ¬ C.length = 10 → i < T → xq X d 191 Q 70 [(1, (0, v)), (0, (2, 67))] [] h := by
    intro v ev e28 b1 b2 b3 iT
    have ll : (C ++ [(v, (O.length : Int))]).length = C.length + 1 := by
      rw [List.length_append]
      rfl
    refine U_191_70 (by omega) v h ?_
    rw [e39, e42]
    refine ⟨?_, ?_⟩
    · first | omega | (unfold xI; omega) | (exfalso; omega)
    refine ⟨?_, ?_⟩
    · first | omega | (unfold xI; omega) | (exfalso; omega)
    refine s_171m (by omega) cx (mH_cls (by omega) L_H) iT rfl (fun h1492 L_h1492 => ?_)
    refine ⟨fun c1 => ?_, fun c1 => ?_⟩
    · skip
      refine s_174m (by omega) _ L_h1492 (by decide) (by omega) (fun h1494 L_h1494 => ?_)
      refine ⟨fun c2 => ?_, fun c2 => ?_⟩
      · skip
        refine k111 v _ _ (by omega) i1.1 ev ?_ b1 b2 b3 (by rw [if_neg (by omega)])
        rw [if_neg (by omega), ll, show ((C.length + 1 : Nat) : Int) - 1 = mNc 4 C by rw [nC]; omega]
        exact L_h1494
      · skip
        exfalso
        omega
    · skip
      refine s_174m (by omega) _ L_h1492 (by decide) (by omega) (fun h1496 L_h1496 => ?_)
      refine ⟨fun c3 => ?_, fun c3 => ?_⟩
      · skip
        exfalso
        omega
      · skip
        refine k111 v _ _ (by omega) i1.1 ev ?_ b1 b2 b3 (by rw [if_pos (by omega)])
        rw [if_pos (by omega), ll, show ((C.length + 1 : Nat) : Int) - 1 = mNc 4 C by rw [nC]; omega]
        exact L_h1496
  have k62 : ∀ (v f : Int) (h' : XH), f = h' 67 29 → ((f = 0 ∧ h' = h ∧ v = K i ∧ h 67 28 = v ∧ (0 ≤ K i ∧ K i ≤ 3) ∧ ¬ (K i ≤ 1 ∧ ∃ p ∈ C, p.1 = K i) ∧ ¬ C.length = 10 ∧ i < T) ∨ (0 < f ∧ Q 0 h')) → xq X d 191 Q 62 [(1, (0, v)), (0, (2, 67))] [] h' := by
    intro v f h' hf hh
    refine U_191_62 (by omega) v h' ?_
    rw [← hf]
    refine ⟨fun c1 => ?_, fun c1 => ?_⟩
    · skip
      rcases hh with ⟨f0, e, x1, x2, x3, x4, x5, x6⟩ | ⟨f0, x⟩
      · rw [e]
        first | exact k70 v x1 x2 x3 x4 x5 x6 | (exfalso; omega)
      · first | exact x | (exfalso; omega)
    · skip
      rcases hh with ⟨f0, e, -⟩ | ⟨f0, x⟩
      · exfalso
        omega
      · exact x
  have k48 : ∀ v : Int, v = K i → h 67 28 = v → (0 ≤ K i ∧ K i ≤ 3) → ¬ (K i ≤ 1 ∧ ∃ p ∈ C, p.1 = K i) → i < T → xq X d 191 Q 48 [(1, (0, v)), (0, (2, 67))] [] h := by
    intro v ev e28 b1 b2 iT
    refine U_191_48 (by omega) v h ?_
    rw [e39]
    refine ⟨fun c1 => ?_, fun c1 => ?_⟩
    · skip
      exact k62 v 0 h e29.symm (Or.inl ⟨rfl, rfl, ev, e28, b1, b2, by omega, iT⟩)
    · skip
      refine s_173m (by omega) _ cx L_H (fun h1516 er => ?_)
      refine ⟨fun c2 => ?_, fun c2 => ?_⟩
      · skip
        have e5 := er.2.1
        exfalso
        omega
      · skip
        refine hQ _ ?_
        unfold mS4
        rw [if_pos b1, if_neg b2, if_pos (by omega)]
        exact mRl_er (by decide) er
  have k22 : (0 ≤ K i ∧ K i ≤ 3) → h 67 28 = K i → i < T → xq X d 191 Q 22 [(0, (2, 67))] [] h := by
    intro b1 e28 iT
    refine U_191_22 (by omega) h ?_
    rw [e28]
    refine ⟨fun c1 => ?_, fun c1 => ?_⟩
    · skip
      exact k48 _ rfl e28 b1 (fun z => by omega) iT
    · skip
      refine s_190m (by omega) _ L_H nC (by omega) (fun J1523 wt => ?_)
      refine ⟨fun c2 => ?_, fun c2 => ?_⟩
      · skip
        have nt : ¬ ∃ p ∈ C, p.1 = K i := by
          rcases wt with ⟨q, -⟩ | ⟨-, q⟩
          · exact absurd q (by omega)
          · exact q
        exact k48 _ rfl e28 b1 (fun z => nt z.2) iT
      · skip
        refine s_173m (by omega) _ cx L_H (fun h1524 er => ?_)
        have yt : ∃ p ∈ C, p.1 = K i := by
          rcases wt with ⟨-, q⟩ | ⟨q, -⟩
          · exact q
          · exact absurd q (by omega)
        refine k62 _ 4 _ er.2.1.symm (Or.inr ⟨by decide, hQ _ ?_⟩)
        unfold mS4
        rw [if_pos b1, if_pos ⟨by omega, yt⟩]
        exact mRl_er (by decide) er
  refine U_191 (by omega) h ?_
  refine ⟨fun c1 => ?_, fun c1 => ?_⟩
  · skip
    refine s_173m (by omega) _ cx L_H (fun h1526 er => ?_)
    refine hQ _ ?_
    unfold mS4
    rw [if_neg (fun z => by have := fE.1.mpr z; omega)]
    exact mRl_er (by decide) er
  · skip
    refine ⟨fun c2 => ?_, fun c2 => ?_⟩
    · skip
      have b1 := fE.1.mp ⟨by omega, by omega⟩
      exact k22 b1 (fE.2 (by omega)).1 (iT (by omega))
    · skip
      refine s_173m (by omega) _ cx L_H (fun h1528 er => ?_)
      refine hQ _ ?_
      unfold mS4
      rw [if_neg (fun z => by have := fE.1.mpr z; omega)]
      exact mRl_er (by decide) er
