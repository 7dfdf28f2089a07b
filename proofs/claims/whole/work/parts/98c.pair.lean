/-! THE PURE LAYER 70: held: the way through the table, the class -/
/-- the way through the table C -/
def trV (C F : Int → Int → Int) (n m a : Int) : Nat → Int → Int → Int → Int → (Int → Int) → Int × Int × (Int → Int)
  | 0, _, _, wa, ba, P => (wa, ba, P)
  | r + 1, i, j, wa, ba, P => if n ≤ i ∧ m ≤ j then (wa, ba, P) else if (i < n ∧ j < m) ∧ F i j + C (i + 1) (j + 1) = C i j then trV C F n m a r (i + 1) (j + 1) wa ba (fun k => if k = j then i else P k) else if i < n ∧ C (i + 1) j + a = C i j then trV C F n m a r (i + 1) j (wa + 1) ba P else trV C F n m a r i (j + 1) wa (ba + 1) P
theorem trV_e {C F : Int → Int → Int} {n m a i j : Int} (q : n ≤ i ∧ m ≤ j) (r : Nat) (wa ba : Int) (P : Int → Int) : trV C F n m a r i j wa ba P = (wa, ba, P) := by
  cases r with
  | zero => rfl
  | succ r => exact if_pos q
theorem trV_p {C F : Int → Int → Int} {n m a i j : Int} (q : (i < n ∧ j < m) ∧ F i j + C (i + 1) (j + 1) = C i j) (r : Nat) (wa ba : Int) (P : Int → Int) : trV C F n m a (r + 1) i j wa ba P = trV C F n m a r (i + 1) (j + 1) wa ba (fun k => if k = j then i else P k) := by
  show (if n ≤ i ∧ m ≤ j then _ else _) = _
  rw [if_neg (by omega), if_pos q]
theorem trV_w {C F : Int → Int → Int} {n m a i j : Int} (q : ¬ ((i < n ∧ j < m) ∧ F i j + C (i + 1) (j + 1) = C i j)) (q2 : i < n ∧ C (i + 1) j + a = C i j) (r : Nat) (wa ba : Int) (P : Int → Int) : trV C F n m a (r + 1) i j wa ba P = trV C F n m a r (i + 1) j (wa + 1) ba P := by
  show (if n ≤ i ∧ m ≤ j then _ else _) = _
  rw [if_neg (by omega), if_neg q, if_pos q2]
theorem trV_b {C F : Int → Int → Int} {n m a i j : Int} (q0 : ¬ (n ≤ i ∧ m ≤ j)) (q : ¬ ((i < n ∧ j < m) ∧ F i j + C (i + 1) (j + 1) = C i j)) (q2 : ¬ (i < n ∧ C (i + 1) j + a = C i j)) (r : Nat) (wa ba : Int) (P : Int → Int) : trV C F n m a (r + 1) i j wa ba P = trV C F n m a r i (j + 1) wa (ba + 1) P := by
  show (if n ≤ i ∧ m ≤ j then _ else _) = _
  rw [if_neg q0, if_neg q, if_neg q2]
theorem csV_eqm {F : Int → Int → Int} {n m a b i j : Int} (h : i < n) (hj : j = m) : csV F n m a b (i + 1) j + a = csV F n m a b i j := by
  rw [csV_m (i := i) h (by omega)]
  by_cases q : i + 1 < n
  · rw [csV_m q (by omega), show n - i = (n - (i + 1)) + 1 by omega, Int.add_mul, Int.one_mul]
  · rw [csV_n (by omega) (by omega), show m - j = 0 by omega, Int.zero_mul, show n - i = 1 by omega, Int.one_mul, Int.zero_add]

set_option maxRecDepth 4000 in
theorem U_234 {X : Int × (Int → Int)} {d : Nat} {Q : Int → XH → Prop} (hd : 0 ≤ d) (a : Int) (H : XH) (h : xq X d 234 Q 3 [(0, (2, 64)), (1, (2, 59)), (2, (2, 7)), (3, (0, a)), (4, (0, 0))] [] H) : xc X (d + 1) 234 [(2, 64), (2, 59), (2, 7), (0, a)] H Q := by
  refine ⟨rfl, ?_⟩
  show xq X d 234 Q 100000 [(0, (2, 64)), (1, (2, 59)), (2, (2, 7)), (3, (0, a))] [] H
  refine xq_run [3, 43, 108] 300 ?_
  show xq X d 234 Q 3 [(0, (2, 64)), (1, (2, 59)), (2, (2, 7)), (3, (0, a)), (4, (0, 0))] [] H
  exact h
theorem U_234_3 {X : Int × (Int → Int)} {d : Nat} {Q : Int → XH → Prop} (hd : 0 ≤ d) (v3 v4 : Int) (H : XH) (h : ((8 ≤ v4) → xq X d 234 Q 43 [(0, (2, 64)), (1, (2, 59)), (2, (2, 7)), (3, (0, v3)), (4, (0, 0)), (5, (0, 0)), (6, (0, 0))] [] (xup (xup H 64 3 0) 64 4 0)) ∧ (¬ (8 ≤ v4) → ((0 : Int) ≤ v4 ∧ (v4 : Int) < 8) ∧ (xI (v4 + 1)) ∧ xq X d 234 Q 3 [(0, (2, 64)), (1, (2, 59)), (2, (2, 7)), (3, (0, v3)), (4, (0, v4 + 1))] [] (xup H 65 v4 (-1)))) : xq X d 234 Q 3 [(0, (2, 64)), (1, (2, 59)), (2, (2, 7)), (3, (0, v3)), (4, (0, v4))] [] H := by
  show xq X d 234 Q 3 [(0, (2, 64)), (1, (2, 59)), (2, (2, 7)), (3, (0, v3)), (4, (0, v4))] [] H
  refine xq_run [3, 43, 108] 300 ?_
  show ((8 ≤ v4) → xq X d 234 Q 43 [(0, (2, 64)), (1, (2, 59)), (2, (2, 7)), (3, (0, v3)), (4, (0, 0)), (5, (0, 0)), (6, (0, 0))] [] (xup (xup H 64 3 0) 64 4 0)) ∧ (¬ (8 ≤ v4) → ((0 : Int) ≤ v4 ∧ (v4 : Int) < 8) ∧ (xI (v4 + 1)) ∧ xq X d 234 Q 3 [(0, (2, 64)), (1, (2, 59)), (2, (2, 7)), (3, (0, v3)), (4, (0, v4 + 1))] [] (xup H 65 v4 (-1)))
  refine ⟨fun k_ => ?_, fun k_ => ?_⟩
  · replace h := h.1 k_
    exact h
  · replace h := h.2 k_
    refine ⟨h.1, ?_⟩
    replace h := h.2
    refine ⟨h.1, ?_⟩
    replace h := h.2
    exact h
theorem U_234_43 {X : Int × (Int → Int)} {d : Nat} {Q : Int → XH → Prop} (hd : 0 ≤ d) (v3 v4 v5 v6 : Int) (H : XH) (h : ((16 ≤ v6) → Q 0 H) ∧ (¬ (16 ≤ v6) → ((v4 < H 59 1) → ((H 59 1 ≤ v4) → ((H 59 1 ≤ v4) → (xI ((H 64 4) + 1)) ∧ (xI (v5 + 1)) ∧ (xI (v6 + 1)) ∧ xq X d 234 Q 43 [(0, (2, 64)), (1, (2, 59)), (2, (2, 7)), (3, (0, v3)), (4, (0, v4)), (5, (0, v5 + 1)), (6, (0, v6 + 1))] [] (xup H 64 4 ((H 64 4) + 1))) ∧ (¬ (H 59 1 ≤ v4) → (xI (v4 + 1)) ∧ (xI ((v4 + 1) * 9)) ∧ (xI (((v4 + 1) * 9) + v5)) ∧ ((0 : Int) ≤ ((v4 + 1) * 9) + v5 ∧ (((v4 + 1) * 9) + v5 : Int) < 81) ∧ (xI ((H 66 (((v4 + 1) * 9) + v5)) + v3)) ∧ (xI (v4 * 9)) ∧ (xI ((v4 * 9) + v5)) ∧ ((0 : Int) ≤ (v4 * 9) + v5 ∧ ((v4 * 9) + v5 : Int) < 81) ∧ ((¬ (H 66 (((v4 + 1) * 9) + v5)) + v3 = H 66 ((v4 * 9) + v5)) → (xI ((H 64 4) + 1)) ∧ (xI (v5 + 1)) ∧ (xI (v6 + 1)) ∧ xq X d 234 Q 43 [(0, (2, 64)), (1, (2, 59)), (2, (2, 7)), (3, (0, v3)), (4, (0, v4)), (5, (0, v5 + 1)), (6, (0, v6 + 1))] [] (xup H 64 4 ((H 64 4) + 1))) ∧ (¬ (¬ (H 66 (((v4 + 1) * 9) + v5)) + v3 = H 66 ((v4 * 9) + v5)) → (xI ((H 64 3) + 1)) ∧ (xI (v4 + 1)) ∧ (xI (v6 + 1)) ∧ xq X d 234 Q 43 [(0, (2, 64)), (1, (2, 59)), (2, (2, 7)), (3, (0, v3)), (4, (0, v4 + 1)), (5, (0, v5)), (6, (0, v6 + 1))] [] (xup H 64 3 ((H 64 3) + 1))))) ∧ (¬ (H 59 1 ≤ v4) → ((H 7 1 ≤ v5) → ((H 59 1 ≤ v4) → (xI ((H 64 4) + 1)) ∧ (xI (v5 + 1)) ∧ (xI (v6 + 1)) ∧ xq X d 234 Q 43 [(0, (2, 64)), (1, (2, 59)), (2, (2, 7)), (3, (0, v3)), (4, (0, v4)), (5, (0, v5 + 1)), (6, (0, v6 + 1))] [] (xup H 64 4 ((H 64 4) + 1))) ∧ (¬ (H 59 1 ≤ v4) → (xI (v4 + 1)) ∧ (xI ((v4 + 1) * 9)) ∧ (xI (((v4 + 1) * 9) + v5)) ∧ ((0 : Int) ≤ ((v4 + 1) * 9) + v5 ∧ (((v4 + 1) * 9) + v5 : Int) < 81) ∧ (xI ((H 66 (((v4 + 1) * 9) + v5)) + v3)) ∧ (xI (v4 * 9)) ∧ (xI ((v4 * 9) + v5)) ∧ ((0 : Int) ≤ (v4 * 9) + v5 ∧ ((v4 * 9) + v5 : Int) < 81) ∧ ((¬ (H 66 (((v4 + 1) * 9) + v5)) + v3 = H 66 ((v4 * 9) + v5)) → (xI ((H 64 4) + 1)) ∧ (xI (v5 + 1)) ∧ (xI (v6 + 1)) ∧ xq X d 234 Q 43 [(0, (2, 64)), (1, (2, 59)), (2, (2, 7)), (3, (0, v3)), (4, (0, v4)), (5, (0, v5 + 1)), (6, (0, v6 + 1))] [] (xup H 64 4 ((H 64 4) + 1))) ∧ (¬ (¬ (H 66 (((v4 + 1) * 9) + v5)) + v3 = H 66 ((v4 * 9) + v5)) → (xI ((H 64 3) + 1)) ∧ (xI (v4 + 1)) ∧ (xI (v6 + 1)) ∧ xq X d 234 Q 43 [(0, (2, 64)), (1, (2, 59)), (2, (2, 7)), (3, (0, v3)), (4, (0, v4 + 1)), (5, (0, v5)), (6, (0, v6 + 1))] [] (xup H 64 3 ((H 64 3) + 1))))) ∧ (¬ (H 7 1 ≤ v5) → (xc X d 232 [(2, 64), (2, 59), (2, 7), (0, v4), (0, v5)] H (fun (J2339 : Int) (h2338 : XH) => (xI (v4 * 9)) ∧ (xI ((v4 * 9) + v5)) ∧ ((0 : Int) ≤ (v4 * 9) + v5 ∧ ((v4 * 9) + v5 : Int) < 81) ∧ ((¬ J2339 = h2338 66 ((v4 * 9) + v5)) → ((h2338 59 1 ≤ v4) → (xI ((h2338 64 4) + 1)) ∧ (xI (v5 + 1)) ∧ (xI (v6 + 1)) ∧ xq X d 234 Q 43 [(0, (2, 64)), (1, (2, 59)), (2, (2, 7)), (3, (0, v3)), (4, (0, v4)), (5, (0, v5 + 1)), (6, (0, v6 + 1))] [] (xup h2338 64 4 ((h2338 64 4) + 1))) ∧ (¬ (h2338 59 1 ≤ v4) → (xI (v4 + 1)) ∧ (xI ((v4 + 1) * 9)) ∧ (xI (((v4 + 1) * 9) + v5)) ∧ ((0 : Int) ≤ ((v4 + 1) * 9) + v5 ∧ (((v4 + 1) * 9) + v5 : Int) < 81) ∧ (xI ((h2338 66 (((v4 + 1) * 9) + v5)) + v3)) ∧ (xI (v4 * 9)) ∧ (xI ((v4 * 9) + v5)) ∧ ((0 : Int) ≤ (v4 * 9) + v5 ∧ ((v4 * 9) + v5 : Int) < 81) ∧ ((¬ (h2338 66 (((v4 + 1) * 9) + v5)) + v3 = h2338 66 ((v4 * 9) + v5)) → (xI ((h2338 64 4) + 1)) ∧ (xI (v5 + 1)) ∧ (xI (v6 + 1)) ∧ xq X d 234 Q 43 [(0, (2, 64)), (1, (2, 59)), (2, (2, 7)), (3, (0, v3)), (4, (0, v4)), (5, (0, v5 + 1)), (6, (0, v6 + 1))] [] (xup h2338 64 4 ((h2338 64 4) + 1))) ∧ (¬ (¬ (h2338 66 (((v4 + 1) * 9) + v5)) + v3 = h2338 66 ((v4 * 9) + v5)) → (xI ((h2338 64 3) + 1)) ∧ (xI (v4 + 1)) ∧ (xI (v6 + 1)) ∧ xq X d 234 Q 43 [(0, (2, 64)), (1, (2, 59)), (2, (2, 7)), (3, (0, v3)), (4, (0, v4 + 1)), (5, (0, v5)), (6, (0, v6 + 1))] [] (xup h2338 64 3 ((h2338 64 3) + 1))))) ∧ (¬ (¬ J2339 = h2338 66 ((v4 * 9) + v5)) → ((0 : Int) ≤ v5 ∧ (v5 : Int) < 8) ∧ (xI (v4 + 1)) ∧ (xI (v5 + 1)) ∧ (xI (v6 + 1)) ∧ xq X d 234 Q 43 [(0, (2, 64)), (1, (2, 59)), (2, (2, 7)), (3, (0, v3)), (4, (0, v4 + 1)), (5, (0, v5 + 1)), (6, (0, v6 + 1))] [] (xup h2338 65 v5 v4))))))) ∧ (¬ (v4 < H 59 1) → ((H 7 1 ≤ v5) → Q 0 H) ∧ (¬ (H 7 1 ≤ v5) → ((H 59 1 ≤ v4) → ((H 59 1 ≤ v4) → (xI ((H 64 4) + 1)) ∧ (xI (v5 + 1)) ∧ (xI (v6 + 1)) ∧ xq X d 234 Q 43 [(0, (2, 64)), (1, (2, 59)), (2, (2, 7)), (3, (0, v3)), (4, (0, v4)), (5, (0, v5 + 1)), (6, (0, v6 + 1))] [] (xup H 64 4 ((H 64 4) + 1))) ∧ (¬ (H 59 1 ≤ v4) → (xI (v4 + 1)) ∧ (xI ((v4 + 1) * 9)) ∧ (xI (((v4 + 1) * 9) + v5)) ∧ ((0 : Int) ≤ ((v4 + 1) * 9) + v5 ∧ (((v4 + 1) * 9) + v5 : Int) < 81) ∧ (xI ((H 66 (((v4 + 1) * 9) + v5)) + v3)) ∧ (xI (v4 * 9)) ∧ (xI ((v4 * 9) + v5)) ∧ ((0 : Int) ≤ (v4 * 9) + v5 ∧ ((v4 * 9) + v5 : Int) < 81) ∧ ((¬ (H 66 (((v4 + 1) * 9) + v5)) + v3 = H 66 ((v4 * 9) + v5)) → (xI ((H 64 4) + 1)) ∧ (xI (v5 + 1)) ∧ (xI (v6 + 1)) ∧ xq X d 234 Q 43 [(0, (2, 64)), (1, (2, 59)), (2, (2, 7)), (3, (0, v3)), (4, (0, v4)), (5, (0, v5 + 1)), (6, (0, v6 + 1))] [] (xup H 64 4 ((H 64 4) + 1))) ∧ (¬ (¬ (H 66 (((v4 + 1) * 9) + v5)) + v3 = H 66 ((v4 * 9) + v5)) → (xI ((H 64 3) + 1)) ∧ (xI (v4 + 1)) ∧ (xI (v6 + 1)) ∧ xq X d 234 Q 43 [(0, (2, 64)), (1, (2, 59)), (2, (2, 7)), (3, (0, v3)), (4, (0, v4 + 1)), (5, (0, v5)), (6, (0, v6 + 1))] [] (xup H 64 3 ((H 64 3) + 1))))) ∧ (¬ (H 59 1 ≤ v4) → ((H 7 1 ≤ v5) → ((H 59 1 ≤ v4) → (xI ((H 64 4) + 1)) ∧ (xI (v5 + 1)) ∧ (xI (v6 + 1)) ∧ xq X d 234 Q 43 [(0, (2, 64)), (1, (2, 59)), (2, (2, 7)), (3, (0, v3)), (4, (0, v4)), (5, (0, v5 + 1)), (6, (0, v6 + 1))] [] (xup H 64 4 ((H 64 4) + 1))) ∧ (¬ (H 59 1 ≤ v4) → (xI (v4 + 1)) ∧ (xI ((v4 + 1) * 9)) ∧ (xI (((v4 + 1) * 9) + v5)) ∧ ((0 : Int) ≤ ((v4 + 1) * 9) + v5 ∧ (((v4 + 1) * 9) + v5 : Int) < 81) ∧ (xI ((H 66 (((v4 + 1) * 9) + v5)) + v3)) ∧ (xI (v4 * 9)) ∧ (xI ((v4 * 9) + v5)) ∧ ((0 : Int) ≤ (v4 * 9) + v5 ∧ ((v4 * 9) + v5 : Int) < 81) ∧ ((¬ (H 66 (((v4 + 1) * 9) + v5)) + v3 = H 66 ((v4 * 9) + v5)) → (xI ((H 64 4) + 1)) ∧ (xI (v5 + 1)) ∧ (xI (v6 + 1)) ∧ xq X d 234 Q 43 [(0, (2, 64)), (1, (2, 59)), (2, (2, 7)), (3, (0, v3)), (4, (0, v4)), (5, (0, v5 + 1)), (6, (0, v6 + 1))] [] (xup H 64 4 ((H 64 4) + 1))) ∧ (¬ (¬ (H 66 (((v4 + 1) * 9) + v5)) + v3 = H 66 ((v4 * 9) + v5)) → (xI ((H 64 3) + 1)) ∧ (xI (v4 + 1)) ∧ (xI (v6 + 1)) ∧ xq X d 234 Q 43 [(0, (2, 64)), (1, (2, 59)), (2, (2, 7)), (3, (0, v3)), (4, (0, v4 + 1)), (5, (0, v5)), (6, (0, v6 + 1))] [] (xup H 64 3 ((H 64 3) + 1))))) ∧ (¬ (H 7 1 ≤ v5) → (xc X d 232 [(2, 64), (2, 59), (2, 7), (0, v4), (0, v5)] H (fun (J2341 : Int) (h2340 : XH) => (xI (v4 * 9)) ∧ (xI ((v4 * 9) + v5)) ∧ ((0 : Int) ≤ (v4 * 9) + v5 ∧ ((v4 * 9) + v5 : Int) < 81) ∧ ((¬ J2341 = h2340 66 ((v4 * 9) + v5)) → ((h2340 59 1 ≤ v4) → (xI ((h2340 64 4) + 1)) ∧ (xI (v5 + 1)) ∧ (xI (v6 + 1)) ∧ xq X d 234 Q 43 [(0, (2, 64)), (1, (2, 59)), (2, (2, 7)), (3, (0, v3)), (4, (0, v4)), (5, (0, v5 + 1)), (6, (0, v6 + 1))] [] (xup h2340 64 4 ((h2340 64 4) + 1))) ∧ (¬ (h2340 59 1 ≤ v4) → (xI (v4 + 1)) ∧ (xI ((v4 + 1) * 9)) ∧ (xI (((v4 + 1) * 9) + v5)) ∧ ((0 : Int) ≤ ((v4 + 1) * 9) + v5 ∧ (((v4 + 1) * 9) + v5 : Int) < 81) ∧ (xI ((h2340 66 (((v4 + 1) * 9) + v5)) + v3)) ∧ (xI (v4 * 9)) ∧ (xI ((v4 * 9) + v5)) ∧ ((0 : Int) ≤ (v4 * 9) + v5 ∧ ((v4 * 9) + v5 : Int) < 81) ∧ ((¬ (h2340 66 (((v4 + 1) * 9) + v5)) + v3 = h2340 66 ((v4 * 9) + v5)) → (xI ((h2340 64 4) + 1)) ∧ (xI (v5 + 1)) ∧ (xI (v6 + 1)) ∧ xq X d 234 Q 43 [(0, (2, 64)), (1, (2, 59)), (2, (2, 7)), (3, (0, v3)), (4, (0, v4)), (5, (0, v5 + 1)), (6, (0, v6 + 1))] [] (xup h2340 64 4 ((h2340 64 4) + 1))) ∧ (¬ (¬ (h2340 66 (((v4 + 1) * 9) + v5)) + v3 = h2340 66 ((v4 * 9) + v5)) → (xI ((h2340 64 3) + 1)) ∧ (xI (v4 + 1)) ∧ (xI (v6 + 1)) ∧ xq X d 234 Q 43 [(0, (2, 64)), (1, (2, 59)), (2, (2, 7)), (3, (0, v3)), (4, (0, v4 + 1)), (5, (0, v5)), (6, (0, v6 + 1))] [] (xup h2340 64 3 ((h2340 64 3) + 1))))) ∧ (¬ (¬ J2341 = h2340 66 ((v4 * 9) + v5)) → ((0 : Int) ≤ v5 ∧ (v5 : Int) < 8) ∧ (xI (v4 + 1)) ∧ (xI (v5 + 1)) ∧ (xI (v6 + 1)) ∧ xq X d 234 Q 43 [(0, (2, 64)), (1, (2, 59)), (2, (2, 7)), (3, (0, v3)), (4, (0, v4 + 1)), (5, (0, v5 + 1)), (6, (0, v6 + 1))] [] (xup h2340 65 v5 v4)))))))))) : xq X d 234 Q 43 [(0, (2, 64)), (1, (2, 59)), (2, (2, 7)), (3, (0, v3)), (4, (0, v4)), (5, (0, v5)), (6, (0, v6))] [] H := by
  show xq X d 234 Q 43 [(0, (2, 64)), (1, (2, 59)), (2, (2, 7)), (3, (0, v3)), (4, (0, v4)), (5, (0, v5)), (6, (0, v6))] [] H
  refine xq_run [3, 43, 108] 300 ?_
  show ((16 ≤ v6) → xfR 2 0 ∧ xKZ = xKZ ∧ Q 0 H) ∧ (¬ (16 ≤ v6) → ((v4 < H 59 1) → ((H 59 1 ≤ v4) → ((0 = 0) → ((H 59 1 ≤ v4) → (xI ((H 64 4) + 1)) ∧ (xI (v5 + 1)) ∧ (xI (v6 + 1)) ∧ xq X d 234 Q 43 [(0, (2, 64)), (1, (2, 59)), (2, (2, 7)), (3, (0, v3)), (4, (0, v4)), (5, (0, v5 + 1)), (6, (0, v6 + 1))] [] (xup H 64 4 ((H 64 4) + 1))) ∧ (¬ (H 59 1 ≤ v4) → (xI (v4 + 1)) ∧ (xI ((v4 + 1) * 9)) ∧ (xI (((v4 + 1) * 9) + v5)) ∧ ((0 : Int) ≤ ((v4 + 1) * 9) + v5 ∧ (((v4 + 1) * 9) + v5 : Int) < 81) ∧ (xI ((H 66 (((v4 + 1) * 9) + v5)) + v3)) ∧ (xI (v4 * 9)) ∧ (xI ((v4 * 9) + v5)) ∧ ((0 : Int) ≤ (v4 * 9) + v5 ∧ ((v4 * 9) + v5 : Int) < 81) ∧ ((¬ (H 66 (((v4 + 1) * 9) + v5)) + v3 = H 66 ((v4 * 9) + v5)) → (xI ((H 64 4) + 1)) ∧ (xI (v5 + 1)) ∧ (xI (v6 + 1)) ∧ xq X d 234 Q 43 [(0, (2, 64)), (1, (2, 59)), (2, (2, 7)), (3, (0, v3)), (4, (0, v4)), (5, (0, v5 + 1)), (6, (0, v6 + 1))] [] (xup H 64 4 ((H 64 4) + 1))) ∧ (¬ (¬ (H 66 (((v4 + 1) * 9) + v5)) + v3 = H 66 ((v4 * 9) + v5)) → (xI ((H 64 3) + 1)) ∧ (xI (v4 + 1)) ∧ (xI (v6 + 1)) ∧ xq X d 234 Q 43 [(0, (2, 64)), (1, (2, 59)), (2, (2, 7)), (3, (0, v3)), (4, (0, v4 + 1)), (5, (0, v5)), (6, (0, v6 + 1))] [] (xup H 64 3 ((H 64 3) + 1))))) ∧ (¬ (0 = 0) → _)) ∧ (¬ (H 59 1 ≤ v4) → ((H 7 1 ≤ v5) → ((0 = 0) → ((H 59 1 ≤ v4) → (xI ((H 64 4) + 1)) ∧ (xI (v5 + 1)) ∧ (xI (v6 + 1)) ∧ xq X d 234 Q 43 [(0, (2, 64)), (1, (2, 59)), (2, (2, 7)), (3, (0, v3)), (4, (0, v4)), (5, (0, v5 + 1)), (6, (0, v6 + 1))] [] (xup H 64 4 ((H 64 4) + 1))) ∧ (¬ (H 59 1 ≤ v4) → (xI (v4 + 1)) ∧ (xI ((v4 + 1) * 9)) ∧ (xI (((v4 + 1) * 9) + v5)) ∧ ((0 : Int) ≤ ((v4 + 1) * 9) + v5 ∧ (((v4 + 1) * 9) + v5 : Int) < 81) ∧ (xI ((H 66 (((v4 + 1) * 9) + v5)) + v3)) ∧ (xI (v4 * 9)) ∧ (xI ((v4 * 9) + v5)) ∧ ((0 : Int) ≤ (v4 * 9) + v5 ∧ ((v4 * 9) + v5 : Int) < 81) ∧ ((¬ (H 66 (((v4 + 1) * 9) + v5)) + v3 = H 66 ((v4 * 9) + v5)) → (xI ((H 64 4) + 1)) ∧ (xI (v5 + 1)) ∧ (xI (v6 + 1)) ∧ xq X d 234 Q 43 [(0, (2, 64)), (1, (2, 59)), (2, (2, 7)), (3, (0, v3)), (4, (0, v4)), (5, (0, v5 + 1)), (6, (0, v6 + 1))] [] (xup H 64 4 ((H 64 4) + 1))) ∧ (¬ (¬ (H 66 (((v4 + 1) * 9) + v5)) + v3 = H 66 ((v4 * 9) + v5)) → (xI ((H 64 3) + 1)) ∧ (xI (v4 + 1)) ∧ (xI (v6 + 1)) ∧ xq X d 234 Q 43 [(0, (2, 64)), (1, (2, 59)), (2, (2, 7)), (3, (0, v3)), (4, (0, v4 + 1)), (5, (0, v5)), (6, (0, v6 + 1))] [] (xup H 64 3 ((H 64 3) + 1))))) ∧ (¬ (0 = 0) → _)) ∧ (¬ (H 7 1 ≤ v5) → ((1 = 0) → _) ∧ (¬ (1 = 0) → xWM (xE X) xMC d 232 [(2, 64), (2, 59), (2, 7), (0, v4), (0, v5)] xKZ H _)))) ∧ (¬ (v4 < H 59 1) → ((H 7 1 ≤ v5) → xfR 2 0 ∧ xKZ = xKZ ∧ Q 0 H) ∧ (¬ (H 7 1 ≤ v5) → ((H 59 1 ≤ v4) → ((0 = 0) → ((H 59 1 ≤ v4) → (xI ((H 64 4) + 1)) ∧ (xI (v5 + 1)) ∧ (xI (v6 + 1)) ∧ xq X d 234 Q 43 [(0, (2, 64)), (1, (2, 59)), (2, (2, 7)), (3, (0, v3)), (4, (0, v4)), (5, (0, v5 + 1)), (6, (0, v6 + 1))] [] (xup H 64 4 ((H 64 4) + 1))) ∧ (¬ (H 59 1 ≤ v4) → (xI (v4 + 1)) ∧ (xI ((v4 + 1) * 9)) ∧ (xI (((v4 + 1) * 9) + v5)) ∧ ((0 : Int) ≤ ((v4 + 1) * 9) + v5 ∧ (((v4 + 1) * 9) + v5 : Int) < 81) ∧ (xI ((H 66 (((v4 + 1) * 9) + v5)) + v3)) ∧ (xI (v4 * 9)) ∧ (xI ((v4 * 9) + v5)) ∧ ((0 : Int) ≤ (v4 * 9) + v5 ∧ ((v4 * 9) + v5 : Int) < 81) ∧ ((¬ (H 66 (((v4 + 1) * 9) + v5)) + v3 = H 66 ((v4 * 9) + v5)) → (xI ((H 64 4) + 1)) ∧ (xI (v5 + 1)) ∧ (xI (v6 + 1)) ∧ xq X d 234 Q 43 [(0, (2, 64)), (1, (2, 59)), (2, (2, 7)), (3, (0, v3)), (4, (0, v4)), (5, (0, v5 + 1)), (6, (0, v6 + 1))] [] (xup H 64 4 ((H 64 4) + 1))) ∧ (¬ (¬ (H 66 (((v4 + 1) * 9) + v5)) + v3 = H 66 ((v4 * 9) + v5)) → (xI ((H 64 3) + 1)) ∧ (xI (v4 + 1)) ∧ (xI (v6 + 1)) ∧ xq X d 234 Q 43 [(0, (2, 64)), (1, (2, 59)), (2, (2, 7)), (3, (0, v3)), (4, (0, v4 + 1)), (5, (0, v5)), (6, (0, v6 + 1))] [] (xup H 64 3 ((H 64 3) + 1))))) ∧ (¬ (0 = 0) → _)) ∧ (¬ (H 59 1 ≤ v4) → ((H 7 1 ≤ v5) → ((0 = 0) → ((H 59 1 ≤ v4) → (xI ((H 64 4) + 1)) ∧ (xI (v5 + 1)) ∧ (xI (v6 + 1)) ∧ xq X d 234 Q 43 [(0, (2, 64)), (1, (2, 59)), (2, (2, 7)), (3, (0, v3)), (4, (0, v4)), (5, (0, v5 + 1)), (6, (0, v6 + 1))] [] (xup H 64 4 ((H 64 4) + 1))) ∧ (¬ (H 59 1 ≤ v4) → (xI (v4 + 1)) ∧ (xI ((v4 + 1) * 9)) ∧ (xI (((v4 + 1) * 9) + v5)) ∧ ((0 : Int) ≤ ((v4 + 1) * 9) + v5 ∧ (((v4 + 1) * 9) + v5 : Int) < 81) ∧ (xI ((H 66 (((v4 + 1) * 9) + v5)) + v3)) ∧ (xI (v4 * 9)) ∧ (xI ((v4 * 9) + v5)) ∧ ((0 : Int) ≤ (v4 * 9) + v5 ∧ ((v4 * 9) + v5 : Int) < 81) ∧ ((¬ (H 66 (((v4 + 1) * 9) + v5)) + v3 = H 66 ((v4 * 9) + v5)) → (xI ((H 64 4) + 1)) ∧ (xI (v5 + 1)) ∧ (xI (v6 + 1)) ∧ xq X d 234 Q 43 [(0, (2, 64)), (1, (2, 59)), (2, (2, 7)), (3, (0, v3)), (4, (0, v4)), (5, (0, v5 + 1)), (6, (0, v6 + 1))] [] (xup H 64 4 ((H 64 4) + 1))) ∧ (¬ (¬ (H 66 (((v4 + 1) * 9) + v5)) + v3 = H 66 ((v4 * 9) + v5)) → (xI ((H 64 3) + 1)) ∧ (xI (v4 + 1)) ∧ (xI (v6 + 1)) ∧ xq X d 234 Q 43 [(0, (2, 64)), (1, (2, 59)), (2, (2, 7)), (3, (0, v3)), (4, (0, v4 + 1)), (5, (0, v5)), (6, (0, v6 + 1))] [] (xup H 64 3 ((H 64 3) + 1))))) ∧ (¬ (0 = 0) → _)) ∧ (¬ (H 7 1 ≤ v5) → ((1 = 0) → _) ∧ (¬ (1 = 0) → xWM (xE X) xMC d 232 [(2, 64), (2, 59), (2, 7), (0, v4), (0, v5)] xKZ H _))))))
  refine ⟨fun k_ => ?_, fun k_ => ?_⟩
  · replace h := h.1 k_
    exact ⟨trivial, rfl, h⟩
  · replace h := h.2 k_
    refine ⟨fun k_ => ?_, fun k_ => ?_⟩
    · replace h := h.1 k_
      refine ⟨fun k_ => ?_, fun k_ => ?_⟩
      · replace h := h.1 k_
        refine ⟨fun k_ => ?_, fun k_ => absurd (by decide) k_⟩
        refine ⟨fun k_ => ?_, fun k_ => ?_⟩
        · replace h := h.1 k_
          refine ⟨h.1, ?_⟩
          replace h := h.2
          refine ⟨h.1, ?_⟩
          replace h := h.2
          refine ⟨h.1, ?_⟩
          replace h := h.2
          exact h
        · replace h := h.2 k_
          refine ⟨h.1, ?_⟩
          replace h := h.2
          refine ⟨h.1, ?_⟩
          replace h := h.2
          refine ⟨h.1, ?_⟩
          replace h := h.2
          refine ⟨h.1, ?_⟩
          replace h := h.2
          refine ⟨h.1, ?_⟩
          replace h := h.2
          refine ⟨h.1, ?_⟩
          replace h := h.2
          refine ⟨h.1, ?_⟩
          replace h := h.2
          refine ⟨h.1, ?_⟩
          replace h := h.2
          refine ⟨fun k_ => ?_, fun k_ => ?_⟩
          · replace h := h.1 k_
            refine ⟨h.1, ?_⟩
            replace h := h.2
            refine ⟨h.1, ?_⟩
            replace h := h.2
            refine ⟨h.1, ?_⟩
            replace h := h.2
            exact h
          · replace h := h.2 k_
            refine ⟨h.1, ?_⟩
            replace h := h.2
            refine ⟨h.1, ?_⟩
            replace h := h.2
            refine ⟨h.1, ?_⟩
            replace h := h.2
            exact h
      · replace h := h.2 k_
        refine ⟨fun k_ => ?_, fun k_ => ?_⟩
        · replace h := h.1 k_
          refine ⟨fun k_ => ?_, fun k_ => absurd (by decide) k_⟩
          refine ⟨fun k_ => ?_, fun k_ => ?_⟩
          · replace h := h.1 k_
            refine ⟨h.1, ?_⟩
            replace h := h.2
            refine ⟨h.1, ?_⟩
            replace h := h.2
            refine ⟨h.1, ?_⟩
            replace h := h.2
            exact h
          · replace h := h.2 k_
            refine ⟨h.1, ?_⟩
            replace h := h.2
            refine ⟨h.1, ?_⟩
            replace h := h.2
            refine ⟨h.1, ?_⟩
            replace h := h.2
            refine ⟨h.1, ?_⟩
            replace h := h.2
            refine ⟨h.1, ?_⟩
            replace h := h.2
            refine ⟨h.1, ?_⟩
            replace h := h.2
            refine ⟨h.1, ?_⟩
            replace h := h.2
            refine ⟨h.1, ?_⟩
            replace h := h.2
            refine ⟨fun k_ => ?_, fun k_ => ?_⟩
            · replace h := h.1 k_
              refine ⟨h.1, ?_⟩
              replace h := h.2
              refine ⟨h.1, ?_⟩
              replace h := h.2
              refine ⟨h.1, ?_⟩
              replace h := h.2
              exact h
            · replace h := h.2 k_
              refine ⟨h.1, ?_⟩
              replace h := h.2
              refine ⟨h.1, ?_⟩
              replace h := h.2
              refine ⟨h.1, ?_⟩
              replace h := h.2
              exact h
        · replace h := h.2 k_
          refine ⟨fun k_ => absurd k_ (by decide), fun k_ => ?_⟩
          refine xc_in (xc_mono (fun J2339 h2338 q_ => ?_) h)
          replace h := q_
          show xq X d 234 Q 108 [(7, (0, 1)), (0, (2, 64)), (1, (2, 59)), (2, (2, 7)), (3, (0, v3)), (4, (0, v4)), (5, (0, v5)), (6, (0, v6))] [(0, J2339)] h2338
          refine xq_run [3, 43, 108] 300 ?_
          show (xI (v4 * 9)) ∧ (xI ((v4 * 9) + v5)) ∧ ((0 : Int) ≤ (v4 * 9) + v5 ∧ ((v4 * 9) + v5 : Int) < 81) ∧ ((¬ J2339 = h2338 66 ((v4 * 9) + v5)) → ((h2338 59 1 ≤ v4) → (xI ((h2338 64 4) + 1)) ∧ (xI (v5 + 1)) ∧ (xI (v6 + 1)) ∧ xq X d 234 Q 43 [(0, (2, 64)), (1, (2, 59)), (2, (2, 7)), (3, (0, v3)), (4, (0, v4)), (5, (0, v5 + 1)), (6, (0, v6 + 1))] [] (xup h2338 64 4 ((h2338 64 4) + 1))) ∧ (¬ (h2338 59 1 ≤ v4) → (xI (v4 + 1)) ∧ (xI ((v4 + 1) * 9)) ∧ (xI (((v4 + 1) * 9) + v5)) ∧ ((0 : Int) ≤ ((v4 + 1) * 9) + v5 ∧ (((v4 + 1) * 9) + v5 : Int) < 81) ∧ (xI ((h2338 66 (((v4 + 1) * 9) + v5)) + v3)) ∧ (xI (v4 * 9)) ∧ (xI ((v4 * 9) + v5)) ∧ ((0 : Int) ≤ (v4 * 9) + v5 ∧ ((v4 * 9) + v5 : Int) < 81) ∧ ((¬ (h2338 66 (((v4 + 1) * 9) + v5)) + v3 = h2338 66 ((v4 * 9) + v5)) → (xI ((h2338 64 4) + 1)) ∧ (xI (v5 + 1)) ∧ (xI (v6 + 1)) ∧ xq X d 234 Q 43 [(0, (2, 64)), (1, (2, 59)), (2, (2, 7)), (3, (0, v3)), (4, (0, v4)), (5, (0, v5 + 1)), (6, (0, v6 + 1))] [] (xup h2338 64 4 ((h2338 64 4) + 1))) ∧ (¬ (¬ (h2338 66 (((v4 + 1) * 9) + v5)) + v3 = h2338 66 ((v4 * 9) + v5)) → (xI ((h2338 64 3) + 1)) ∧ (xI (v4 + 1)) ∧ (xI (v6 + 1)) ∧ xq X d 234 Q 43 [(0, (2, 64)), (1, (2, 59)), (2, (2, 7)), (3, (0, v3)), (4, (0, v4 + 1)), (5, (0, v5)), (6, (0, v6 + 1))] [] (xup h2338 64 3 ((h2338 64 3) + 1))))) ∧ (¬ (¬ J2339 = h2338 66 ((v4 * 9) + v5)) → ((0 : Int) ≤ v5 ∧ (v5 : Int) < 8) ∧ (xI (v4 + 1)) ∧ (xI (v5 + 1)) ∧ (xI (v6 + 1)) ∧ xq X d 234 Q 43 [(0, (2, 64)), (1, (2, 59)), (2, (2, 7)), (3, (0, v3)), (4, (0, v4 + 1)), (5, (0, v5 + 1)), (6, (0, v6 + 1))] [] (xup h2338 65 v5 v4))
          refine ⟨h.1, ?_⟩
          replace h := h.2
          refine ⟨h.1, ?_⟩
          replace h := h.2
          refine ⟨h.1, ?_⟩
          replace h := h.2
          refine ⟨fun k_ => ?_, fun k_ => ?_⟩
          · replace h := h.1 k_
            refine ⟨fun k_ => ?_, fun k_ => ?_⟩
            · replace h := h.1 k_
              refine ⟨h.1, ?_⟩
              replace h := h.2
              refine ⟨h.1, ?_⟩
              replace h := h.2
              refine ⟨h.1, ?_⟩
              replace h := h.2
              exact h
            · replace h := h.2 k_
              refine ⟨h.1, ?_⟩
              replace h := h.2
              refine ⟨h.1, ?_⟩
              replace h := h.2
              refine ⟨h.1, ?_⟩
              replace h := h.2
              refine ⟨h.1, ?_⟩
              replace h := h.2
              refine ⟨h.1, ?_⟩
              replace h := h.2
              refine ⟨h.1, ?_⟩
              replace h := h.2
              refine ⟨h.1, ?_⟩
              replace h := h.2
              refine ⟨h.1, ?_⟩
              replace h := h.2
              refine ⟨fun k_ => ?_, fun k_ => ?_⟩
              · replace h := h.1 k_
                refine ⟨h.1, ?_⟩
                replace h := h.2
                refine ⟨h.1, ?_⟩
                replace h := h.2
                refine ⟨h.1, ?_⟩
                replace h := h.2
                exact h
              · replace h := h.2 k_
                refine ⟨h.1, ?_⟩
                replace h := h.2
                refine ⟨h.1, ?_⟩
                replace h := h.2
                refine ⟨h.1, ?_⟩
                replace h := h.2
                exact h
          · replace h := h.2 k_
            refine ⟨h.1, ?_⟩
            replace h := h.2
            refine ⟨h.1, ?_⟩
            replace h := h.2
            refine ⟨h.1, ?_⟩
            replace h := h.2
            refine ⟨h.1, ?_⟩
            replace h := h.2
            exact h
    · replace h := h.2 k_
      refine ⟨fun k_ => ?_, fun k_ => ?_⟩
      · replace h := h.1 k_
        exact ⟨trivial, rfl, h⟩
      · replace h := h.2 k_
        refine ⟨fun k_ => ?_, fun k_ => ?_⟩
        · replace h := h.1 k_
          refine ⟨fun k_ => ?_, fun k_ => absurd (by decide) k_⟩
          refine ⟨fun k_ => ?_, fun k_ => ?_⟩
          · replace h := h.1 k_
            refine ⟨h.1, ?_⟩
            replace h := h.2
            refine ⟨h.1, ?_⟩
            replace h := h.2
            refine ⟨h.1, ?_⟩
            replace h := h.2
            exact h
          · replace h := h.2 k_
            refine ⟨h.1, ?_⟩
            replace h := h.2
            refine ⟨h.1, ?_⟩
            replace h := h.2
            refine ⟨h.1, ?_⟩
            replace h := h.2
            refine ⟨h.1, ?_⟩
            replace h := h.2
            refine ⟨h.1, ?_⟩
            replace h := h.2
            refine ⟨h.1, ?_⟩
            replace h := h.2
            refine ⟨h.1, ?_⟩
            replace h := h.2
            refine ⟨h.1, ?_⟩
            replace h := h.2
            refine ⟨fun k_ => ?_, fun k_ => ?_⟩
            · replace h := h.1 k_
              refine ⟨h.1, ?_⟩
              replace h := h.2
              refine ⟨h.1, ?_⟩
              replace h := h.2
              refine ⟨h.1, ?_⟩
              replace h := h.2
              exact h
            · replace h := h.2 k_
              refine ⟨h.1, ?_⟩
              replace h := h.2
              refine ⟨h.1, ?_⟩
              replace h := h.2
              refine ⟨h.1, ?_⟩
              replace h := h.2
              exact h
        · replace h := h.2 k_
          refine ⟨fun k_ => ?_, fun k_ => ?_⟩
          · replace h := h.1 k_
            refine ⟨fun k_ => ?_, fun k_ => absurd (by decide) k_⟩
            refine ⟨fun k_ => ?_, fun k_ => ?_⟩
            · replace h := h.1 k_
              refine ⟨h.1, ?_⟩
              replace h := h.2
              refine ⟨h.1, ?_⟩
              replace h := h.2
              refine ⟨h.1, ?_⟩
              replace h := h.2
              exact h
            · replace h := h.2 k_
              refine ⟨h.1, ?_⟩
              replace h := h.2
              refine ⟨h.1, ?_⟩
              replace h := h.2
              refine ⟨h.1, ?_⟩
              replace h := h.2
              refine ⟨h.1, ?_⟩
              replace h := h.2
              refine ⟨h.1, ?_⟩
              replace h := h.2
              refine ⟨h.1, ?_⟩
              replace h := h.2
              refine ⟨h.1, ?_⟩
              replace h := h.2
              refine ⟨h.1, ?_⟩
              replace h := h.2
              refine ⟨fun k_ => ?_, fun k_ => ?_⟩
              · replace h := h.1 k_
                refine ⟨h.1, ?_⟩
                replace h := h.2
                refine ⟨h.1, ?_⟩
                replace h := h.2
                refine ⟨h.1, ?_⟩
                replace h := h.2
                exact h
              · replace h := h.2 k_
                refine ⟨h.1, ?_⟩
                replace h := h.2
                refine ⟨h.1, ?_⟩
                replace h := h.2
                refine ⟨h.1, ?_⟩
                replace h := h.2
                exact h
          · replace h := h.2 k_
            refine ⟨fun k_ => absurd k_ (by decide), fun k_ => ?_⟩
            refine xc_in (xc_mono (fun J2341 h2340 q_ => ?_) h)
            replace h := q_
            show xq X d 234 Q 108 [(7, (0, 1)), (0, (2, 64)), (1, (2, 59)), (2, (2, 7)), (3, (0, v3)), (4, (0, v4)), (5, (0, v5)), (6, (0, v6))] [(0, J2341)] h2340
            refine xq_run [3, 43, 108] 300 ?_
            show (xI (v4 * 9)) ∧ (xI ((v4 * 9) + v5)) ∧ ((0 : Int) ≤ (v4 * 9) + v5 ∧ ((v4 * 9) + v5 : Int) < 81) ∧ ((¬ J2341 = h2340 66 ((v4 * 9) + v5)) → ((h2340 59 1 ≤ v4) → (xI ((h2340 64 4) + 1)) ∧ (xI (v5 + 1)) ∧ (xI (v6 + 1)) ∧ xq X d 234 Q 43 [(0, (2, 64)), (1, (2, 59)), (2, (2, 7)), (3, (0, v3)), (4, (0, v4)), (5, (0, v5 + 1)), (6, (0, v6 + 1))] [] (xup h2340 64 4 ((h2340 64 4) + 1))) ∧ (¬ (h2340 59 1 ≤ v4) → (xI (v4 + 1)) ∧ (xI ((v4 + 1) * 9)) ∧ (xI (((v4 + 1) * 9) + v5)) ∧ ((0 : Int) ≤ ((v4 + 1) * 9) + v5 ∧ (((v4 + 1) * 9) + v5 : Int) < 81) ∧ (xI ((h2340 66 (((v4 + 1) * 9) + v5)) + v3)) ∧ (xI (v4 * 9)) ∧ (xI ((v4 * 9) + v5)) ∧ ((0 : Int) ≤ (v4 * 9) + v5 ∧ ((v4 * 9) + v5 : Int) < 81) ∧ ((¬ (h2340 66 (((v4 + 1) * 9) + v5)) + v3 = h2340 66 ((v4 * 9) + v5)) → (xI ((h2340 64 4) + 1)) ∧ (xI (v5 + 1)) ∧ (xI (v6 + 1)) ∧ xq X d 234 Q 43 [(0, (2, 64)), (1, (2, 59)), (2, (2, 7)), (3, (0, v3)), (4, (0, v4)), (5, (0, v5 + 1)), (6, (0, v6 + 1))] [] (xup h2340 64 4 ((h2340 64 4) + 1))) ∧ (¬ (¬ (h2340 66 (((v4 + 1) * 9) + v5)) + v3 = h2340 66 ((v4 * 9) + v5)) → (xI ((h2340 64 3) + 1)) ∧ (xI (v4 + 1)) ∧ (xI (v6 + 1)) ∧ xq X d 234 Q 43 [(0, (2, 64)), (1, (2, 59)), (2, (2, 7)), (3, (0, v3)), (4, (0, v4 + 1)), (5, (0, v5)), (6, (0, v6 + 1))] [] (xup h2340 64 3 ((h2340 64 3) + 1))))) ∧ (¬ (¬ J2341 = h2340 66 ((v4 * 9) + v5)) → ((0 : Int) ≤ v5 ∧ (v5 : Int) < 8) ∧ (xI (v4 + 1)) ∧ (xI (v5 + 1)) ∧ (xI (v6 + 1)) ∧ xq X d 234 Q 43 [(0, (2, 64)), (1, (2, 59)), (2, (2, 7)), (3, (0, v3)), (4, (0, v4 + 1)), (5, (0, v5 + 1)), (6, (0, v6 + 1))] [] (xup h2340 65 v5 v4))
            refine ⟨h.1, ?_⟩
            replace h := h.2
            refine ⟨h.1, ?_⟩
            replace h := h.2
            refine ⟨h.1, ?_⟩
            replace h := h.2
            refine ⟨fun k_ => ?_, fun k_ => ?_⟩
            · replace h := h.1 k_
              refine ⟨fun k_ => ?_, fun k_ => ?_⟩
              · replace h := h.1 k_
                refine ⟨h.1, ?_⟩
                replace h := h.2
                refine ⟨h.1, ?_⟩
                replace h := h.2
                refine ⟨h.1, ?_⟩
                replace h := h.2
                exact h
              · replace h := h.2 k_
                refine ⟨h.1, ?_⟩
                replace h := h.2
                refine ⟨h.1, ?_⟩
                replace h := h.2
                refine ⟨h.1, ?_⟩
                replace h := h.2
                refine ⟨h.1, ?_⟩
                replace h := h.2
                refine ⟨h.1, ?_⟩
                replace h := h.2
                refine ⟨h.1, ?_⟩
                replace h := h.2
                refine ⟨h.1, ?_⟩
                replace h := h.2
                refine ⟨h.1, ?_⟩
                replace h := h.2
                refine ⟨fun k_ => ?_, fun k_ => ?_⟩
                · replace h := h.1 k_
                  refine ⟨h.1, ?_⟩
                  replace h := h.2
                  refine ⟨h.1, ?_⟩
                  replace h := h.2
                  refine ⟨h.1, ?_⟩
                  replace h := h.2
                  exact h
                · replace h := h.2 k_
                  refine ⟨h.1, ?_⟩
                  replace h := h.2
                  refine ⟨h.1, ?_⟩
                  replace h := h.2
                  refine ⟨h.1, ?_⟩
                  replace h := h.2
                  exact h
            · replace h := h.2 k_
              refine ⟨h.1, ?_⟩
              replace h := h.2
              refine ⟨h.1, ?_⟩
              replace h := h.2
              refine ⟨h.1, ?_⟩
              replace h := h.2
              refine ⟨h.1, ?_⟩
              replace h := h.2
              exact h

theorem s_234w {X : Int × (Int → Int)} {d : Nat} {Q : Int → XH → Prop} (hd : 5 ≤ d) {n m a b : Int} {f y : Int → Int} {h : XH} (K : hCo n m f y h) (I : hcI n m a b f y) (tb : tbC n m a b f y h) (hQ : ∀ h1, (∀ o, ¬ o = 64 → ¬ o = 65 → h1 o = h o) → (∀ k, ¬ k = 3 → ¬ k = 4 → h1 64 k = h 64 k) → h1 64 3 = (trV (csV (lfV f y) n m a b) (lfV f y) n m a 16 0 0 0 0 (fun _ => -1)).1 → h1 64 4 = (trV (csV (lfV f y) n m a b) (lfV f y) n m a 16 0 0 0 0 (fun _ => -1)).2.1 → (∀ k, 0 ≤ k → k < 8 → h1 65 k = (trV (csV (lfV f y) n m a b) (lfV f y) n m a 16 0 0 0 0 (fun _ => -1)).2.2 k) → Q 0 h1) : xc X d 234 [(2, 64), (2, 59), (2, 7), (0, a)] h Q := by
  cases d with
  | zero => omega
  | succ d =>
  have I0 := I
  obtain ⟨I1, I2, I3, I4, I5, I6⟩ := I
  have rng := hcI_rng I0
  generalize eZ : trV (csV (lfV f y) n m a b) (lfV f y) n m a 16 0 0 0 0 (fun _ => -1) = Z at hQ
  have key : ∀ (r : Nat) (v i j wa ba : Int) (P : Int → Int) (h' : XH), v + (r : Int) = 16 → (0 ≤ i ∧ i ≤ n) → (0 ≤ j ∧ j ≤ m) → (0 ≤ wa ∧ wa ≤ v) → (0 ≤ ba ∧ ba ≤ v) → (∀ o, ¬ o = 64 → ¬ o = 65 → h' o = h o) → (∀ k, ¬ k = 3 → ¬ k = 4 → h' 64 k = h 64 k) → h' 64 3 = wa → h' 64 4 = ba → (∀ k, 0 ≤ k → k < 8 → h' 65 k = P k) → trV (csV (lfV f y) n m a b) (lfV f y) n m a r i j wa ba P = Z → xq X d 234 Q 43 [(0, (2, 64)), (1, (2, 59)), (2, (2, 7)), (3, (0, a)), (4, (0, i)), (5, (0, j)), (6, (0, v))] [] h' := by
    intro r
    induction r with
    | zero =>
      intro v i j wa ba P h' ev hi hj hwa hba fo f64 e3 e4 eP ez
      have z := hQ h' fo f64 (by rw [← ez]; exact e3) (by rw [← ez]; exact e4) (by rw [← ez]; exact eP)
      refine U_234_43 (by omega) a i j v h' ?_
      refine ⟨fun _ => z, fun q => absurd (by omega) q⟩
    | succ r ih =>
      intro v i j wa ba P h' ev hi hj hwa hba fo f64 e3 e4 eP ez
      have K' : hCo n m f y h' := hCo_fr K (fo 59 (by decide) (by decide)) (fo 60 (by decide) (by decide)) (fo 7 (by decide) (by decide)) (fo 8 (by decide) (by decide))
      have e59 : h' 59 1 = n := K'.1
      have e7 : h' 7 1 = m := K'.2.2.1
      have e66 := fo 66 (by decide) (by decide)
      have eqm := fun (q : i < n) (q2 : j = m) => csV_eqm (F := lfV f y) (n := n) (m := m) (a := a) (b := b) q q2
      generalize eC : csV (lfV f y) n m a b = C at *
      have tb' : ∀ i j, 0 ≤ i → i ≤ n → 0 ≤ j → j ≤ m → h' 66 (i * 9 + j) = C i j := fun i j p q s t => by
        rw [e66, ← eC]
        exact tb i j p q s t
      have tij := tb' i j hi.1 hi.2 hj.1 hj.2
      have t1j : i < n → h' 66 ((i + 1) * 9 + j) = C (i + 1) j := fun q => tb' (i + 1) j (by omega) (by omega) hj.1 hj.2
      have t11 : i < n → j < m → h' 66 ((i + 1) * 9 + j + 1) = C (i + 1) (j + 1) := fun q q2 => by
        rw [show (i + 1) * 9 + j + 1 = (i + 1) * 9 + (j + 1) by omega]
        exact tb' (i + 1) (j + 1) (by omega) (by omega) (by omega) (by omega)
      have rij := rng i j hi.1 hj.1
      have r1j := rng (i + 1) j (by omega) hj.1
      have r11 := rng (i + 1) (j + 1) (by omega) (by omega)
      have nE : n ≤ i → m ≤ j → Q 0 h' := fun q q2 => by
        rw [trV_e ⟨q, q2⟩] at ez
        exact hQ h' fo f64 (by rw [← ez]; exact e3) (by rw [← ez]; exact e4) (by rw [← ez]; exact eP)
      have nP : ((i < n ∧ j < m) ∧ lfV f y i j + C (i + 1) (j + 1) = C i j) → xq X d 234 Q 43 [(0, (2, 64)), (1, (2, 59)), (2, (2, 7)), (3, (0, a)), (4, (0, i + 1)), (5, (0, j + 1)), (6, (0, v + 1))] [] (xup h' 65 j i) := fun q => by
        rw [trV_p q] at ez
        refine ih (v + 1) (i + 1) (j + 1) wa ba _ _ (by omega) (by omega) (by omega) (by omega) (by omega) (fun o p s => by rw [xup_ne s]; exact fo o p s) (fun k p s => by rw [xup_ne (by decide)]; exact f64 k p s) (by rw [xup_ne (by decide)]; exact e3) (by rw [xup_ne (by decide)]; exact e4) (fun k p s => ?_) ez
        by_cases e : k = j
        · rw [if_pos e, e, xup_self]
        · rw [if_neg e, xup_k e]
          exact eP k p s
      have nW : ¬ ((i < n ∧ j < m) ∧ lfV f y i j + C (i + 1) (j + 1) = C i j) → i < n → C (i + 1) j + a = C i j → xq X d 234 Q 43 [(0, (2, 64)), (1, (2, 59)), (2, (2, 7)), (3, (0, a)), (4, (0, i + 1)), (5, (0, j)), (6, (0, v + 1))] [] (xup h' 64 3 (h' 64 3 + 1)) := fun q q2 q3 => by
        rw [trV_w q ⟨q2, q3⟩] at ez
        exact ih (v + 1) (i + 1) j (wa + 1) ba P _ (by omega) (by omega) (by omega) (by omega) (by omega) (fun o p s => by rw [xup_ne p]; exact fo o p s) (fun k p s => by rw [xup_k p]; exact f64 k p s) (by rw [xup_self, e3]) (by rw [xup_k (by decide)]; exact e4) (fun k p s => by rw [xup_ne (by decide)]; exact eP k p s) ez
      have nB : ¬ ((i < n ∧ j < m) ∧ lfV f y i j + C (i + 1) (j + 1) = C i j) → ¬ (i < n ∧ C (i + 1) j + a = C i j) → ¬ (n ≤ i ∧ m ≤ j) → xq X d 234 Q 43 [(0, (2, 64)), (1, (2, 59)), (2, (2, 7)), (3, (0, a)), (4, (0, i)), (5, (0, j + 1)), (6, (0, v + 1))] [] (xup h' 64 4 (h' 64 4 + 1)) := fun q q2 q3 => by
        rw [trV_b q3 q q2] at ez
        have jm : j < m := by
          by_cases y1 : i < n
          · by_cases y2 : j < m
            · exact y2
            · exact absurd ⟨y1, eqm y1 (by omega)⟩ q2
          · omega
        exact ih (v + 1) i (j + 1) wa (ba + 1) P _ (by omega) (by omega) (by omega) (by omega) (by omega) (fun o p s => by rw [xup_ne p]; exact fo o p s) (fun k p s => by rw [xup_k s]; exact f64 k p s) (by rw [xup_k (by decide)]; exact e3) (by rw [xup_self, e4]) (fun k p s => by rw [xup_ne (by decide)]; exact eP k p s) ez
      have b1 : i < n → (0 ≤ h' 66 ((i + 1) * 9 + j) ∧ h' 66 ((i + 1) * 9 + j) ≤ 16000) := fun q => by
        rw [t1j q]
        exact r1j
      clear eqm ez ih tb'
      refine U_234_43 (by omega) a i j v h' ?_
      refine ⟨fun c1 => ?_, fun c1 => ?_⟩
      · skip
        first | (exfalso; omega) | exact nE (by omega) (by omega) | exact nP (by omega) | exact nW (by omega) (by omega) (by omega) | exact nB (by omega) (by omega) (by omega)
      · skip
        refine ⟨fun c2 => ?_, fun c2 => ?_⟩
        · skip
          refine ⟨fun c3 => ?_, fun c3 => ?_⟩
          · skip
            refine ⟨fun c4 => ?_, fun c4 => ?_⟩
            · skip
              refine ⟨?_, ?_⟩
              · first | omega | (unfold xI; omega) | (exfalso; omega)
              refine ⟨?_, ?_⟩
              · first | omega | (unfold xI; omega) | (exfalso; omega)
              refine ⟨?_, ?_⟩
              · first | omega | (unfold xI; omega) | (exfalso; omega)
              first | (exfalso; omega) | exact nE (by omega) (by omega) | exact nP (by omega) | exact nW (by omega) (by omega) (by omega) | exact nB (by omega) (by omega) (by omega)
            · skip
              refine ⟨?_, ?_⟩
              · first | omega | (unfold xI; omega) | (exfalso; omega)
              refine ⟨?_, ?_⟩
              · first | omega | (unfold xI; omega) | (exfalso; omega)
              refine ⟨?_, ?_⟩
              · first | omega | (unfold xI; omega) | (exfalso; omega)
              refine ⟨?_, ?_⟩
              · first | omega | (unfold xI; omega) | (exfalso; omega)
              refine ⟨?_, ?_⟩
              · first | omega | (unfold xI; omega) | (exfalso; omega)
              refine ⟨?_, ?_⟩
              · first | omega | (unfold xI; omega) | (exfalso; omega)
              refine ⟨?_, ?_⟩
              · first | omega | (unfold xI; omega) | (exfalso; omega)
              refine ⟨?_, ?_⟩
              · first | omega | (unfold xI; omega) | (exfalso; omega)
              refine ⟨fun c5 => ?_, fun c5 => ?_⟩
              · skip
                refine ⟨?_, ?_⟩
                · first | omega | (unfold xI; omega) | (exfalso; omega)
                refine ⟨?_, ?_⟩
                · first | omega | (unfold xI; omega) | (exfalso; omega)
                refine ⟨?_, ?_⟩
                · first | omega | (unfold xI; omega) | (exfalso; omega)
                first | (exfalso; omega) | exact nE (by omega) (by omega) | exact nP (by omega) | exact nW (by omega) (by omega) (by omega) | exact nB (by omega) (by omega) (by omega)
              · skip
                refine ⟨?_, ?_⟩
                · first | omega | (unfold xI; omega) | (exfalso; omega)
                refine ⟨?_, ?_⟩
                · first | omega | (unfold xI; omega) | (exfalso; omega)
                refine ⟨?_, ?_⟩
                · first | omega | (unfold xI; omega) | (exfalso; omega)
                first | (exfalso; omega) | exact nE (by omega) (by omega) | exact nP (by omega) | exact nW (by omega) (by omega) (by omega) | exact nB (by omega) (by omega) (by omega)
          · skip
            refine ⟨fun c6 => ?_, fun c6 => ?_⟩
            · skip
              refine ⟨fun c7 => ?_, fun c7 => ?_⟩
              · skip
                refine ⟨?_, ?_⟩
                · first | omega | (unfold xI; omega) | (exfalso; omega)
                refine ⟨?_, ?_⟩
                · first | omega | (unfold xI; omega) | (exfalso; omega)
                refine ⟨?_, ?_⟩
                · first | omega | (unfold xI; omega) | (exfalso; omega)
                first | (exfalso; omega) | exact nE (by omega) (by omega) | exact nP (by omega) | exact nW (by omega) (by omega) (by omega) | exact nB (by omega) (by omega) (by omega)
              · skip
                refine ⟨?_, ?_⟩
                · first | omega | (unfold xI; omega) | (exfalso; omega)
                refine ⟨?_, ?_⟩
                · first | omega | (unfold xI; omega) | (exfalso; omega)
                refine ⟨?_, ?_⟩
                · first | omega | (unfold xI; omega) | (exfalso; omega)
                refine ⟨?_, ?_⟩
                · first | omega | (unfold xI; omega) | (exfalso; omega)
                refine ⟨?_, ?_⟩
                · first | omega | (unfold xI; omega) | (exfalso; omega)
                refine ⟨?_, ?_⟩
                · first | omega | (unfold xI; omega) | (exfalso; omega)
                refine ⟨?_, ?_⟩
                · first | omega | (unfold xI; omega) | (exfalso; omega)
                refine ⟨?_, ?_⟩
                · first | omega | (unfold xI; omega) | (exfalso; omega)
                refine ⟨fun c8 => ?_, fun c8 => ?_⟩
                · skip
                  refine ⟨?_, ?_⟩
                  · first | omega | (unfold xI; omega) | (exfalso; omega)
                  refine ⟨?_, ?_⟩
                  · first | omega | (unfold xI; omega) | (exfalso; omega)
                  refine ⟨?_, ?_⟩
                  · first | omega | (unfold xI; omega) | (exfalso; omega)
                  first | (exfalso; omega) | exact nE (by omega) (by omega) | exact nP (by omega) | exact nW (by omega) (by omega) (by omega) | exact nB (by omega) (by omega) (by omega)
                · skip
                  refine ⟨?_, ?_⟩
                  · first | omega | (unfold xI; omega) | (exfalso; omega)
                  refine ⟨?_, ?_⟩
                  · first | omega | (unfold xI; omega) | (exfalso; omega)
                  refine ⟨?_, ?_⟩
                  · first | omega | (unfold xI; omega) | (exfalso; omega)
                  first | (exfalso; omega) | exact nE (by omega) (by omega) | exact nP (by omega) | exact nW (by omega) (by omega) (by omega) | exact nB (by omega) (by omega) (by omega)
            · skip
              refine s_232w (by omega) K' I0 ⟨hi.1, by omega⟩ ⟨hj.1, by omega⟩ (t11 (by omega) (by omega)) r11 (fun J2343 ej => ?_)
              have t11_ := t11 (by omega) (by omega)
              refine ⟨?_, ?_⟩
              · first | omega | (unfold xI; omega) | (exfalso; omega)
              refine ⟨?_, ?_⟩
              · first | omega | (unfold xI; omega) | (exfalso; omega)
              refine ⟨?_, ?_⟩
              · first | omega | (unfold xI; omega) | (exfalso; omega)
              refine ⟨fun c9 => ?_, fun c9 => ?_⟩
              · skip
                refine ⟨fun c10 => ?_, fun c10 => ?_⟩
                · skip
                  refine ⟨?_, ?_⟩
                  · first | omega | (unfold xI; omega) | (exfalso; omega)
                  refine ⟨?_, ?_⟩
                  · first | omega | (unfold xI; omega) | (exfalso; omega)
                  refine ⟨?_, ?_⟩
                  · first | omega | (unfold xI; omega) | (exfalso; omega)
                  first | (exfalso; omega) | exact nE (by omega) (by omega) | exact nP (by omega) | exact nW (by omega) (by omega) (by omega) | exact nB (by omega) (by omega) (by omega)
                · skip
                  refine ⟨?_, ?_⟩
                  · first | omega | (unfold xI; omega) | (exfalso; omega)
                  refine ⟨?_, ?_⟩
                  · first | omega | (unfold xI; omega) | (exfalso; omega)
                  refine ⟨?_, ?_⟩
                  · first | omega | (unfold xI; omega) | (exfalso; omega)
                  refine ⟨?_, ?_⟩
                  · first | omega | (unfold xI; omega) | (exfalso; omega)
                  refine ⟨?_, ?_⟩
                  · first | omega | (unfold xI; omega) | (exfalso; omega)
                  refine ⟨?_, ?_⟩
                  · first | omega | (unfold xI; omega) | (exfalso; omega)
                  refine ⟨?_, ?_⟩
                  · first | omega | (unfold xI; omega) | (exfalso; omega)
                  refine ⟨?_, ?_⟩
                  · first | omega | (unfold xI; omega) | (exfalso; omega)
                  refine ⟨fun c11 => ?_, fun c11 => ?_⟩
                  · skip
                    refine ⟨?_, ?_⟩
                    · first | omega | (unfold xI; omega) | (exfalso; omega)
                    refine ⟨?_, ?_⟩
                    · first | omega | (unfold xI; omega) | (exfalso; omega)
                    refine ⟨?_, ?_⟩
                    · first | omega | (unfold xI; omega) | (exfalso; omega)
                    first | (exfalso; omega) | exact nE (by omega) (by omega) | exact nP (by omega) | exact nW (by omega) (by omega) (by omega) | exact nB (by omega) (by omega) (by omega)
                  · skip
                    refine ⟨?_, ?_⟩
                    · first | omega | (unfold xI; omega) | (exfalso; omega)
                    refine ⟨?_, ?_⟩
                    · first | omega | (unfold xI; omega) | (exfalso; omega)
                    refine ⟨?_, ?_⟩
                    · first | omega | (unfold xI; omega) | (exfalso; omega)
                    first | (exfalso; omega) | exact nE (by omega) (by omega) | exact nP (by omega) | exact nW (by omega) (by omega) (by omega) | exact nB (by omega) (by omega) (by omega)
              · skip
                refine ⟨?_, ?_⟩
                · first | omega | (unfold xI; omega) | (exfalso; omega)
                refine ⟨?_, ?_⟩
                · first | omega | (unfold xI; omega) | (exfalso; omega)
                refine ⟨?_, ?_⟩
                · first | omega | (unfold xI; omega) | (exfalso; omega)
                refine ⟨?_, ?_⟩
                · first | omega | (unfold xI; omega) | (exfalso; omega)
                first | (exfalso; omega) | exact nE (by omega) (by omega) | exact nP (by omega) | exact nW (by omega) (by omega) (by omega) | exact nB (by omega) (by omega) (by omega)
        · skip
          refine ⟨fun c12 => ?_, fun c12 => ?_⟩
          · skip
            first | (exfalso; omega) | exact nE (by omega) (by omega) | exact nP (by omega) | exact nW (by omega) (by omega) (by omega) | exact nB (by omega) (by omega) (by omega)
          · skip
            refine ⟨fun c13 => ?_, fun c13 => ?_⟩
            · skip
              refine ⟨fun c14 => ?_, fun c14 => ?_⟩
              · skip
                refine ⟨?_, ?_⟩
                · first | omega | (unfold xI; omega) | (exfalso; omega)
                refine ⟨?_, ?_⟩
                · first | omega | (unfold xI; omega) | (exfalso; omega)
                refine ⟨?_, ?_⟩
                · first | omega | (unfold xI; omega) | (exfalso; omega)
                first | (exfalso; omega) | exact nE (by omega) (by omega) | exact nP (by omega) | exact nW (by omega) (by omega) (by omega) | exact nB (by omega) (by omega) (by omega)
              · skip
                refine ⟨?_, ?_⟩
                · first | omega | (unfold xI; omega) | (exfalso; omega)
                refine ⟨?_, ?_⟩
                · first | omega | (unfold xI; omega) | (exfalso; omega)
                refine ⟨?_, ?_⟩
                · first | omega | (unfold xI; omega) | (exfalso; omega)
                refine ⟨?_, ?_⟩
                · first | omega | (unfold xI; omega) | (exfalso; omega)
                refine ⟨?_, ?_⟩
                · first | omega | (unfold xI; omega) | (exfalso; omega)
                refine ⟨?_, ?_⟩
                · first | omega | (unfold xI; omega) | (exfalso; omega)
                refine ⟨?_, ?_⟩
                · first | omega | (unfold xI; omega) | (exfalso; omega)
                refine ⟨?_, ?_⟩
                · first | omega | (unfold xI; omega) | (exfalso; omega)
                refine ⟨fun c15 => ?_, fun c15 => ?_⟩
                · skip
                  refine ⟨?_, ?_⟩
                  · first | omega | (unfold xI; omega) | (exfalso; omega)
                  refine ⟨?_, ?_⟩
                  · first | omega | (unfold xI; omega) | (exfalso; omega)
                  refine ⟨?_, ?_⟩
                  · first | omega | (unfold xI; omega) | (exfalso; omega)
                  first | (exfalso; omega) | exact nE (by omega) (by omega) | exact nP (by omega) | exact nW (by omega) (by omega) (by omega) | exact nB (by omega) (by omega) (by omega)
                · skip
                  refine ⟨?_, ?_⟩
                  · first | omega | (unfold xI; omega) | (exfalso; omega)
                  refine ⟨?_, ?_⟩
                  · first | omega | (unfold xI; omega) | (exfalso; omega)
                  refine ⟨?_, ?_⟩
                  · first | omega | (unfold xI; omega) | (exfalso; omega)
                  first | (exfalso; omega) | exact nE (by omega) (by omega) | exact nP (by omega) | exact nW (by omega) (by omega) (by omega) | exact nB (by omega) (by omega) (by omega)
            · skip
              refine ⟨fun c16 => ?_, fun c16 => ?_⟩
              · skip
                refine ⟨fun c17 => ?_, fun c17 => ?_⟩
                · skip
                  refine ⟨?_, ?_⟩
                  · first | omega | (unfold xI; omega) | (exfalso; omega)
                  refine ⟨?_, ?_⟩
                  · first | omega | (unfold xI; omega) | (exfalso; omega)
                  refine ⟨?_, ?_⟩
                  · first | omega | (unfold xI; omega) | (exfalso; omega)
                  first | (exfalso; omega) | exact nE (by omega) (by omega) | exact nP (by omega) | exact nW (by omega) (by omega) (by omega) | exact nB (by omega) (by omega) (by omega)
                · skip
                  refine ⟨?_, ?_⟩
                  · first | omega | (unfold xI; omega) | (exfalso; omega)
                  refine ⟨?_, ?_⟩
                  · first | omega | (unfold xI; omega) | (exfalso; omega)
                  refine ⟨?_, ?_⟩
                  · first | omega | (unfold xI; omega) | (exfalso; omega)
                  refine ⟨?_, ?_⟩
                  · first | omega | (unfold xI; omega) | (exfalso; omega)
                  refine ⟨?_, ?_⟩
                  · first | omega | (unfold xI; omega) | (exfalso; omega)
                  refine ⟨?_, ?_⟩
                  · first | omega | (unfold xI; omega) | (exfalso; omega)
                  refine ⟨?_, ?_⟩
                  · first | omega | (unfold xI; omega) | (exfalso; omega)
                  refine ⟨?_, ?_⟩
                  · first | omega | (unfold xI; omega) | (exfalso; omega)
                  refine ⟨fun c18 => ?_, fun c18 => ?_⟩
                  · skip
                    refine ⟨?_, ?_⟩
                    · first | omega | (unfold xI; omega) | (exfalso; omega)
                    refine ⟨?_, ?_⟩
                    · first | omega | (unfold xI; omega) | (exfalso; omega)
                    refine ⟨?_, ?_⟩
                    · first | omega | (unfold xI; omega) | (exfalso; omega)
                    first | (exfalso; omega) | exact nE (by omega) (by omega) | exact nP (by omega) | exact nW (by omega) (by omega) (by omega) | exact nB (by omega) (by omega) (by omega)
                  · skip
                    refine ⟨?_, ?_⟩
                    · first | omega | (unfold xI; omega) | (exfalso; omega)
                    refine ⟨?_, ?_⟩
                    · first | omega | (unfold xI; omega) | (exfalso; omega)
                    refine ⟨?_, ?_⟩
                    · first | omega | (unfold xI; omega) | (exfalso; omega)
                    first | (exfalso; omega) | exact nE (by omega) (by omega) | exact nP (by omega) | exact nW (by omega) (by omega) (by omega) | exact nB (by omega) (by omega) (by omega)
              · skip
                refine s_232w (by omega) K' I0 ⟨hi.1, by omega⟩ ⟨hj.1, by omega⟩ (t11 (by omega) (by omega)) r11 (fun J2345 ej => ?_)
                have t11_ := t11 (by omega) (by omega)
                refine ⟨?_, ?_⟩
                · first | omega | (unfold xI; omega) | (exfalso; omega)
                refine ⟨?_, ?_⟩
                · first | omega | (unfold xI; omega) | (exfalso; omega)
                refine ⟨?_, ?_⟩
                · first | omega | (unfold xI; omega) | (exfalso; omega)
                refine ⟨fun c19 => ?_, fun c19 => ?_⟩
                · skip
                  refine ⟨fun c20 => ?_, fun c20 => ?_⟩
                  · skip
                    refine ⟨?_, ?_⟩
                    · first | omega | (unfold xI; omega) | (exfalso; omega)
                    refine ⟨?_, ?_⟩
                    · first | omega | (unfold xI; omega) | (exfalso; omega)
                    refine ⟨?_, ?_⟩
                    · first | omega | (unfold xI; omega) | (exfalso; omega)
                    first | (exfalso; omega) | exact nE (by omega) (by omega) | exact nP (by omega) | exact nW (by omega) (by omega) (by omega) | exact nB (by omega) (by omega) (by omega)
                  · skip
                    refine ⟨?_, ?_⟩
                    · first | omega | (unfold xI; omega) | (exfalso; omega)
                    refine ⟨?_, ?_⟩
                    · first | omega | (unfold xI; omega) | (exfalso; omega)
                    refine ⟨?_, ?_⟩
                    · first | omega | (unfold xI; omega) | (exfalso; omega)
                    refine ⟨?_, ?_⟩
                    · first | omega | (unfold xI; omega) | (exfalso; omega)
                    refine ⟨?_, ?_⟩
                    · first | omega | (unfold xI; omega) | (exfalso; omega)
                    refine ⟨?_, ?_⟩
                    · first | omega | (unfold xI; omega) | (exfalso; omega)
                    refine ⟨?_, ?_⟩
                    · first | omega | (unfold xI; omega) | (exfalso; omega)
                    refine ⟨?_, ?_⟩
                    · first | omega | (unfold xI; omega) | (exfalso; omega)
                    refine ⟨fun c21 => ?_, fun c21 => ?_⟩
                    · skip
                      refine ⟨?_, ?_⟩
                      · first | omega | (unfold xI; omega) | (exfalso; omega)
                      refine ⟨?_, ?_⟩
                      · first | omega | (unfold xI; omega) | (exfalso; omega)
                      refine ⟨?_, ?_⟩
                      · first | omega | (unfold xI; omega) | (exfalso; omega)
                      first | (exfalso; omega) | exact nE (by omega) (by omega) | exact nP (by omega) | exact nW (by omega) (by omega) (by omega) | exact nB (by omega) (by omega) (by omega)
                    · skip
                      refine ⟨?_, ?_⟩
                      · first | omega | (unfold xI; omega) | (exfalso; omega)
                      refine ⟨?_, ?_⟩
                      · first | omega | (unfold xI; omega) | (exfalso; omega)
                      refine ⟨?_, ?_⟩
                      · first | omega | (unfold xI; omega) | (exfalso; omega)
                      first | (exfalso; omega) | exact nE (by omega) (by omega) | exact nP (by omega) | exact nW (by omega) (by omega) (by omega) | exact nB (by omega) (by omega) (by omega)
                · skip
                  refine ⟨?_, ?_⟩
                  · first | omega | (unfold xI; omega) | (exfalso; omega)
                  refine ⟨?_, ?_⟩
                  · first | omega | (unfold xI; omega) | (exfalso; omega)
                  refine ⟨?_, ?_⟩
                  · first | omega | (unfold xI; omega) | (exfalso; omega)
                  refine ⟨?_, ?_⟩
                  · first | omega | (unfold xI; omega) | (exfalso; omega)
                  first | (exfalso; omega) | exact nE (by omega) (by omega) | exact nP (by omega) | exact nW (by omega) (by omega) (by omega) | exact nB (by omega) (by omega) (by omega)
  have key3 : ∀ (r : Nat) (v : Int) (h' : XH), v + (r : Int) = 8 → 0 ≤ v → (∀ o, ¬ o = 65 → h' o = h o) → (∀ k, 0 ≤ k → k < v → h' 65 k = -1) → xq X d 234 Q 3 [(0, (2, 64)), (1, (2, 59)), (2, (2, 7)), (3, (0, a)), (4, (0, v))] [] h' := by
    intro r
    induction r with
    | zero =>
      intro v h' ev h0 fo fk
      have z := key 16 0 0 0 0 0 (fun _ => -1) (xup (xup h' 64 3 0) 64 4 0) (by decide) (by omega) (by omega) (by decide) (by decide) (fun o p q => by rw [xup_ne p, xup_ne p]; exact fo o q) (fun k p q => by rw [xup_k q, xup_k p, fo 64 (by decide)]) (by rw [xup_k (by decide), xup_self]) (xup_self _ _ _ _) (fun k p q => by rw [xup_ne (by decide), xup_ne (by decide)]; exact fk k p (by omega)) eZ
      refine U_234_3 (by omega) a v h' ?_
      refine ⟨fun c1 => ?_, fun c1 => ?_⟩
      · skip
        exact z
      · skip
        refine ⟨?_, ?_⟩
        · first | omega | (unfold xI; omega) | (unfold xJ; omega) | (exfalso; omega)
        refine ⟨?_, ?_⟩
        · first | omega | (unfold xI; omega) | (unfold xJ; omega) | (exfalso; omega)
        exfalso
        omega
    | succ r ih =>
      intro v h' ev h0 fo fk
      have z := ih (v + 1) (xup h' 65 v (-1)) (by omega) (by omega) (fun o p => by rw [xup_ne p]; exact fo o p) (fun k p q => by
        by_cases e : k = v
        · rw [e, xup_self]
        · rw [xup_k e]
          exact fk k p (by omega))
      refine U_234_3 (by omega) a v h' ?_
      refine ⟨fun c1 => ?_, fun c1 => ?_⟩
      · skip
        exfalso
        omega
      · skip
        refine ⟨?_, ?_⟩
        · first | omega | (unfold xI; omega) | (unfold xJ; omega) | (exfalso; omega)
        refine ⟨?_, ?_⟩
        · first | omega | (unfold xI; omega) | (unfold xJ; omega) | (exfalso; omega)
        exact z
  exact U_234 (by omega) a h (key3 8 0 h (by decide) (by decide) (fun _ _ => rfl) (fun k p q => absurd q (by omega)))
