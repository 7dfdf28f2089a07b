/-! THE PURE LAYER 24: where -/
def ithR (f : Int → Int) (i : Int) : Nat → Int → Int → Int
  | 0, _, _ => -1
  | k + 1, c, a => if f c = 0 then ithR f i k (c + 1) a else if a = i then c else ithR f i k (c + 1) (a + 1)
def cntN (f : Int → Int) : Nat → Int → Nat
  | 0, _ => 0
  | k + 1, c => (if f c = 0 then 0 else 1) + cntN f k (c + 1)
def maskR (f : Int → Int) : Nat → Int → Nat
  | 0, _ => 0
  | k + 1, c => (if f c = 0 then 0 else 1) + 2 * maskR f k (c + 1)
theorem maskR_lt (f : Int → Int) : ∀ (k : Nat) (c : Int), maskR f k c < 2 ^ k
  | 0, c => by
    unfold maskR
    decide
  | k + 1, c => by
    have := maskR_lt f k (c + 1)
    unfold maskR
    rw [Nat.pow_succ]
    split <;> omega
theorem maskR_64 (f : Int → Int) (k : Nat) (c : Int) (hk : k ≤ 64) : maskR f k c < 18446744073709551616 :=
  Nat.lt_of_lt_of_le (maskR_lt f k c) (Nat.le_trans (Nat.pow_le_pow_right (by decide) hk) (show (2 : Nat) ^ 64 ≤ 18446744073709551616 by decide))
theorem popB_0 : ∀ j : Nat, popB j 0 = 0
  | 0 => rfl
  | j + 1 => by
    unfold popB
    rw [Nat.zero_mod, Nat.zero_div, popB_0 j]
theorem pop_mask (f : Int → Int) : ∀ (j k : Nat) (c : Int), k ≤ j → popB j (maskR f k c) = cntN f k c
  | j, 0, c, _ => by unfold maskR cntN; exact popB_0 j
  | 0, k + 1, c, h => by omega
  | j + 1, k + 1, c, h => by
    have ih := pop_mask f j k (c + 1) (by omega)
    unfold maskR cntN popB
    split
    · rw [show (0 + 2 * maskR f k (c + 1)) % 2 = 0 by omega, show (0 + 2 * maskR f k (c + 1)) / 2 = maskR f k (c + 1) by omega, ih]
    · rw [show (1 + 2 * maskR f k (c + 1)) % 2 = 1 by omega, show (1 + 2 * maskR f k (c + 1)) / 2 = maskR f k (c + 1) by omega, ih]
theorem and_split2 (a b : Nat) : a &&& b = ((a % 2) &&& (b % 2)) + 2 * ((a / 2) &&& (b / 2)) := by
  have h1 := Nat.and_mod_two_pow (a := a) (b := b) (n := 1)
  have h2 := Nat.and_div_two_pow (a := a) (b := b) (n := 1)
  rw [show (2 : Nat) ^ 1 = 2 from rfl] at h1 h2
  rw [← h1, ← h2]
  omega
theorem mask_and (f f' : Int → Int) : ∀ (k : Nat) (c : Int), maskR f k c &&& maskR f' k c = maskR (fun e => if f e = 0 then 0 else f' e) k c
  | 0, c => by
    unfold maskR
    decide
  | k + 1, c => by
    have ih := mask_and f f' k (c + 1)
    rw [and_split2]
    unfold maskR
    generalize maskR f k (c + 1) = A at *
    generalize maskR f' k (c + 1) = B at *
    by_cases h : f c = 0
    · rw [if_pos h]
      rw [if_pos h, if_pos rfl, show (0 + 2 * A) % 2 = 0 by omega, show (0 + 2 * A) / 2 = A by omega]
      split
      · rw [show (0 + 2 * B) / 2 = B by omega, ih, Nat.zero_and]
      · rw [show (1 + 2 * B) / 2 = B by omega, ih, Nat.zero_and]
    · rw [if_neg h]
      rw [if_neg h, show (1 + 2 * A) % 2 = 1 by omega, show (1 + 2 * A) / 2 = A by omega]
      split
      · rw [show (0 + 2 * B) / 2 = B by omega, show (0 + 2 * B) % 2 = 0 by omega, ih, Nat.and_zero]
      · rw [show (1 + 2 * B) / 2 = B by omega, show (1 + 2 * B) % 2 = 1 by omega, ih, Nat.and_self]
theorem mask_0 (f : Int → Int) : ∀ (k : Nat) (c : Int), maskR f k c = 0 ↔ ∀ e, c ≤ e → e < c + k → f e = 0
  | 0, c => ⟨fun _ e a b => by omega, fun _ => rfl⟩
  | k + 1, c => by
    have ih := mask_0 f k (c + 1)
    unfold maskR
    constructor
    · intro h e a b
      by_cases hf : f c = 0
      · rw [if_pos hf] at h
        by_cases he : e = c
        · rw [he]; exact hf
        · exact ih.mp (by omega) e (by omega) (by omega)
      · rw [if_neg hf] at h
        omega
    · intro h
      rw [if_pos (h c (by omega) (by omega)), ih.mpr (fun e a b => h e (by omega) (by omega))]

theorem U_69 {X : Int × (Int → Int)} {d : Nat} {Q : Int → XH → Prop} (hd : 0 ≤ d) (l : Int) (w n : Int) (g : Int → Int) (H : XH) (h : xq X d 69 Q 5 [(0, (2, 39)), (1, (0, l)), (2, (1, 0)), (4, (0, 0))] [] H) : xc X (d + 1) 69 [(2, 39), (0, l)] H Q := by
  refine ⟨rfl, ?_⟩
  show xq X d 69 Q 100000 [(0, (2, 39)), (1, (0, l))] [] H
  refine xq_run [5, 21] 300 ?_
  show xq X d 69 Q 5 [(0, (2, 39)), (1, (0, l)), (2, (1, 0)), (4, (0, 0))] [] H
  exact h
theorem U_69_5 {X : Int × (Int → Int)} {d : Nat} {Q : Int → XH → Prop} (hd : 3 ≤ d) (v1 v2 v4 : Int) (w n : Int) (g : Int → Int) (H : XH) (h : ((H 39 6 ≤ v4) → Q v2 H) ∧ (¬ (H 39 6 ≤ v4) → (lkA w n g H) ∧ (0 ≤ v1 ∧ v1 < g 1) ∧ (0 ≤ v4 ∧ v4 < n) ∧ (((alB w n g v1 v4 = 0) → (xI (v4 + 1)) ∧ xq X d 69 Q 5 [(0, (2, 39)), (1, (0, v1)), (2, (1, v2)), (4, (0, v4 + 1))] [] H) ∧ (¬ (alB w n g v1 v4 = 0) → (xI (v4 + 1)) ∧ xq X d 69 Q 5 [(0, (2, 39)), (1, (0, v1)), (2, (1, xorL v2 (xshlL 1 v4))), (4, (0, v4 + 1))] [] H)))) : xq X d 69 Q 5 [(0, (2, 39)), (1, (0, v1)), (2, (1, v2)), (4, (0, v4))] [] H := by
  show xq X d 69 Q 5 [(0, (2, 39)), (1, (0, v1)), (2, (1, v2)), (4, (0, v4))] [] H
  refine xq_run [5, 21] 300 ?_
  show ((H 39 6 ≤ v4) → xfR 1 v2 ∧ xKZ = xKZ ∧ Q v2 H) ∧ (¬ (H 39 6 ≤ v4) → xWM (xE X) xMC d 68 [(2, 39), (0, v1), (0, v4)] xKZ H _)
  refine ⟨fun k_ => ?_, fun k_ => ?_⟩
  · replace h := h.1 k_
    exact ⟨trivial, rfl, h⟩
  · replace h := h.2 k_
    refine xc_in (s_68 (by omega) w n g v1 v4 H (h.1) (h.2.1) (h.2.2.1) ?_)
    replace h := h.2.2.2
    show xq X d 69 Q 21 [(0, (2, 39)), (1, (0, v1)), (2, (1, v2)), (4, (0, v4))] [(0, alB w n g v1 v4)] H
    refine xq_run [5, 21] 300 ?_
    show ((alB w n g v1 v4 = 0) → (xI (v4 + 1)) ∧ xq X d 69 Q 5 [(0, (2, 39)), (1, (0, v1)), (2, (1, v2)), (4, (0, v4 + 1))] [] H) ∧ (¬ (alB w n g v1 v4 = 0) → (xI (v4 + 1)) ∧ xq X d 69 Q 5 [(0, (2, 39)), (1, (0, v1)), (2, (1, xorL v2 (xshlL 1 v4))), (4, (0, v4 + 1))] [] H)
    refine ⟨fun k_ => ?_, fun k_ => ?_⟩
    · replace h := h.1 k_
      refine ⟨h.1, ?_⟩
      replace h := h.2
      exact h
    · replace h := h.2 k_
      refine ⟨h.1, ?_⟩
      replace h := h.2
      exact h

theorem s_69 {X : Int × (Int → Int)} {d : Nat} {Q : Int → XH → Prop} (hd : 4 ≤ d) (w n : Int) (g : Int → Int) (l : Int) (H : XH) (hk : lkA w n g H) (pl : 0 ≤ l ∧ l < g 1) (hQ : Q (xJn (maskR (alB w n g l) n.toNat 0)) H) : xc X d 69 [(2, 39), (0, l)] H Q := by
  cases d with
  | zero => omega
  | succ d =>
  obtain ⟨hg, e6, e7, e8, hk2⟩ := id hk
  have nn := hg.nn
  have ww := hg.ww
  have lyb := hg.lyb
  have bnd := hg.bnd
  obtain ⟨M, hM⟩ : ∃ M, maskR (alB w n g l) n.toNat 0 = M := ⟨_, rfl⟩
  rw [hM] at hQ
  have key : ∀ (k j v : Nat), j + k = n.toNat → v < 2 ^ j → v + 2 ^ j * maskR (alB w n g l) k (j : Int) = M → xq X d 69 Q 5 [(0, (2, 39)), (1, (0, l)), (2, (1, xJn v)), (4, (0, (j : Int)))] [] H := by
    intro k
    induction k with
    | zero =>
      intro j v hj hv hm
      unfold maskR at hm
      rw [Nat.mul_zero, Nat.add_zero] at hm
      rw [← hm] at hQ
      refine U_69_5 (by omega) l (xJn v) (j : Int) w n g H ?_
      refine ⟨fun c1 => ?_, fun c1 => ?_⟩
      · skip
        exact hQ
      · skip
        refine ⟨?_, ?_⟩
        · first | exact hk | omega | (unfold xI; omega) | (exfalso; omega)
        refine ⟨?_, ?_⟩
        · first | exact hk | omega | (unfold xI; omega) | (exfalso; omega)
        refine ⟨?_, ?_⟩
        · first | exact hk | omega | (unfold xI; omega) | (exfalso; omega)
        refine ⟨fun c2 => ?_, fun c2 => ?_⟩
        · skip
          refine ⟨?_, ?_⟩
          · first | exact hk | omega | (unfold xI; omega) | (exfalso; omega)
          exfalso
          omega
        · skip
          refine ⟨?_, ?_⟩
          · first | exact hk | omega | (unfold xI; omega) | (exfalso; omega)
          exfalso
          omega
    | succ k ih =>
      intro j v hj hv hm
      unfold maskR at hm
      have hj64 : j < 64 := by omega
      have hp : 2 ^ (j + 1) = 2 ^ j * 2 := Nat.pow_succ 2 j
      refine U_69_5 (by omega) l (xJn v) (j : Int) w n g H ?_
      refine ⟨fun c1 => ?_, fun c1 => ?_⟩
      · skip
        exfalso
        omega
      · skip
        refine ⟨?_, ?_⟩
        · first | exact hk | omega | (unfold xI; omega) | (exfalso; omega)
        refine ⟨?_, ?_⟩
        · first | exact hk | omega | (unfold xI; omega) | (exfalso; omega)
        refine ⟨?_, ?_⟩
        · first | exact hk | omega | (unfold xI; omega) | (exfalso; omega)
        refine ⟨fun c2 => ?_, fun c2 => ?_⟩
        · skip
          refine ⟨?_, ?_⟩
          · first | exact hk | omega | (unfold xI; omega) | (exfalso; omega)
          rw [if_pos (by assumption), Nat.zero_add, ← Nat.mul_assoc, ← hp] at hm
          exact ih (j + 1) v (by omega) (by omega) hm
        · skip
          refine ⟨?_, ?_⟩
          · first | exact hk | omega | (unfold xI; omega) | (exfalso; omega)
          rw [if_neg (by assumption), Nat.mul_add, Nat.mul_one, ← Nat.mul_assoc, ← hp, ← Nat.add_assoc] at hm
          have e1 : xorL (xJn v) (xshlL 1 (j : Int)) = xJn (v + 2 ^ j) := by
            rw [xJn_shl j hj64, xJn_or]
            congr 1
            have := Nat.two_pow_add_eq_or_of_lt hv 1
            rw [Nat.mul_one] at this
            rw [Nat.or_comm, ← this]
            omega
          rw [e1]
          exact ih (j + 1) (v + 2 ^ j) (by omega) (by omega) hm
  refine U_69 (by omega) l w n g H ?_
  have z := key n.toNat 0 0 (by omega) (by decide) (by rw [Nat.zero_add, Nat.pow_zero, Nat.one_mul]; exact hM)
  exact z

theorem U_71 {X : Int × (Int → Int)} {d : Nat} {Q : Int → XH → Prop} (hd : 0 ≤ d) (l i : Int) (w n : Int) (g : Int → Int) (H : XH) (h : xq X d 71 Q 5 [(0, (2, 39)), (1, (0, l)), (2, (0, i)), (3, (0, 0)), (4, (0, 0))] [] H) : xc X (d + 1) 71 [(2, 39), (0, l), (0, i)] H Q := by
  refine ⟨rfl, ?_⟩
  show xq X d 71 Q 100000 [(0, (2, 39)), (1, (0, l)), (2, (0, i))] [] H
  refine xq_run [5, 21] 300 ?_
  show xq X d 71 Q 5 [(0, (2, 39)), (1, (0, l)), (2, (0, i)), (3, (0, 0)), (4, (0, 0))] [] H
  exact h
theorem U_71_5 {X : Int × (Int → Int)} {d : Nat} {Q : Int → XH → Prop} (hd : 3 ≤ d) (v1 v2 v3 v4 : Int) (w n : Int) (g : Int → Int) (H : XH) (h : ((H 39 6 ≤ v4) → Q (-1) H) ∧ (¬ (H 39 6 ≤ v4) → (lkA w n g H) ∧ (0 ≤ v1 ∧ v1 < g 1) ∧ (0 ≤ v4 ∧ v4 < n) ∧ (((¬ alB w n g v1 v4 = 0) → ((¬ v3 = v2) → (xI (v3 + 1)) ∧ (xI (v4 + 1)) ∧ xq X d 71 Q 5 [(0, (2, 39)), (1, (0, v1)), (2, (0, v2)), (3, (0, v3 + 1)), (4, (0, v4 + 1))] [] H) ∧ (¬ (¬ v3 = v2) → Q v4 H)) ∧ (¬ (¬ alB w n g v1 v4 = 0) → (xI (v4 + 1)) ∧ xq X d 71 Q 5 [(0, (2, 39)), (1, (0, v1)), (2, (0, v2)), (3, (0, v3)), (4, (0, v4 + 1))] [] H)))) : xq X d 71 Q 5 [(0, (2, 39)), (1, (0, v1)), (2, (0, v2)), (3, (0, v3)), (4, (0, v4))] [] H := by
  show xq X d 71 Q 5 [(0, (2, 39)), (1, (0, v1)), (2, (0, v2)), (3, (0, v3)), (4, (0, v4))] [] H
  refine xq_run [5, 21] 300 ?_
  show ((H 39 6 ≤ v4) → xfR 0 (-1) ∧ xKZ = xKZ ∧ Q (-1) H) ∧ (¬ (H 39 6 ≤ v4) → xWM (xE X) xMC d 68 [(2, 39), (0, v1), (0, v4)] xKZ H _)
  refine ⟨fun k_ => ?_, fun k_ => ?_⟩
  · replace h := h.1 k_
    exact ⟨trivial, rfl, h⟩
  · replace h := h.2 k_
    refine xc_in (s_68 (by omega) w n g v1 v4 H (h.1) (h.2.1) (h.2.2.1) ?_)
    replace h := h.2.2.2
    show xq X d 71 Q 21 [(0, (2, 39)), (1, (0, v1)), (2, (0, v2)), (3, (0, v3)), (4, (0, v4))] [(0, alB w n g v1 v4)] H
    refine xq_run [5, 21] 300 ?_
    show ((¬ alB w n g v1 v4 = 0) → ((¬ v3 = v2) → (xI (v3 + 1)) ∧ (xI (v4 + 1)) ∧ xq X d 71 Q 5 [(0, (2, 39)), (1, (0, v1)), (2, (0, v2)), (3, (0, v3 + 1)), (4, (0, v4 + 1))] [] H) ∧ (¬ (¬ v3 = v2) → xfR 0 v4 ∧ xKZ = xKZ ∧ Q v4 H)) ∧ (¬ (¬ alB w n g v1 v4 = 0) → (xI (v4 + 1)) ∧ xq X d 71 Q 5 [(0, (2, 39)), (1, (0, v1)), (2, (0, v2)), (3, (0, v3)), (4, (0, v4 + 1))] [] H)
    refine ⟨fun k_ => ?_, fun k_ => ?_⟩
    · replace h := h.1 k_
      refine ⟨fun k_ => ?_, fun k_ => ?_⟩
      · replace h := h.1 k_
        refine ⟨h.1, ?_⟩
        replace h := h.2
        refine ⟨h.1, ?_⟩
        replace h := h.2
        exact h
      · replace h := h.2 k_
        exact ⟨trivial, rfl, h⟩
    · replace h := h.2 k_
      refine ⟨h.1, ?_⟩
      replace h := h.2
      exact h

theorem s_71 {X : Int × (Int → Int)} {d : Nat} {Q : Int → XH → Prop} (hd : 4 ≤ d) (w n : Int) (g : Int → Int) (l i : Int) (H : XH) (hk : lkA w n g H) (pl : 0 ≤ l ∧ l < g 1) (hQ : Q (ithR (alB w n g l) i n.toNat 0 0) H) : xc X d 71 [(2, 39), (0, l), (0, i)] H Q := by
  cases d with
  | zero => omega
  | succ d =>
  obtain ⟨hg, e6, e7, e8, hk2⟩ := id hk
  have nn := hg.nn
  have ww := hg.ww
  have lyb := hg.lyb
  have bnd := hg.bnd
  obtain ⟨V, hV⟩ : ∃ V, ithR (alB w n g l) i n.toNat 0 0 = V := ⟨_, rfl⟩
  rw [hV] at hQ
  have key : ∀ (k : Nat) (c a : Int), 0 ≤ c → c + k = n → 0 ≤ a → a ≤ c → ithR (alB w n g l) i k c a = V → xq X d 71 Q 5 [(0, (2, 39)), (1, (0, l)), (2, (0, i)), (3, (0, a)), (4, (0, c))] [] H := by
    intro k
    induction k with
    | zero =>
      intro c a h0 hn ha hac hq
      unfold ithR at hq
      rw [← hq] at hQ
      refine U_71_5 (by omega) l i a c w n g H ?_
      refine ⟨fun c1 => ?_, fun c1 => ?_⟩
      · skip
        first | exact hQ | (exfalso; omega)
      · skip
        refine ⟨?_, ?_⟩
        · first | exact hk | omega | (unfold xI; omega) | (exfalso; omega)
        refine ⟨?_, ?_⟩
        · first | exact hk | omega | (unfold xI; omega) | (exfalso; omega)
        refine ⟨?_, ?_⟩
        · first | exact hk | omega | (unfold xI; omega) | (exfalso; omega)
        refine ⟨fun c2 => ?_, fun c2 => ?_⟩
        · skip
          refine ⟨fun c3 => ?_, fun c3 => ?_⟩
          · skip
            refine ⟨?_, ?_⟩
            · first | exact hk | omega | (unfold xI; omega) | (exfalso; omega)
            refine ⟨?_, ?_⟩
            · first | exact hk | omega | (unfold xI; omega) | (exfalso; omega)
            first | exact hQ | (exfalso; omega)
          · skip
            first | exact hQ | (exfalso; omega)
        · skip
          refine ⟨?_, ?_⟩
          · first | exact hk | omega | (unfold xI; omega) | (exfalso; omega)
          first | exact hQ | (exfalso; omega)
    | succ k ih =>
      intro c a h0 hn ha hac hq
      unfold ithR at hq
      refine U_71_5 (by omega) l i a c w n g H ?_
      refine ⟨fun c1 => ?_, fun c1 => ?_⟩
      · skip
        exfalso
        omega
      · skip
        refine ⟨?_, ?_⟩
        · first | exact hk | omega | (unfold xI; omega) | (exfalso; omega)
        refine ⟨?_, ?_⟩
        · first | exact hk | omega | (unfold xI; omega) | (exfalso; omega)
        refine ⟨?_, ?_⟩
        · first | exact hk | omega | (unfold xI; omega) | (exfalso; omega)
        refine ⟨fun c2 => ?_, fun c2 => ?_⟩
        · skip
          refine ⟨fun c3 => ?_, fun c3 => ?_⟩
          · skip
            refine ⟨?_, ?_⟩
            · first | exact hk | omega | (unfold xI; omega) | (exfalso; omega)
            refine ⟨?_, ?_⟩
            · first | exact hk | omega | (unfold xI; omega) | (exfalso; omega)
            rw [if_neg (by assumption), if_neg (by omega)] at hq
            exact ih (c + 1) (a + 1) (by omega) (by omega) (by omega) (by omega) hq
          · skip
            rw [if_neg (by assumption), if_pos (by omega)] at hq
            rw [← hq] at hQ
            exact hQ
        · skip
          refine ⟨?_, ?_⟩
          · first | exact hk | omega | (unfold xI; omega) | (exfalso; omega)
          rw [if_pos (by omega)] at hq
          exact ih (c + 1) a (by omega) (by omega) (by omega) (by omega) hq
  refine U_71 (by omega) l i w n g H ?_
  exact key n.toNat 0 0 (by omega) (by omega) (by omega) (by omega) hV

def vWhere (w n : Int) (g : Int → Int) (l i : Int) : Int := if (0 ≤ l ∧ l < g 1) ∧ -1 ≤ i then (if i = -1 then (cntN (alB w n g l) n.toNat 0 : Nat) else ithR (alB w n g l) i n.toNat 0 0) else -1

theorem U_72 {X : Int × (Int → Int)} {d : Nat} {Q : Int → XH → Prop} (hd : 6 ≤ d) (l i : Int) (w n : Int) (g : Int → Int) (H : XH) (h : ((((0 ≤ l ∧ l < H 7 1)) → (((-1) ≤ i) → (InvS H) ∧ (∀ (h31 : XH), (frC H h31 ∧ lkOk (H 67 0) (H 67 1) (H 68) (h31 40) (h31 41) (h31 42) (h31 39)) → ((¬ i = (-1)) → (lkA w n g h31) ∧ (0 ≤ l ∧ l < g 1) ∧ (Q (ithR (alB w n g l) i n.toNat 0 0) h31)) ∧ (¬ (¬ i = (-1)) → (lkA w n g h31) ∧ (0 ≤ l ∧ l < g 1) ∧ (((maskR (alB w n g l) n.toNat 0) < 18446744073709551616) ∧ (Q ((popB 64 (maskR (alB w n g l) n.toNat 0) : Nat) : Int) h31))))) ∧ (¬ ((-1) ≤ i) → Q (-1) H)) ∧ (¬ ((0 ≤ l ∧ l < H 7 1)) → Q (-1) H))) : xc X (d + 1) 72 [(2, 0), (0, l), (0, i)] H Q := by
  refine ⟨rfl, ?_⟩
  show xq X d 72 Q 100000 [(0, (2, 0)), (1, (0, l)), (2, (0, i))] [] H
  refine xq_run [11, 32, 45, 48, 60] 300 ?_
  show xWM (xE X) xMC d 49 [(2, 7), (0, l)] xKZ H _
  refine xc_in (s_49_o7 (by omega) l H  ?_)
  replace h := h
  show xq X d 72 Q 11 [(0, (2, 0)), (1, (0, l)), (2, (0, i))] [(0, xb (0 ≤ l ∧ l < H 7 1))] H
  refine xq_run [11, 32, 45, 48, 60] 300 ?_
  show ((xb (0 ≤ l ∧ l < H 7 1) = 0) → xfR 0 (-1) ∧ xKZ = xKZ ∧ Q (-1) H) ∧ (¬ (xb (0 ≤ l ∧ l < H 7 1) = 0) → (((-1) ≤ i) → xWM (xE X) xMC d 60 [(2, 39), (2, 1)] xKZ H _) ∧ (¬ ((-1) ≤ i) → xfR 0 (-1) ∧ xKZ = xKZ ∧ Q (-1) H))
  refine ⟨fun k_ => ?_, fun k_ => ?_⟩
  · replace h := h.2 (xbe_0.mp k_)
    exact ⟨trivial, rfl, h⟩
  · replace h := h.1 (xbe_1.mp k_)
    refine ⟨fun k_ => ?_, fun k_ => ?_⟩
    · replace h := h.1 k_
      refine xc_in (s_60 (by omega) H (h.1) ?_)
      intro h31 q_0
      replace h := h.2 h31 q_0
      show xq X d 72 Q 32 [(0, (2, 0)), (1, (0, l)), (2, (0, i))] [] h31
      refine xq_run [11, 32, 45, 48, 60] 300 ?_
      show ((¬ i = (-1)) → xWM (xE X) xMC d 71 [(2, 39), (0, l), (0, i)] xKZ h31 _) ∧ (¬ (¬ i = (-1)) → xWM (xE X) xMC d 69 [(2, 39), (0, l)] xKZ h31 _)
      refine ⟨fun k_ => ?_, fun k_ => ?_⟩
      · replace h := h.1 k_
        refine xc_in (s_71 (by omega) w n g l i h31 (h.1) (h.2.1) ?_)
        replace h := h.2.2
        show xq X d 72 Q 60 [(0, (2, 0)), (1, (0, l)), (2, (0, i))] [(0, ithR (alB w n g l) i n.toNat 0 0)] h31
        refine xq_run [11, 32, 45, 48, 60] 300 ?_
        show xfR 0 (ithR (alB w n g l) i n.toNat 0 0) ∧ xKZ = xKZ ∧ Q (ithR (alB w n g l) i n.toNat 0 0) h31
        exact ⟨trivial, rfl, h⟩
      · replace h := h.2 k_
        refine xc_in (s_69 (by omega) w n g l h31 (h.1) (h.2.1) ?_)
        replace h := h.2.2
        show xq X d 72 Q 45 [(0, (2, 0)), (1, (0, l)), (2, (0, i))] [(1, xJn (maskR (alB w n g l) n.toNat 0))] h31
        refine xq_run [11, 32, 45, 48, 60] 300 ?_
        show xWM (xE X) xMC d 70 [(1, xJn (maskR (alB w n g l) n.toNat 0))] xKZ h31 _
        refine xc_in (s_70 (by omega) (maskR (alB w n g l) n.toNat 0) h31 (h.1) ?_)
        replace h := h.2
        show xq X d 72 Q 48 [(0, (2, 0)), (1, (0, l)), (2, (0, i))] [(0, ((popB 64 (maskR (alB w n g l) n.toNat 0) : Nat) : Int))] h31
        refine xq_run [11, 32, 45, 48, 60] 300 ?_
        show xq X d 72 Q 60 [(0, (2, 0)), (1, (0, l)), (2, (0, i))] [(0, ((popB 64 (maskR (alB w n g l) n.toNat 0) : Nat) : Int))] h31
        show xq X d 72 Q 60 [(0, (2, 0)), (1, (0, l)), (2, (0, i))] [(0, ((popB 64 (maskR (alB w n g l) n.toNat 0) : Nat) : Int))] h31
        refine xq_run [11, 32, 45, 48, 60] 300 ?_
        show xfR 0 ((popB 64 (maskR (alB w n g l) n.toNat 0) : Nat) : Int) ∧ xKZ = xKZ ∧ Q ((popB 64 (maskR (alB w n g l) n.toNat 0) : Nat) : Int) h31
        exact ⟨trivial, rfl, h⟩
    · replace h := h.2 k_
      exact ⟨trivial, rfl, h⟩

theorem s_72 {X : Int × (Int → Int)} {d : Nat} {Q : Int → XH → Prop} (hd : 8 ≤ d) (l i : Int) (H : XH) (hi : InvS H) (hQ : ∀ h1 : XH, frC H h1 → Q (vWhere (H 67 0) (H 67 1) (H 68) l i) h1) : xc X d 72 [(2, 0), (0, l), (0, i)] H Q := by
  cases d with
  | zero => omega
  | succ d =>
  have hg := hi.1
  have hs := hi.2
  have nn := hg.nn
  have ww := hg.ww
  have l2 := hs.l2
  have hc := hs.c
  have lyb := hg.lyb
  have bnd := hg.bnd
  unfold vWhere at hQ
  refine U_72 (by omega) l i (H 67 0) (H 67 1) (H 68) H ?_
  refine ⟨fun c1 => ?_, fun c1 => ?_⟩
  · skip
    refine ⟨fun c2 => ?_, fun c2 => ?_⟩
    · skip
      refine ⟨?_, ?_⟩
      · first | omega | exact hi | exact hg | exact lk | (unfold xI; omega) | exact maskR_64 _ _ _ (by omega)
      intro h32 c3
      have lk : lkA (H 67 0) (H 67 1) (H 68) h32 := And.intro hg c3.2
      have fr := c3.1
      refine ⟨fun c4 => ?_, fun c4 => ?_⟩
      · skip
        refine ⟨?_, ?_⟩
        · first | omega | exact hi | exact hg | exact lk | (unfold xI; omega) | exact maskR_64 _ _ _ (by omega)
        refine ⟨?_, ?_⟩
        · first | omega | exact hi | exact hg | exact lk | (unfold xI; omega) | exact maskR_64 _ _ _ (by omega)
        have k := hQ _ fr
        rw [if_pos (by omega), if_neg (by omega)] at k
        exact k
      · skip
        refine ⟨?_, ?_⟩
        · first | omega | exact hi | exact hg | exact lk | (unfold xI; omega) | exact maskR_64 _ _ _ (by omega)
        refine ⟨?_, ?_⟩
        · first | omega | exact hi | exact hg | exact lk | (unfold xI; omega) | exact maskR_64 _ _ _ (by omega)
        refine ⟨?_, ?_⟩
        · first | omega | exact hi | exact hg | exact lk | (unfold xI; omega) | exact maskR_64 _ _ _ (by omega)
        have k := hQ _ fr
        rw [if_pos (by omega), if_pos (by omega), ← pop_mask _ 64 _ _ (by omega)] at k
        exact k
    · skip
      have k := hQ _ (frC_refl H)
      rw [if_neg (by omega)] at k
      exact k
  · skip
    have k := hQ _ (frC_refl H)
    rw [if_neg (by omega)] at k
    exact k

theorem U_74 {X : Int × (Int → Int)} {d : Nat} {Q : Int → XH → Prop} (hd : 2 ≤ d) (l i : Int) (H : XH) (h : (0 ≤ H 68 1 ∧ H 68 1 ≤ 8) ∧ ((((0 ≤ l ∧ l < H 68 1)) → (((-1) ≤ i) → xq X d 74 Q 20 [(0, (2, 67)), (1, (0, l)), (2, (0, i)), (3, (0, 0)), (4, (0, 0))] [] H) ∧ (¬ ((-1) ≤ i) → Q (-1) H)) ∧ (¬ ((0 ≤ l ∧ l < H 68 1)) → Q (-1) H))) : xc X (d + 1) 74 [(2, 67), (0, l), (0, i)] H Q := by
  refine ⟨rfl, ?_⟩
  show xq X d 74 Q 100000 [(0, (2, 67)), (1, (0, l)), (2, (0, i))] [] H
  refine xq_run [5, 20, 36] 300 ?_
  show xWM (xE X) xMC d 63 [(2, 67), (0, l)] xKZ H _
  refine xc_in (s_63 (by omega) l H (h.1) ?_)
  replace h := h.2
  show xq X d 74 Q 5 [(0, (2, 67)), (1, (0, l)), (2, (0, i))] [(0, xb (0 ≤ l ∧ l < H 68 1))] H
  refine xq_run [5, 20, 36] 300 ?_
  show ((xb (0 ≤ l ∧ l < H 68 1) = 0) → xfR 0 (-1) ∧ xKZ = xKZ ∧ Q (-1) H) ∧ (¬ (xb (0 ≤ l ∧ l < H 68 1) = 0) → (((-1) ≤ i) → xq X d 74 Q 20 [(0, (2, 67)), (1, (0, l)), (2, (0, i)), (3, (0, 0)), (4, (0, 0))] [] H) ∧ (¬ ((-1) ≤ i) → xfR 0 (-1) ∧ xKZ = xKZ ∧ Q (-1) H))
  refine ⟨fun k_ => ?_, fun k_ => ?_⟩
  · replace h := h.2 (xbe_0.mp k_)
    exact ⟨trivial, rfl, h⟩
  · replace h := h.1 (xbe_1.mp k_)
    refine ⟨fun k_ => ?_, fun k_ => ?_⟩
    · replace h := h.1 k_
      exact h
    · replace h := h.2 k_
      exact ⟨trivial, rfl, h⟩
theorem U_74_20 {X : Int × (Int → Int)} {d : Nat} {Q : Int → XH → Prop} (hd : 6 ≤ d) (v1 v2 v3 v4 : Int) (H : XH) (h : ((H 67 1 ≤ v4) → ((¬ v2 = (-1)) → Q (-1) H) ∧ (¬ (¬ v2 = (-1)) → Q v3 H)) ∧ (¬ (H 67 1 ≤ v4) → (GOk (H 67 0) (H 67 1) (H 68)) ∧ (0 ≤ v1 ∧ v1 < H 68 1) ∧ (0 ≤ v4 ∧ v4 < H 67 1) ∧ (∀ (h33 : XH), (frM H h33) → ((alB (H 67 0) (H 67 1) (H 68) v1 v4 = 0) → (xI (v4 + 1)) ∧ xq X d 74 Q 20 [(0, (2, 67)), (1, (0, v1)), (2, (0, v2)), (3, (0, v3)), (4, (0, v4 + 1))] [] h33) ∧ (¬ (alB (H 67 0) (H 67 1) (H 68) v1 v4 = 0) → ((¬ v3 = v2) → (xI (v3 + 1)) ∧ (xI (v4 + 1)) ∧ xq X d 74 Q 20 [(0, (2, 67)), (1, (0, v1)), (2, (0, v2)), (3, (0, v3 + 1)), (4, (0, v4 + 1))] [] h33) ∧ (¬ (¬ v3 = v2) → Q v4 h33))))) : xq X d 74 Q 20 [(0, (2, 67)), (1, (0, v1)), (2, (0, v2)), (3, (0, v3)), (4, (0, v4))] [] H := by
  show xq X d 74 Q 20 [(0, (2, 67)), (1, (0, v1)), (2, (0, v2)), (3, (0, v3)), (4, (0, v4))] [] H
  refine xq_run [5, 20, 36] 300 ?_
  show ((H 67 1 ≤ v4) → ((¬ v2 = (-1)) → xfR 0 (-1) ∧ xKZ = xKZ ∧ Q (-1) H) ∧ (¬ (¬ v2 = (-1)) → xfR 0 v3 ∧ xKZ = xKZ ∧ Q v3 H)) ∧ (¬ (H 67 1 ≤ v4) → xWM (xE X) xMC d 73 [(2, 67), (0, v1), (0, v4)] xKZ H _)
  refine ⟨fun k_ => ?_, fun k_ => ?_⟩
  · replace h := h.1 k_
    refine ⟨fun k_ => ?_, fun k_ => ?_⟩
    · replace h := h.1 k_
      exact ⟨trivial, rfl, h⟩
    · replace h := h.2 k_
      exact ⟨trivial, rfl, h⟩
  · replace h := h.2 k_
    refine xc_in (s_73 (by omega) v1 v4 H (h.1) (h.2.1) (h.2.2.1) ?_)
    intro h33 q_0
    replace h := h.2.2.2 h33 q_0
    show xq X d 74 Q 36 [(0, (2, 67)), (1, (0, v1)), (2, (0, v2)), (3, (0, v3)), (4, (0, v4))] [(0, alB (H 67 0) (H 67 1) (H 68) v1 v4)] h33
    refine xq_run [5, 20, 36] 300 ?_
    show ((alB (H 67 0) (H 67 1) (H 68) v1 v4 = 0) → (xI (v4 + 1)) ∧ xq X d 74 Q 20 [(0, (2, 67)), (1, (0, v1)), (2, (0, v2)), (3, (0, v3)), (4, (0, v4 + 1))] [] h33) ∧ (¬ (alB (H 67 0) (H 67 1) (H 68) v1 v4 = 0) → ((¬ v3 = v2) → (xI (v3 + 1)) ∧ (xI (v4 + 1)) ∧ xq X d 74 Q 20 [(0, (2, 67)), (1, (0, v1)), (2, (0, v2)), (3, (0, v3 + 1)), (4, (0, v4 + 1))] [] h33) ∧ (¬ (¬ v3 = v2) → xfR 0 v4 ∧ xKZ = xKZ ∧ Q v4 h33))
    refine ⟨fun k_ => ?_, fun k_ => ?_⟩
    · replace h := h.1 k_
      refine ⟨h.1, ?_⟩
      replace h := h.2
      exact h
    · replace h := h.2 k_
      refine ⟨fun k_ => ?_, fun k_ => ?_⟩
      · replace h := h.1 k_
        refine ⟨h.1, ?_⟩
        replace h := h.2
        refine ⟨h.1, ?_⟩
        replace h := h.2
        exact h
      · replace h := h.2 k_
        exact ⟨trivial, rfl, h⟩

theorem s_74 {X : Int × (Int → Int)} {d : Nat} {Q : Int → XH → Prop} (hd : 8 ≤ d) (l i : Int) (H : XH) (hg : GOk (H 67 0) (H 67 1) (H 68)) (hQ : ∀ h1 : XH, frM H h1 → Q (vWhere (H 67 0) (H 67 1) (H 68) l i) h1) : xc X d 74 [(2, 67), (0, l), (0, i)] H Q := by
  cases d with
  | zero => omega
  | succ d =>
  have nn := hg.nn
  have ww := hg.ww
  have lyb := hg.lyb
  have bnd := hg.bnd
  unfold vWhere at hQ
  have no : ¬ ((0 ≤ l ∧ l < H 68 1) ∧ -1 ≤ i) → Q (-1) H := fun q => by
    have k := hQ _ (frM_refl H)
    rw [if_neg q] at k
    exact k
  obtain ⟨V, hV⟩ : ∃ V, ithR (alB (H 67 0) (H 67 1) (H 68) l) i (H 67 1).toNat 0 0 = V := ⟨_, rfl⟩
  obtain ⟨N, hN⟩ : ∃ N, cntN (alB (H 67 0) (H 67 1) (H 68) l) (H 67 1).toNat 0 = N := ⟨_, rfl⟩
  have key : (0 ≤ l ∧ l < H 68 1) → -1 ≤ i → ∀ (k : Nat) (c a : Int) (h : XH), frM H h → 0 ≤ c → c + k = H 67 1 → 0 ≤ a → a ≤ c → (¬ i = -1 → ithR (alB (H 67 0) (H 67 1) (H 68) l) i k c a = V) → a + cntN (alB (H 67 0) (H 67 1) (H 68) l) k c = N → xq X d 74 Q 20 [(0, (2, 67)), (1, (0, l)), (2, (0, i)), (3, (0, a)), (4, (0, c))] [] h := by
    intro pl pi k
    rw [if_pos ⟨pl, pi⟩, hN, hV] at hQ
    induction k with
    | zero =>
      intro c a h f h0 hn ha hac hq hp
      have a0 := f.2 0 (by decide)
      have a1 := f.2 1 (by decide)
      have a8 := frM_o f 68 (by decide) (by decide)
      unfold ithR at hq
      unfold cntN at hp
      have k := hQ _ f
      refine U_74_20 (by omega) l i a c h ?_
      rw [a0, a1, a8]
      refine ⟨fun e1 => ?_, fun e1 => ?_⟩
      · skip
        refine ⟨fun e2 => ?_, fun e2 => ?_⟩
        · skip
          rw [if_neg (by omega), ← hq (by omega)] at k
          exact k
        · skip
          rw [if_pos (by omega), ← hp] at k
          rw [Int.natCast_zero, Int.add_zero] at k
          exact k
      · skip
        refine ⟨?_, ?_⟩
        · first | omega | exact hg | exact pl | (unfold xI; omega) | (exfalso; omega)
        refine ⟨?_, ?_⟩
        · first | omega | exact hg | exact pl | (unfold xI; omega) | (exfalso; omega)
        refine ⟨?_, ?_⟩
        · first | omega | exact hg | exact pl | (unfold xI; omega) | (exfalso; omega)
        intro h34 e3
        refine ⟨fun e4 => ?_, fun e4 => ?_⟩
        · skip
          refine ⟨?_, ?_⟩
          · first | omega | exact hg | exact pl | (unfold xI; omega) | (exfalso; omega)
          exfalso
          omega
        · skip
          refine ⟨fun e5 => ?_, fun e5 => ?_⟩
          · skip
            refine ⟨?_, ?_⟩
            · first | omega | exact hg | exact pl | (unfold xI; omega) | (exfalso; omega)
            refine ⟨?_, ?_⟩
            · first | omega | exact hg | exact pl | (unfold xI; omega) | (exfalso; omega)
            exfalso
            omega
          · skip
            exfalso
            omega
    | succ k ih =>
      intro c a h f h0 hn ha hac hq hp
      have a0 := f.2 0 (by decide)
      have a1 := f.2 1 (by decide)
      have a8 := frM_o f 68 (by decide) (by decide)
      unfold ithR at hq
      unfold cntN at hp
      refine U_74_20 (by omega) l i a c h ?_
      rw [a0, a1, a8]
      refine ⟨fun e1 => ?_, fun e1 => ?_⟩
      · skip
        refine ⟨fun e2 => ?_, fun e2 => ?_⟩
        · skip
          exfalso
          omega
        · skip
          exfalso
          omega
      · skip
        refine ⟨?_, ?_⟩
        · first | omega | exact hg | exact pl | (unfold xI; omega) | (exfalso; omega)
        refine ⟨?_, ?_⟩
        · first | omega | exact hg | exact pl | (unfold xI; omega) | (exfalso; omega)
        refine ⟨?_, ?_⟩
        · first | omega | exact hg | exact pl | (unfold xI; omega) | (exfalso; omega)
        intro h35 e3
        have ff := e3
        refine ⟨fun e4 => ?_, fun e4 => ?_⟩
        · skip
          refine ⟨?_, ?_⟩
          · first | omega | exact hg | exact pl | (unfold xI; omega) | (exfalso; omega)
          rw [if_pos (by assumption)] at hp
          refine ih (c + 1) a _ (frM_trans f ff) (by omega) (by omega) (by omega) (by omega) (fun z => ?_) (by omega)
          have := hq z
          rw [if_pos (by assumption)] at this
          exact this
        · skip
          refine ⟨fun e5 => ?_, fun e5 => ?_⟩
          · skip
            refine ⟨?_, ?_⟩
            · first | omega | exact hg | exact pl | (unfold xI; omega) | (exfalso; omega)
            refine ⟨?_, ?_⟩
            · first | omega | exact hg | exact pl | (unfold xI; omega) | (exfalso; omega)
            rw [if_neg (by assumption)] at hp
            refine ih (c + 1) (a + 1) _ (frM_trans f ff) (by omega) (by omega) (by omega) (by omega) (fun z => ?_) (by omega)
            have := hq z
            rw [if_neg (by assumption), if_neg (by omega)] at this
            exact this
          · skip
            have k := hQ _ (frM_trans f ff)
            rw [if_neg (by omega), ← hq (by omega), if_neg (by assumption), if_pos (by omega)] at k
            exact k
  refine U_74 (by omega) l i H ?_
  refine ⟨?_, ?_⟩
  · first | omega | exact hg
  refine ⟨fun c1 => ?_, fun c1 => ?_⟩
  · skip
    refine ⟨fun c2 => ?_, fun c2 => ?_⟩
    · skip
      exact key (by omega) (by omega) (H 67 1).toNat 0 0 H (frM_refl H) (by omega) (by omega) (by omega) (by omega) (fun _ => hV) (by rw [Int.zero_add, hN])
    · skip
      exact no (by omega)
  · skip
    exact no (by omega)

theorem p_where {X : Int × (Int → Int)} {d : Nat} (hd : 8 ≤ d) (l i : Int) (H : XH) (hi : InvS H) : xc X d 72 [(2, 0), (0, l), (0, i)] H (fun r H1 => xc X d 74 [(2, 67), (0, l), (0, i)] H1 (qOk H r)) :=
  s_72 (by omega) l i H hi (fun h1 f => s_74 (by omega) l i h1 (frC_S f hi).1 (fun h2 f' => ⟨by rw [f 67 (by decide) (by decide), f 68 (by decide) (by decide)], frQ_CM f f'⟩))
