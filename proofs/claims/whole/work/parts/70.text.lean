/-! THE PURE LAYER 40: the texts of names and signs; letters, digits -/
def nmA (i : Int) : Int := (xSL.getD 0 []).getD i.toNat 0
def sgA (i : Int) : Int := (xSL.getD 1 []).getD i.toNat 0
theorem nm_ch : ∀ i : Nat, i < 87 → xi2c (xand ((xSL.getD 0 []).getD i 0) 255) = (xSL.getD 0 []).getD i 0 ∧ 0 ≤ (xSL.getD 0 []).getD i 0 ∧ (xSL.getD 0 []).getD i 0 ≤ 127 := by decide +kernel
theorem nmA_ch {i : Int} (h : 0 ≤ i ∧ i < 87) : xi2c (xand (nmA i) 255) = nmA i ∧ 0 ≤ nmA i ∧ nmA i ≤ 127 := nm_ch i.toNat (by omega)

theorem U_145 {X : Int × (Int → Int)} {d : Nat} {Q : Int → XH → Prop} (hd : 0 ≤ d) (i n : Int) (H : XH) (h : ((i < 0) → False) ∧ (¬ (i < 0) → ((i < n) → Q i H) ∧ (¬ (i < n) → False))) : xc X (d + 1) 145 [(0, i), (0, n), (7, 0)] H Q := by
  refine ⟨rfl, ?_⟩
  show xq X d 145 Q 100000 [(0, (0, i)), (1, (0, n)), (2, (7, 0))] [] H
  refine xq_run [] 300 ?_
  show ((i < 0) → False) ∧ (¬ (i < 0) → ((i < n) → xfR 0 i ∧ xKZ = xKZ ∧ Q i H) ∧ (¬ (i < n) → False))
  refine ⟨fun k_ => ?_, fun k_ => ?_⟩
  · replace h := h.1 k_
    exact h
  · replace h := h.2 k_
    refine ⟨fun k_ => ?_, fun k_ => ?_⟩
    · replace h := h.1 k_
      exact ⟨trivial, rfl, h⟩
    · replace h := h.2 k_
      exact h

theorem s_145 {X : Int × (Int → Int)} {d : Nat} {Q : Int → XH → Prop} (hd : 1 ≤ d) (i n : Int) (H : XH) (p : 0 ≤ i ∧ i < n) (hQ : Q i H) : xc X d 145 [(0, i), (0, n), (7, 0)] H Q := by
  cases d with
  | zero => omega
  | succ d =>
  refine U_145 (by omega) i n H ?_
  refine ⟨fun c1 => ?_, fun c1 => ?_⟩
  · skip
    omega
  · skip
    refine ⟨fun c2 => ?_, fun c2 => ?_⟩
    · skip
      exact hQ
    · skip
      omega

theorem U_146 {X : Int × (Int → Int)} {d : Nat} {Q : Int → XH → Prop} (hd : 1 ≤ d) (i n : Int) (H : XH) (h : (0 ≤ i ∧ i < n) ∧ (Q 0 H)) : xc X (d + 1) 146 [(0, i), (0, n)] H Q := by
  refine ⟨rfl, ?_⟩
  show xq X d 146 Q 100000 [(0, (0, i)), (1, (0, n))] [] H
  refine xq_run [8] 300 ?_
  show xWM (xE X) xMC d 145 [(0, i), (0, n), (7, 0)] xKZ H _
  refine xc_in (s_145 (by omega) i n H (h.1) ?_)
  replace h := h.2
  show xq X d 146 Q 8 [(0, (0, i)), (1, (0, n))] [(0, i)] H
  refine xq_run [8] 300 ?_
  show xfR 2 0 ∧ xKZ = xKZ ∧ Q 0 H
  exact ⟨trivial, rfl, h⟩

theorem s_146 {X : Int × (Int → Int)} {d : Nat} {Q : Int → XH → Prop} (hd : 2 ≤ d) (i n : Int) (H : XH) (p : 0 ≤ i ∧ i < n) (hQ : Q 0 H) : xc X d 146 [(0, i), (0, n)] H Q := by
  cases d with
  | zero => omega
  | succ d =>
  refine U_146 (by omega) i n H ?_
  refine ⟨?_, ?_⟩
  · omega
  exact hQ

theorem U_142_0 {X : Int × (Int → Int)} {d : Nat} {Q : Int → XH → Prop} (hd : 0 ≤ d) (H : XH) (h : Q 0 H) : xc X (d + 1) 142 [(3, 0)] H Q := by
  refine ⟨rfl, ?_⟩
  show xq X d 142 Q 100000 [(0, (3, 0))] [] H
  refine xq_run [] 300 ?_
  show ((1 = 0) → _) ∧ (¬ (1 = 0) → xfR 4 0 ∧ xKZ = xKZ ∧ Q 0 H)
  refine ⟨fun k_ => absurd k_ (by decide), fun k_ => ?_⟩
  exact ⟨xfR4_0, rfl, h⟩

theorem U_144_0 {X : Int × (Int → Int)} {d : Nat} {Q : Int → XH → Prop} (hd : 0 ≤ d) (H : XH) (h : Q 1 H) : xc X (d + 1) 144 [(3, 0)] H Q := by
  refine ⟨rfl, ?_⟩
  show xq X d 144 Q 100000 [(0, (3, 0))] [] H
  refine xq_run [] 300 ?_
  show ((1 = 0) → _) ∧ (¬ (1 = 0) → ((¬ 0 = 0) → _) ∧ (¬ (¬ 0 = 0) → xfR 3 1 ∧ xKZ = xKZ ∧ Q 1 H))
  refine ⟨fun k_ => absurd k_ (by decide), fun k_ => ?_⟩
  refine ⟨fun k_ => absurd k_ (by decide), fun k_ => ?_⟩
  exact ⟨xfR3_1, rfl, h⟩

theorem s_142_0 {X : Int × (Int → Int)} {d : Nat} {Q : Int → XH → Prop} (hd : 1 ≤ d) (H : XH) (hQ : Q 0 H) : xc X d 142 [(3, 0)] H Q := by
  cases d with
  | zero => omega
  | succ d =>
  exact U_142_0 (by omega) H hQ

theorem s_144_0 {X : Int × (Int → Int)} {d : Nat} {Q : Int → XH → Prop} (hd : 1 ≤ d) (H : XH) (hQ : Q 1 H) : xc X d 144 [(3, 0)] H Q := by
  cases d with
  | zero => omega
  | succ d =>
  exact U_144_0 (by omega) H hQ

theorem U_142_1 {X : Int × (Int → Int)} {d : Nat} {Q : Int → XH → Prop} (hd : 0 ≤ d) (H : XH) (h : Q 0 H) : xc X (d + 1) 142 [(3, 1)] H Q := by
  refine ⟨rfl, ?_⟩
  show xq X d 142 Q 100000 [(0, (3, 1))] [] H
  refine xq_run [] 300 ?_
  show ((1 = 0) → _) ∧ (¬ (1 = 0) → xfR 4 0 ∧ xKZ = xKZ ∧ Q 0 H)
  refine ⟨fun k_ => absurd k_ (by decide), fun k_ => ?_⟩
  exact ⟨xfR4_0, rfl, h⟩

theorem U_144_1 {X : Int × (Int → Int)} {d : Nat} {Q : Int → XH → Prop} (hd : 0 ≤ d) (H : XH) (h : Q 1 H) : xc X (d + 1) 144 [(3, 1)] H Q := by
  refine ⟨rfl, ?_⟩
  show xq X d 144 Q 100000 [(0, (3, 1))] [] H
  refine xq_run [] 300 ?_
  show ((1 = 0) → _) ∧ (¬ (1 = 0) → ((¬ 0 = 0) → _) ∧ (¬ (¬ 0 = 0) → xfR 3 1 ∧ xKZ = xKZ ∧ Q 1 H))
  refine ⟨fun k_ => absurd k_ (by decide), fun k_ => ?_⟩
  refine ⟨fun k_ => absurd k_ (by decide), fun k_ => ?_⟩
  exact ⟨xfR3_1, rfl, h⟩

theorem s_142_1 {X : Int × (Int → Int)} {d : Nat} {Q : Int → XH → Prop} (hd : 1 ≤ d) (H : XH) (hQ : Q 0 H) : xc X d 142 [(3, 1)] H Q := by
  cases d with
  | zero => omega
  | succ d =>
  exact U_142_1 (by omega) H hQ

theorem s_144_1 {X : Int × (Int → Int)} {d : Nat} {Q : Int → XH → Prop} (hd : 1 ≤ d) (H : XH) (hQ : Q 1 H) : xc X d 144 [(3, 1)] H Q := by
  cases d with
  | zero => omega
  | succ d =>
  exact U_144_1 (by omega) H hQ

theorem U_143_0 {X : Int × (Int → Int)} {d : Nat} {Q : Int → XH → Prop} (hd : 1 ≤ d) (H : XH) (h : (Q (xshr 87 0) H)) : xc X (d + 1) 143 [(3, 0)] H Q := by
  refine ⟨rfl, ?_⟩
  show xq X d 143 Q 100000 [(0, (3, 0))] [] H
  refine xq_run [9] 300 ?_
  show xWM (xE X) xMC d 142 [(3, 0)] xKZ H _
  refine xc_in (s_142_0 (by omega) H  ?_)
  replace h := h
  show xq X d 143 Q 9 [(0, (3, 0))] [(0, 0), (0, 87)] H
  refine xq_run [9] 300 ?_
  show xfR 0 (xshr 87 0) ∧ xKZ = xKZ ∧ Q (xshr 87 0) H
  exact ⟨trivial, rfl, h⟩

theorem s_143_0 {X : Int × (Int → Int)} {d : Nat} {Q : Int → XH → Prop} (hd : 2 ≤ d) (H : XH) (hQ : Q 87 H) : xc X d 143 [(3, 0)] H Q := by
  cases d with
  | zero => omega
  | succ d =>
  have e : xshr 87 0 = 87 := by decide
  refine U_143_0 (by omega) H ?_
  rw [e]
  exact hQ

theorem U_143_1 {X : Int × (Int → Int)} {d : Nat} {Q : Int → XH → Prop} (hd : 1 ≤ d) (H : XH) (h : (Q (xshr 11 0) H)) : xc X (d + 1) 143 [(3, 1)] H Q := by
  refine ⟨rfl, ?_⟩
  show xq X d 143 Q 100000 [(0, (3, 1))] [] H
  refine xq_run [9] 300 ?_
  show xWM (xE X) xMC d 142 [(3, 1)] xKZ H _
  refine xc_in (s_142_1 (by omega) H  ?_)
  replace h := h
  show xq X d 143 Q 9 [(0, (3, 1))] [(0, 0), (0, 11)] H
  refine xq_run [9] 300 ?_
  show xfR 0 (xshr 11 0) ∧ xKZ = xKZ ∧ Q (xshr 11 0) H
  exact ⟨trivial, rfl, h⟩

theorem s_143_1 {X : Int × (Int → Int)} {d : Nat} {Q : Int → XH → Prop} (hd : 2 ≤ d) (H : XH) (hQ : Q 11 H) : xc X d 143 [(3, 1)] H Q := by
  cases d with
  | zero => omega
  | succ d =>
  have e : xshr 11 0 = 11 := by decide
  refine U_143_1 (by omega) H ?_
  rw [e]
  exact hQ

theorem U_147 {X : Int × (Int → Int)} {d : Nat} {Q : Int → XH → Prop} (hd : 2 ≤ d) (i : Int) (H : XH) (h : (0 ≤ i ∧ i < 87) ∧ (((0 : Int) ≤ i ∧ (i : Int) < 87) ∧ (0 ≤ xi2c (xand ((xSL.getD 0 []).getD (Int.toNat i) 0) 255) ∧ xi2c (xand ((xSL.getD 0 []).getD (Int.toNat i) 0) 255) ≤ 65535) ∧ Q (xi2c (xand ((xSL.getD 0 []).getD (Int.toNat i) 0) 255)) H)) : xc X (d + 1) 147 [(5, 0), (0, i)] H Q := by
  refine ⟨rfl, ?_⟩
  show xq X d 147 Q 100000 [(0, (5, 0)), (1, (0, i))] [] H
  refine xq_run [6] 300 ?_
  show xWM (xE X) xMC d 146 [(0, i), (0, 87)] xKZ H _
  refine xc_in (s_146 (by omega) i 87 H (h.1) ?_)
  replace h := h.2
  show xq X d 147 Q 6 [(0, (5, 0)), (1, (0, i))] [] H
  refine xq_run [6] 300 ?_
  show ((0 : Int) ≤ i ∧ (i : Int) < 87) ∧ xfR 5 (xi2c (xand ((xSL.getD 0 []).getD (Int.toNat i) 0) 255)) ∧ xKZ = xKZ ∧ Q (xi2c (xand ((xSL.getD 0 []).getD (Int.toNat i) 0) 255)) H
  refine ⟨h.1, ?_⟩
  replace h := h.2
  exact ⟨h.1, rfl, h.2⟩

theorem s_147 {X : Int × (Int → Int)} {d : Nat} {Q : Int → XH → Prop} (hd : 3 ≤ d) (i : Int) (H : XH) (p : 0 ≤ i ∧ i < 87) (hQ : Q (nmA i) H) : xc X d 147 [(5, 0), (0, i)] H Q := by
  cases d with
  | zero => omega
  | succ d =>
  have e := nmA_ch p
  have e2 : xi2c (xand ((xSL.getD 0 []).getD (Int.toNat i) 0) 255) = nmA i := e.1
  refine U_147 (by omega) i H ?_
  refine ⟨?_, ?_⟩
  · first | omega | (rw [e2]; omega)
  refine ⟨?_, ?_⟩
  · first | omega | (rw [e2]; omega)
  refine ⟨?_, ?_⟩
  · first | omega | (rw [e2]; omega)
  rw [e2]
  exact hQ

theorem U_148 {X : Int × (Int → Int)} {d : Nat} {Q : Int → XH → Prop} (hd : 3 ≤ d) (i : Int) (H : XH) (h : ((0 ≤ i ∧ i < 87) ∧ ((0 ≤ nmA i ∧ nmA i ≤ 65535) ∧ Q (nmA i) H))) : xc X (d + 1) 148 [(3, 0), (0, i)] H Q := by
  refine ⟨rfl, ?_⟩
  show xq X d 148 Q 100000 [(0, (3, 0)), (1, (0, i))] [] H
  refine xq_run [4, 15] 300 ?_
  show xWM (xE X) xMC d 144 [(3, 0)] xKZ H _
  refine xc_in (s_144_0 (by omega) H  ?_)
  replace h := h
  show xq X d 148 Q 4 [(0, (3, 0)), (1, (0, i))] [(0, 1)] H
  refine xq_run [4, 15] 300 ?_
  show ((1 = 0) → _) ∧ (¬ (1 = 0) → xWM (xE X) xMC d 147 [(5, 0), (0, i)] xKZ H _)
  refine ⟨fun k_ => absurd k_ (by decide), fun k_ => ?_⟩
  refine xc_in (s_147 (by omega) i H (h.1) ?_)
  replace h := h.2
  show xq X d 148 Q 15 [(0, (3, 0)), (1, (0, i))] [(0, nmA i)] H
  refine xq_run [4, 15] 300 ?_
  show xfR 5 (nmA i) ∧ xKZ = xKZ ∧ Q (nmA i) H
  exact ⟨h.1, rfl, h.2⟩

theorem s_148 {X : Int × (Int → Int)} {d : Nat} {Q : Int → XH → Prop} (hd : 4 ≤ d) (i : Int) (H : XH) (p : 0 ≤ i ∧ i < 87) (hQ : Q (nmA i) H) : xc X d 148 [(3, 0), (0, i)] H Q := by
  cases d with
  | zero => omega
  | succ d =>
  have e := nmA_ch p
  refine U_148 (by omega) i H ?_
  refine ⟨?_, ?_⟩
  · omega
  refine ⟨?_, ?_⟩
  · omega
  exact hQ

theorem U_152 {X : Int × (Int → Int)} {d : Nat} {Q : Int → XH → Prop} (hd : 0 ≤ d) (c : Int) (H : XH) (h : ((c < 0) → Q 0 H) ∧ (¬ (c < 0) → ((255 < c) → Q 0 H) ∧ (¬ (255 < c) → Q 1 H))) : xc X (d + 1) 152 [(0, c)] H Q := by
  refine ⟨rfl, ?_⟩
  show xq X d 152 Q 100000 [(0, (0, c))] [] H
  refine xq_run [] 300 ?_
  show ((c < 0) → xfR 3 0 ∧ xKZ = xKZ ∧ Q 0 H) ∧ (¬ (c < 0) → ((255 < c) → xfR 3 0 ∧ xKZ = xKZ ∧ Q 0 H) ∧ (¬ (255 < c) → xfR 3 1 ∧ xKZ = xKZ ∧ Q 1 H))
  refine ⟨fun k_ => ?_, fun k_ => ?_⟩
  · replace h := h.1 k_
    exact ⟨xfR3_0, rfl, h⟩
  · replace h := h.2 k_
    refine ⟨fun k_ => ?_, fun k_ => ?_⟩
    · replace h := h.1 k_
      exact ⟨xfR3_0, rfl, h⟩
    · replace h := h.2 k_
      exact ⟨xfR3_1, rfl, h⟩

theorem s_152 {X : Int × (Int → Int)} {d : Nat} {Q : Int → XH → Prop} (hd : 1 ≤ d) (c : Int) (H : XH) (hQ : Q (xb (0 ≤ c ∧ c ≤ 255)) H) : xc X d 152 [(0, c)] H Q := by
  cases d with
  | zero => omega
  | succ d =>
  refine U_152 (by omega) c H ?_
  refine ⟨fun c1 => ?_, fun c1 => ?_⟩
  · skip
    exact xQr hQ (by unfold xb; split <;> omega)
  · skip
    refine ⟨fun c2 => ?_, fun c2 => ?_⟩
    · skip
      exact xQr hQ (by unfold xb; split <;> omega)
    · skip
      exact xQr hQ (by unfold xb; split <;> omega)

/-- the place of a sign -/
def sgI (c : Int) : Int := if c = 60 then 0 else if c = 62 then 1 else if c = 61 then 2 else if c = 35 then 3 else if c = 43 then 4 else if c = 45 then 5 else if c = 42 then 6 else if c = 47 then 7 else if c = 40 then 8 else if c = 41 then 9 else if c = 59 then 10 else -1
theorem sgA_v : sgA 0 = 60 ∧ sgA 1 = 62 ∧ sgA 2 = 61 ∧ sgA 3 = 35 ∧ sgA 4 = 43 ∧ sgA 5 = 45 ∧ sgA 6 = 42 ∧ sgA 7 = 47 ∧ sgA 8 = 40 ∧ sgA 9 = 41 ∧ sgA 10 = 59 := by decide +kernel
theorem xi2b_c {c : Int} (h : 0 ≤ c ∧ c ≤ 255) : xi2b c = if c < 128 then c else c - 256 := by
  rw [xi2b_mod]
  unfold Int.bmod
  dsimp only
  rw [show ((256 : Nat) : Int) = 256 from rfl]
  split <;> split <;> omega
theorem sg_hit {c i : Int} (h : 0 ≤ c ∧ c ≤ 255) (hi : 0 ≤ i ∧ i < 11) (e : sgA i = xi2b c) : sgI c = i := by
  rw [xi2b_c h] at e
  obtain ⟨v0, v1, v2, v3, v4, v5, v6, v7, v8, v9, v10⟩ := sgA_v
  rcases (show i = 0 ∨ i = 1 ∨ i = 2 ∨ i = 3 ∨ i = 4 ∨ i = 5 ∨ i = 6 ∨ i = 7 ∨ i = 8 ∨ i = 9 ∨ i = 10 by omega) with q | q | q | q | q | q | q | q | q | q | q <;> subst q <;> unfold sgI
  · rw [v0] at e
    split at e
    · subst e
      rfl
    · omega
  · rw [v1] at e
    split at e
    · subst e
      rfl
    · omega
  · rw [v2] at e
    split at e
    · subst e
      rfl
    · omega
  · rw [v3] at e
    split at e
    · subst e
      rfl
    · omega
  · rw [v4] at e
    split at e
    · subst e
      rfl
    · omega
  · rw [v5] at e
    split at e
    · subst e
      rfl
    · omega
  · rw [v6] at e
    split at e
    · subst e
      rfl
    · omega
  · rw [v7] at e
    split at e
    · subst e
      rfl
    · omega
  · rw [v8] at e
    split at e
    · subst e
      rfl
    · omega
  · rw [v9] at e
    split at e
    · subst e
      rfl
    · omega
  · rw [v10] at e
    split at e
    · subst e
      rfl
    · omega
theorem sg_no {c : Int} (h : 0 ≤ c ∧ c ≤ 255) (hn : ∀ i, 0 ≤ i → i < 11 → ¬ sgA i = xi2b c) : sgI c = -1 := by
  rw [xi2b_c h] at hn
  obtain ⟨v0, v1, v2, v3, v4, v5, v6, v7, v8, v9, v10⟩ := sgA_v
  have n0 := hn 0 (by decide) (by decide)
  rw [v0] at n0
  have n1 := hn 1 (by decide) (by decide)
  rw [v1] at n1
  have n2 := hn 2 (by decide) (by decide)
  rw [v2] at n2
  have n3 := hn 3 (by decide) (by decide)
  rw [v3] at n3
  have n4 := hn 4 (by decide) (by decide)
  rw [v4] at n4
  have n5 := hn 5 (by decide) (by decide)
  rw [v5] at n5
  have n6 := hn 6 (by decide) (by decide)
  rw [v6] at n6
  have n7 := hn 7 (by decide) (by decide)
  rw [v7] at n7
  have n8 := hn 8 (by decide) (by decide)
  rw [v8] at n8
  have n9 := hn 9 (by decide) (by decide)
  rw [v9] at n9
  have n10 := hn 10 (by decide) (by decide)
  rw [v10] at n10
  unfold sgI
  by_cases q : c < 128
  · rw [if_pos q] at n0 n1 n2 n3 n4 n5 n6 n7 n8 n9 n10
    rw [if_neg (by omega), if_neg (by omega), if_neg (by omega), if_neg (by omega), if_neg (by omega), if_neg (by omega), if_neg (by omega), if_neg (by omega), if_neg (by omega), if_neg (by omega), if_neg (by omega)]
  · rw [if_neg (by omega), if_neg (by omega), if_neg (by omega), if_neg (by omega), if_neg (by omega), if_neg (by omega), if_neg (by omega), if_neg (by omega), if_neg (by omega), if_neg (by omega), if_neg (by omega)]

theorem U_153 {X : Int × (Int → Int)} {d : Nat} {Q : Int → XH → Prop} (hd : 0 ≤ d) (c : Int) (H : XH) (h : xq X d 153 Q 7 [(0, (5, 1)), (3, (0, 11)), (4, (0, xi2b c)), (5, (0, 0))] [] H) : xc X (d + 1) 153 [(5, 1), (0, c), (0, 0), (0, 11)] H Q := by
  refine ⟨rfl, ?_⟩
  show xq X d 153 Q 100000 [(0, (5, 1)), (1, (0, c)), (2, (0, 0)), (3, (0, 11))] [] H
  refine xq_run [7] 300 ?_
  show xq X d 153 Q 7 [(0, (5, 1)), (3, (0, 11)), (4, (0, xi2b c)), (5, (0, 0))] [] H
  exact h
theorem U_153_7 {X : Int × (Int → Int)} {d : Nat} {Q : Int → XH → Prop} (hd : 0 ≤ d) (v3 v4 v5 : Int) (H : XH) (h : ((v3 ≤ v5) → Q (-1) H) ∧ (¬ (v3 ≤ v5) → ((0 : Int) ≤ v5 ∧ (v5 : Int) < 11) ∧ ((¬ (xSL.getD 1 []).getD (Int.toNat v5) 0 = v4) → (xI (v5 + 1)) ∧ xq X d 153 Q 7 [(0, (5, 1)), (3, (0, v3)), (4, (0, v4)), (5, (0, v5 + 1))] [] H) ∧ (¬ (¬ (xSL.getD 1 []).getD (Int.toNat v5) 0 = v4) → Q v5 H))) : xq X d 153 Q 7 [(0, (5, 1)), (3, (0, v3)), (4, (0, v4)), (5, (0, v5))] [] H := by
  show xq X d 153 Q 7 [(0, (5, 1)), (3, (0, v3)), (4, (0, v4)), (5, (0, v5))] [] H
  refine xq_run [7] 300 ?_
  show ((v3 ≤ v5) → xfR 0 (-1) ∧ xKZ = xKZ ∧ Q (-1) H) ∧ (¬ (v3 ≤ v5) → ((0 : Int) ≤ v5 ∧ (v5 : Int) < 11) ∧ ((¬ (xSL.getD 1 []).getD (Int.toNat v5) 0 = v4) → (xI (v5 + 1)) ∧ xq X d 153 Q 7 [(0, (5, 1)), (3, (0, v3)), (4, (0, v4)), (5, (0, v5 + 1))] [] H) ∧ (¬ (¬ (xSL.getD 1 []).getD (Int.toNat v5) 0 = v4) → xfR 0 v5 ∧ xKZ = xKZ ∧ Q v5 H))
  refine ⟨fun k_ => ?_, fun k_ => ?_⟩
  · replace h := h.1 k_
    exact ⟨trivial, rfl, h⟩
  · replace h := h.2 k_
    refine ⟨h.1, ?_⟩
    replace h := h.2
    refine ⟨fun k_ => ?_, fun k_ => ?_⟩
    · replace h := h.1 k_
      refine ⟨h.1, ?_⟩
      replace h := h.2
      exact h
    · replace h := h.2 k_
      exact ⟨trivial, rfl, h⟩

theorem s_153 {X : Int × (Int → Int)} {d : Nat} {Q : Int → XH → Prop} (hd : 1 ≤ d) (c : Int) (H : XH) (p : 0 ≤ c ∧ c ≤ 255) (hQ : Q (sgI c) H) : xc X d 153 [(5, 1), (0, c), (0, 0), (0, 11)] H Q := by
  cases d with
  | zero => omega
  | succ d =>
  refine U_153 (by omega) c H ?_
  have key : ∀ (k : Nat) (i : Int), i + k = 11 → 0 ≤ i → (∀ j, 0 ≤ j → j < i → ¬ sgA j = xi2b c) → xq X d 153 Q 7 [(0, (5, 1)), (3, (0, 11)), (4, (0, xi2b c)), (5, (0, i))] [] H := by
    intro k
    induction k with
    | zero =>
      intro i hi i0 hn
      rw [sg_no p (fun j a b => hn j a (by omega))] at hQ
      refine U_153_7 (by omega) 11 (xi2b c) i H ?_
      refine ⟨fun c1 => ?_, fun c1 => ?_⟩
      · skip
        exact hQ
      · skip
        refine ⟨?_, ?_⟩
        · first | omega | (exfalso; omega)
        refine ⟨fun c2 => ?_, fun c2 => ?_⟩
        · skip
          refine ⟨?_, ?_⟩
          · first | omega | (exfalso; omega)
          exfalso
          omega
        · skip
          exfalso
          omega
    | succ k ih =>
      intro i hi i0 hn
      refine U_153_7 (by omega) 11 (xi2b c) i H ?_
      refine ⟨fun c1 => ?_, fun c1 => ?_⟩
      · skip
        exfalso
        omega
      · skip
        refine ⟨?_, ?_⟩
        · first | omega | (unfold xI; omega) | (exfalso; omega)
        refine ⟨fun c2 => ?_, fun c2 => ?_⟩
        · skip
          refine ⟨?_, ?_⟩
          · first | omega | (unfold xI; omega) | (exfalso; omega)
          exact ih (i + 1) (by omega) (by omega) (fun j a b => by
            by_cases q : j = i
            · rw [q]
              assumption
            · exact hn j a (by omega))
        · skip
          rw [sg_hit p ⟨i0, by omega⟩ (show sgA i = xi2b c from Decidable.byContradiction (fun z => absurd z (by assumption)))] at hQ
          exact hQ
  exact key 11 0 (by decide) (by decide) (fun j a b => by omega)

theorem U_154 {X : Int × (Int → Int)} {d : Nat} {Q : Int → XH → Prop} (hd : 1 ≤ d) (c : Int) (H : XH) (h : ((((0 ≤ c ∧ c ≤ 255)) → (((0 ≤ c ∧ c ≤ 255) ∧ (Q (sgI c) H)))) ∧ (¬ ((0 ≤ c ∧ c ≤ 255)) → Q (-1) H))) : xc X (d + 1) 154 [(5, 1), (0, c), (0, 0), (0, 11)] H Q := by
  refine ⟨rfl, ?_⟩
  show xq X d 154 Q 100000 [(0, (5, 1)), (1, (0, c)), (2, (0, 0)), (3, (0, 11))] [] H
  refine xq_run [4, 14, 21, 36] 300 ?_
  show xWM (xE X) xMC d 152 [(0, c)] xKZ H _
  refine xc_in (s_152 (by omega) c H  ?_)
  replace h := h
  show xq X d 154 Q 4 [(0, (5, 1)), (1, (0, c)), (2, (0, 0)), (3, (0, 11))] [(0, xb (0 ≤ c ∧ c ≤ 255))] H
  refine xq_run [4, 14, 21, 36] 300 ?_
  show ((¬ xb (0 ≤ c ∧ c ≤ 255) = 0) → xWM (xE X) xMC d 2 [(0, 0), (0, 0)] xKZ H _) ∧ (¬ (¬ xb (0 ≤ c ∧ c ≤ 255) = 0) → xfR 0 (-1) ∧ xKZ = xKZ ∧ Q (-1) H)
  refine ⟨fun k_ => ?_, fun k_ => ?_⟩
  · replace h := h.1 (xbe_1.mp k_)
    refine xc_in (s_2 (by omega) 0 0 H  ?_)
    replace h := h
    show xq X d 154 Q 14 [(0, (5, 1)), (1, (0, c)), (2, (0, 0)), (3, (0, 11))] [(0, 0)] H
    refine xq_run [4, 14, 21, 36] 300 ?_
    show xWM (xE X) xMC d 1 [(0, 11), (0, 11)] xKZ H _
    refine xc_in (s_1 (by omega) 11 11 H  ?_)
    replace h := h
    show xq X d 154 Q 21 [(2, (0, 0)), (0, (5, 1)), (1, (0, c)), (3, (0, 11))] [(0, 11)] H
    refine xq_run [4, 14, 21, 36] 300 ?_
    show ((0 < 11) → xWM (xE X) xMC d 153 [(5, 1), (0, c), (0, 0), (0, 11)] xKZ H _) ∧ (¬ (0 < 11) → _)
    refine ⟨fun k_ => ?_, fun k_ => absurd (by decide) k_⟩
    refine xc_in (s_153 (by omega) c H (h.1) ?_)
    replace h := h.2
    show xq X d 154 Q 36 [(3, (0, 11)), (2, (0, 0)), (0, (5, 1)), (1, (0, c))] [(0, sgI c)] H
    refine xq_run [4, 14, 21, 36] 300 ?_
    show xfR 0 (sgI c) ∧ xKZ = xKZ ∧ Q (sgI c) H
    exact ⟨trivial, rfl, h⟩
  · replace h := h.2 (xbe_n.mp k_)
    exact ⟨trivial, rfl, h⟩

theorem sgI_no {c : Int} (h : ¬ (0 ≤ c ∧ c ≤ 255)) : sgI c = -1 := by
  unfold sgI
  rw [if_neg (by omega), if_neg (by omega), if_neg (by omega), if_neg (by omega), if_neg (by omega), if_neg (by omega), if_neg (by omega), if_neg (by omega), if_neg (by omega), if_neg (by omega), if_neg (by omega)]
theorem s_154 {X : Int × (Int → Int)} {d : Nat} {Q : Int → XH → Prop} (hd : 2 ≤ d) (c : Int) (H : XH) (hQ : Q (sgI c) H) : xc X d 154 [(5, 1), (0, c), (0, 0), (0, 11)] H Q := by
  cases d with
  | zero => omega
  | succ d =>
  refine U_154 (by omega) c H ?_
  refine ⟨fun c1 => ?_, fun c1 => ?_⟩
  · skip
    refine ⟨?_, ?_⟩
    · first | omega | assumption
    first | exact hQ | (rw [sgI_no (by assumption)] at hQ; exact hQ)
  · skip
    first | exact hQ | (rw [sgI_no (by assumption)] at hQ; exact hQ)

theorem U_155 {X : Int × (Int → Int)} {d : Nat} {Q : Int → XH → Prop} (hd : 2 ≤ d) (c : Int) (H : XH) (h : (((Q (sgI c) H)))) : xc X (d + 1) 155 [(3, 1), (0, c), (0, 0)] H Q := by
  refine ⟨rfl, ?_⟩
  show xq X d 155 Q 100000 [(0, (3, 1)), (1, (0, c)), (2, (0, 0))] [] H
  refine xq_run [4, 17, 20, 33] 300 ?_
  show xWM (xE X) xMC d 144 [(3, 1)] xKZ H _
  refine xc_in (s_144_1 (by omega) H  ?_)
  replace h := h
  show xq X d 155 Q 4 [(0, (3, 1)), (1, (0, c)), (2, (0, 0))] [(0, 1)] H
  refine xq_run [4, 17, 20, 33] 300 ?_
  show ((1 = 0) → _) ∧ (¬ (1 = 0) → xWM (xE X) xMC d 143 [(3, 1)] xKZ H _)
  refine ⟨fun k_ => absurd k_ (by decide), fun k_ => ?_⟩
  refine xc_in (s_143_1 (by omega) H  ?_)
  replace h := h
  show xq X d 155 Q 17 [(0, (3, 1)), (1, (0, c)), (2, (0, 0))] [(0, 11), (0, 0), (0, c), (5, 1)] H
  refine xq_run [4, 17, 20, 33] 300 ?_
  show xWM (xE X) xMC d 154 [(5, 1), (0, c), (0, 0), (0, 11)] xKZ H _
  refine xc_in (s_154 (by omega) c H  ?_)
  replace h := h
  show xq X d 155 Q 20 [(0, (3, 1)), (1, (0, c)), (2, (0, 0))] [(0, sgI c)] H
  refine xq_run [4, 17, 20, 33] 300 ?_
  show xfR 0 (sgI c) ∧ xKZ = xKZ ∧ Q (sgI c) H
  exact ⟨trivial, rfl, h⟩

theorem s_155 {X : Int × (Int → Int)} {d : Nat} {Q : Int → XH → Prop} (hd : 3 ≤ d) (c : Int) (H : XH) (hQ : Q (sgI c) H) : xc X d 155 [(3, 1), (0, c), (0, 0)] H Q := by
  cases d with
  | zero => omega
  | succ d =>
  refine U_155 (by omega) c H ?_
  exact hQ

theorem U_156 {X : Int × (Int → Int)} {d : Nat} {Q : Int → XH → Prop} (hd : 3 ≤ d) (c : Int) (H : XH) (h : (Q (sgI c) H)) : xc X (d + 1) 156 [(3, 1), (0, c)] H Q := by
  refine ⟨rfl, ?_⟩
  show xq X d 156 Q 100000 [(0, (3, 1)), (1, (0, c))] [] H
  refine xq_run [6] 300 ?_
  show xWM (xE X) xMC d 155 [(3, 1), (0, c), (0, 0)] xKZ H _
  refine xc_in (s_155 (by omega) c H  ?_)
  replace h := h
  show xq X d 156 Q 6 [(0, (3, 1)), (1, (0, c))] [(0, sgI c)] H
  refine xq_run [6] 300 ?_
  show xfR 0 (sgI c) ∧ xKZ = xKZ ∧ Q (sgI c) H
  exact ⟨trivial, rfl, h⟩

theorem s_156 {X : Int × (Int → Int)} {d : Nat} {Q : Int → XH → Prop} (hd : 4 ≤ d) (c : Int) (H : XH) (hQ : Q (sgI c) H) : xc X d 156 [(3, 1), (0, c)] H Q := by
  cases d with
  | zero => omega
  | succ d =>
  refine U_156 (by omega) c H ?_
  exact hQ

def isBl (c : Int) : Prop := c = 32 ∨ c = 10
def isLt (c : Int) : Prop := (97 ≤ c ∧ c ≤ 122) ∨ (65 ≤ c ∧ c ≤ 90)
def isDg (c : Int) : Prop := 48 ≤ c ∧ c ≤ 57

theorem U_140 {X : Int × (Int → Int)} {d : Nat} {Q : Int → XH → Prop} (hd : 0 ≤ d) (c : Int) (H : XH) (h : ((c = 32) → Q 1 H) ∧ (¬ (c = 32) → ((¬ c = 10) → Q 0 H) ∧ (¬ (¬ c = 10) → Q 1 H))) : xc X (d + 1) 140 [(0, c)] H Q := by
  refine ⟨rfl, ?_⟩
  show xq X d 140 Q 100000 [(0, (0, c))] [] H
  refine xq_run [] 300 ?_
  show ((c = 32) → xfR 3 1 ∧ xKZ = xKZ ∧ Q 1 H) ∧ (¬ (c = 32) → ((¬ c = 10) → xfR 3 0 ∧ xKZ = xKZ ∧ Q 0 H) ∧ (¬ (¬ c = 10) → xfR 3 1 ∧ xKZ = xKZ ∧ Q 1 H))
  refine ⟨fun k_ => ?_, fun k_ => ?_⟩
  · replace h := h.1 k_
    exact ⟨xfR3_1, rfl, h⟩
  · replace h := h.2 k_
    refine ⟨fun k_ => ?_, fun k_ => ?_⟩
    · replace h := h.1 k_
      exact ⟨xfR3_0, rfl, h⟩
    · replace h := h.2 k_
      exact ⟨xfR3_1, rfl, h⟩

theorem s_140 {X : Int × (Int → Int)} {d : Nat} {Q : Int → XH → Prop} (hd : 1 ≤ d) (c : Int) (H : XH) (hQ : Q (xb (c = 32 ∨ c = 10)) H) : xc X d 140 [(0, c)] H Q := by
  cases d with
  | zero => omega
  | succ d =>
  refine U_140 (by omega) c H ?_
  refine ⟨fun c1 => ?_, fun c1 => ?_⟩
  · skip
    exact xQr hQ (by unfold xb; split <;> omega)
  · skip
    refine ⟨fun c2 => ?_, fun c2 => ?_⟩
    · skip
      exact xQr hQ (by unfold xb; split <;> omega)
    · skip
      exact xQr hQ (by unfold xb; split <;> omega)

theorem U_141 {X : Int × (Int → Int)} {d : Nat} {Q : Int → XH → Prop} (hd : 0 ≤ d) (c : Int) (H : XH) (h : ((c < 97) → ((c < 65) → Q 0 H) ∧ (¬ (c < 65) → ((90 < c) → Q 0 H) ∧ (¬ (90 < c) → Q 1 H))) ∧ (¬ (c < 97) → ((c ≤ 122) → Q 1 H) ∧ (¬ (c ≤ 122) → ((c < 65) → Q 0 H) ∧ (¬ (c < 65) → ((90 < c) → Q 0 H) ∧ (¬ (90 < c) → Q 1 H))))) : xc X (d + 1) 141 [(0, c)] H Q := by
  refine ⟨rfl, ?_⟩
  show xq X d 141 Q 100000 [(0, (0, c))] [] H
  refine xq_run [] 300 ?_
  show ((c < 97) → ((c < 65) → xfR 3 0 ∧ xKZ = xKZ ∧ Q 0 H) ∧ (¬ (c < 65) → ((90 < c) → xfR 3 0 ∧ xKZ = xKZ ∧ Q 0 H) ∧ (¬ (90 < c) → xfR 3 1 ∧ xKZ = xKZ ∧ Q 1 H))) ∧ (¬ (c < 97) → ((c ≤ 122) → xfR 3 1 ∧ xKZ = xKZ ∧ Q 1 H) ∧ (¬ (c ≤ 122) → ((c < 65) → xfR 3 0 ∧ xKZ = xKZ ∧ Q 0 H) ∧ (¬ (c < 65) → ((90 < c) → xfR 3 0 ∧ xKZ = xKZ ∧ Q 0 H) ∧ (¬ (90 < c) → xfR 3 1 ∧ xKZ = xKZ ∧ Q 1 H))))
  refine ⟨fun k_ => ?_, fun k_ => ?_⟩
  · replace h := h.1 k_
    refine ⟨fun k_ => ?_, fun k_ => ?_⟩
    · replace h := h.1 k_
      exact ⟨xfR3_0, rfl, h⟩
    · replace h := h.2 k_
      refine ⟨fun k_ => ?_, fun k_ => ?_⟩
      · replace h := h.1 k_
        exact ⟨xfR3_0, rfl, h⟩
      · replace h := h.2 k_
        exact ⟨xfR3_1, rfl, h⟩
  · replace h := h.2 k_
    refine ⟨fun k_ => ?_, fun k_ => ?_⟩
    · replace h := h.1 k_
      exact ⟨xfR3_1, rfl, h⟩
    · replace h := h.2 k_
      refine ⟨fun k_ => ?_, fun k_ => ?_⟩
      · replace h := h.1 k_
        exact ⟨xfR3_0, rfl, h⟩
      · replace h := h.2 k_
        refine ⟨fun k_ => ?_, fun k_ => ?_⟩
        · replace h := h.1 k_
          exact ⟨xfR3_0, rfl, h⟩
        · replace h := h.2 k_
          exact ⟨xfR3_1, rfl, h⟩

theorem s_141 {X : Int × (Int → Int)} {d : Nat} {Q : Int → XH → Prop} (hd : 1 ≤ d) (c : Int) (H : XH) (hQ : Q (xb ((97 ≤ c ∧ c ≤ 122) ∨ (65 ≤ c ∧ c ≤ 90))) H) : xc X d 141 [(0, c)] H Q := by
  cases d with
  | zero => omega
  | succ d =>
  refine U_141 (by omega) c H ?_
  refine ⟨fun c1 => ?_, fun c1 => ?_⟩
  · skip
    refine ⟨fun c2 => ?_, fun c2 => ?_⟩
    · skip
      exact xQr hQ (by unfold xb; split <;> omega)
    · skip
      refine ⟨fun c3 => ?_, fun c3 => ?_⟩
      · skip
        exact xQr hQ (by unfold xb; split <;> omega)
      · skip
        exact xQr hQ (by unfold xb; split <;> omega)
  · skip
    refine ⟨fun c2 => ?_, fun c2 => ?_⟩
    · skip
      exact xQr hQ (by unfold xb; split <;> omega)
    · skip
      refine ⟨fun c3 => ?_, fun c3 => ?_⟩
      · skip
        exact xQr hQ (by unfold xb; split <;> omega)
      · skip
        refine ⟨fun c4 => ?_, fun c4 => ?_⟩
        · skip
          exact xQr hQ (by unfold xb; split <;> omega)
        · skip
          exact xQr hQ (by unfold xb; split <;> omega)

theorem U_151 {X : Int × (Int → Int)} {d : Nat} {Q : Int → XH → Prop} (hd : 0 ≤ d) (c : Int) (H : XH) (h : ((c < 48) → Q 0 H) ∧ (¬ (c < 48) → ((57 < c) → Q 0 H) ∧ (¬ (57 < c) → Q 1 H))) : xc X (d + 1) 151 [(0, c)] H Q := by
  refine ⟨rfl, ?_⟩
  show xq X d 151 Q 100000 [(0, (0, c))] [] H
  refine xq_run [] 300 ?_
  show ((c < 48) → xfR 3 0 ∧ xKZ = xKZ ∧ Q 0 H) ∧ (¬ (c < 48) → ((57 < c) → xfR 3 0 ∧ xKZ = xKZ ∧ Q 0 H) ∧ (¬ (57 < c) → xfR 3 1 ∧ xKZ = xKZ ∧ Q 1 H))
  refine ⟨fun k_ => ?_, fun k_ => ?_⟩
  · replace h := h.1 k_
    exact ⟨xfR3_0, rfl, h⟩
  · replace h := h.2 k_
    refine ⟨fun k_ => ?_, fun k_ => ?_⟩
    · replace h := h.1 k_
      exact ⟨xfR3_0, rfl, h⟩
    · replace h := h.2 k_
      exact ⟨xfR3_1, rfl, h⟩

theorem s_151 {X : Int × (Int → Int)} {d : Nat} {Q : Int → XH → Prop} (hd : 1 ≤ d) (c : Int) (H : XH) (hQ : Q (xb (48 ≤ c ∧ c ≤ 57)) H) : xc X d 151 [(0, c)] H Q := by
  cases d with
  | zero => omega
  | succ d =>
  refine U_151 (by omega) c H ?_
  refine ⟨fun c1 => ?_, fun c1 => ?_⟩
  · skip
    exact xQr hQ (by unfold xb; split <;> omega)
  · skip
    refine ⟨fun c2 => ?_, fun c2 => ?_⟩
    · skip
      exact xQr hQ (by unfold xb; split <;> omega)
    · skip
      exact xQr hQ (by unfold xb; split <;> omega)
