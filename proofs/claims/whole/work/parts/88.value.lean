/-! THE PURE LAYER 58: what a law says: values, the class -/
def cl6 (v : Int) : Int := if 1000000 < v then 1000000 else if v < -1000000 then -1000000 else v
theorem cl6_rng (v : Int) : -1000000 ≤ cl6 v ∧ cl6 v ≤ 1000000 := by
  unfold cl6
  split <;> (try split) <;> omega
/-- what a sign of two makes -/
def rkV (k l r : Int) : Int := if k = 34 then cl6 (l + r) else if k = 35 then cl6 (l - r) else if k = 36 then cl6 (l * r) else if k = 37 then (if r = 0 then 0 else l.tdiv r) else if k = 30 then xb (l < r) else if k = 31 then xb (r < l) else if k = 32 then xb (l = r) else if k = 33 then xb (¬ l = r) else if k = 41 then xb (l ≤ r) else if k = 42 then xb (r ≤ l) else if k = 5 then l * r else if 0 < l + r then 1 else 0
/-- one sign of the code worked on the pile; w: the words -/
def evS (w : Int → Int) (x : Int) (s : List Int) : List Int :=
  if 0 ≤ x ∧ x ≤ 9999 then x :: s else if 10007 ≤ x ∧ x ≤ 10017 then w (x - 10007) :: s else match s with
    | v :: r => if x = 10043 then -v :: r else if x = 10006 then (1 - v) :: r else (match r with
      | l :: q => rkV (x - 10000) l v :: q
      | [] => [])
    | [] => []
def evR (w : Int → Int) : List Int → List Int → List Int
  | [], s => s
  | x :: c, s => evR w c (evS w x s)
/-- values are of their kinds -/
def tyS : List Bool → List Int → Prop
  | [], [] => True
  | true :: b, v :: s => (-1000000 ≤ v ∧ v ≤ 1000000) ∧ tyS b s
  | false :: b, v :: s => (v = 0 ∨ v = 1) ∧ tyS b s
  | _, _ => False
theorem tyS_len : ∀ (b : List Bool) (s : List Int), tyS b s → s.length = b.length
  | [], [], _ => rfl
  | true :: b, v :: s, h => congrArg (· + 1) (tyS_len b s h.2)
  | false :: b, v :: s, h => congrArg (· + 1) (tyS_len b s h.2)
  | [], _ :: _, h => h.elim
  | true :: _, [], h => h.elim
  | false :: _, [], h => h.elim
theorem evR_app (w : Int → Int) : ∀ (a b : List Int) (s : List Int), evR w (a ++ b) s = evR w b (evR w a s)
  | [], _, _ => rfl
  | x :: a, b, s => evR_app w a b (evS w x s)
theorem tdiv_6 {l r : Int} (hl : -1000000 ≤ l ∧ l ≤ 1000000) (hr : ¬ r = 0) : -1000000 ≤ l.tdiv r ∧ l.tdiv r ≤ 1000000 := by
  have h1 : (l.tdiv r).natAbs ≤ l.natAbs := by
    rw [Int.natAbs_tdiv]
    exact Nat.div_le_self _ _
  omega
theorem rkV_ar {k l r : Int} (hk : 34 ≤ k ∧ k ≤ 37) (hl : -1000000 ≤ l ∧ l ≤ 1000000) : -1000000 ≤ rkV k l r ∧ rkV k l r ≤ 1000000 := by
  unfold rkV
  rcases (show k = 34 ∨ k = 35 ∨ k = 36 ∨ k = 37 by omega) with q | q | q | q
  · rw [if_pos q]
    exact cl6_rng _
  · rw [if_neg (by omega), if_pos q]
    exact cl6_rng _
  · rw [if_neg (by omega), if_neg (by omega), if_pos q]
    exact cl6_rng _
  · rw [if_neg (by omega), if_neg (by omega), if_neg (by omega), if_pos q]
    by_cases h : r = 0
    · rw [if_pos h]
      exact ⟨by decide, by decide⟩
    · rw [if_neg h]
      exact tdiv_6 hl h
theorem xb_01 {c : Prop} [Decidable c] : xb c = 0 ∨ xb c = 1 := by
  unfold xb
  split
  · exact Or.inr rfl
  · exact Or.inl rfl
theorem rkV_cm {k l r : Int} (hk : (30 ≤ k ∧ k ≤ 33) ∨ k = 41 ∨ k = 42) : rkV k l r = 0 ∨ rkV k l r = 1 := by
  unfold rkV
  rcases (show k = 30 ∨ k = 31 ∨ k = 32 ∨ k = 33 ∨ k = 41 ∨ k = 42 by omega) with q | q | q | q | q | q <;> subst q <;> exact xb_01
theorem rkV_bo {k l r : Int} (hk : k = 4 ∨ k = 5) (hl : l = 0 ∨ l = 1) (hr : r = 0 ∨ r = 1) : rkV k l r = 0 ∨ rkV k l r = 1 := by
  unfold rkV
  rcases hk with q | q <;> rcases hl with a | a <;> rcases hr with b | b <;> subst q <;> subst a <;> subst b <;> decide
/-- what a sign of the code asks of the pile, said by kinds -/
theorem tcS_cases {x : Int} {b b' : List Bool} {s : List Int} (h : tcS x b = some b') (t : tyS b s) : (((0 ≤ x ∧ x ≤ 9999) ∨ (10007 ≤ x ∧ x ≤ 10017)) ∧ s.length < 60 ∧ b' = true :: b) ∨ (x = 10043 ∧ ∃ v r, s = v :: r ∧ (-1000000 ≤ v ∧ v ≤ 1000000) ∧ ∃ c, b' = true :: c ∧ tyS c r) ∨ (x = 10006 ∧ ∃ v r, s = v :: r ∧ (v = 0 ∨ v = 1) ∧ ∃ c, b' = false :: c ∧ tyS c r) ∨ (∃ l v r, s = v :: l :: r ∧ (((10034 ≤ x ∧ x ≤ 10037) ∧ (-1000000 ≤ l ∧ l ≤ 1000000) ∧ (-1000000 ≤ v ∧ v ≤ 1000000) ∧ ∃ c, b' = true :: c ∧ tyS c r) ∨ (((10030 ≤ x ∧ x ≤ 10033) ∨ x = 10041 ∨ x = 10042) ∧ (-1000000 ≤ l ∧ l ≤ 1000000) ∧ (-1000000 ≤ v ∧ v ≤ 1000000) ∧ ∃ c, b' = false :: c ∧ tyS c r) ∨ ((x = 10004 ∨ x = 10005) ∧ (l = 0 ∨ l = 1) ∧ (v = 0 ∨ v = 1) ∧ ∃ c, b' = false :: c ∧ tyS c r))) := by
  have ln := tyS_len b s t
  unfold tcS at h
  split at h
  · next q =>
    split at h
    · exact Or.inl ⟨q, by omega, (Option.some.inj h).symm⟩
    · cases h
  · next q =>
    match b, s, t, h with
    | true :: c, v :: r, t, h =>
      dsimp only at h
      split at h
      · next e => exact Or.inr (Or.inl ⟨e, v, r, rfl, t.1, c, (Option.some.inj h).symm, t.2⟩)
      · match c, r, t, h with
        | true :: c, l :: r, t, h =>
          dsimp only at h
          split at h
          · next e => exact Or.inr (Or.inr (Or.inr ⟨l, v, r, rfl, Or.inl ⟨e, t.2.1, t.1, c, (Option.some.inj h).symm, t.2.2⟩⟩))
          · split at h
            · next e => exact Or.inr (Or.inr (Or.inr ⟨l, v, r, rfl, Or.inr (Or.inl ⟨e, t.2.1, t.1, c, (Option.some.inj h).symm, t.2.2⟩)⟩))
            · cases h
        | false :: _, _, _, h => cases h
        | [], _, _, h => cases h
        | true :: _, [], t, _ => exact t.2.elim
    | false :: c, v :: r, t, h =>
      dsimp only at h
      split at h
      · next e => exact Or.inr (Or.inr (Or.inl ⟨e, v, r, rfl, t.1, c, (Option.some.inj h).symm, t.2⟩))
      · match c, r, t, h with
        | false :: c, l :: r, t, h =>
          dsimp only at h
          split at h
          · next e => exact Or.inr (Or.inr (Or.inr ⟨l, v, r, rfl, Or.inr (Or.inr ⟨e, t.2.1, t.1, c, (Option.some.inj h).symm, t.2.2⟩)⟩))
          · cases h
        | true :: _, _, _, h => cases h
        | [], _, _, h => cases h
        | false :: _, [], t, _ => exact t.2.elim
    | [], _, _, h => cases h
    | true :: _, [], t, _ => exact t.elim
    | false :: _, [], t, _ => exact t.elim
theorem evS_ty {w : Int → Int} (hw : ∀ i, 0 ≤ i → i ≤ 10 → -1000000 ≤ w i ∧ w i ≤ 1000000) {x : Int} {b b' : List Bool} {s : List Int} (h : tcS x b = some b') (t : tyS b s) : tyS b' (evS w x s) := by
  rcases tcS_cases h t with ⟨q, -, e⟩ | ⟨q, v, r, e, hv, c, e2, t2⟩ | ⟨q, v, r, e, hv, c, e2, t2⟩ | ⟨l, v, r, e, z⟩
  · rw [e]
    unfold evS
    by_cases a : 0 ≤ x ∧ x ≤ 9999
    · rw [if_pos a]
      exact ⟨by omega, t⟩
    · rw [if_neg a, if_pos (by omega)]
      exact ⟨hw _ (by omega) (by omega), t⟩
  · rw [e, e2]
    unfold evS
    rw [if_neg (by omega), if_neg (by omega)]
    dsimp only
    rw [if_pos q]
    exact ⟨by omega, t2⟩
  · rw [e, e2]
    unfold evS
    rw [if_neg (by omega), if_neg (by omega)]
    dsimp only
    rw [if_neg (by omega), if_pos q]
    exact ⟨by omega, t2⟩
  · rw [e]
    unfold evS
    rcases z with ⟨q, hl, hv, c, e2, t2⟩ | ⟨q, hl, hv, c, e2, t2⟩ | ⟨q, hl, hv, c, e2, t2⟩
    · rw [e2, if_neg (by omega), if_neg (by omega)]
      dsimp only
      rw [if_neg (by omega), if_neg (by omega)]
      exact ⟨rkV_ar (by omega) hl, t2⟩
    · rw [e2, if_neg (by omega), if_neg (by omega)]
      dsimp only
      rw [if_neg (by omega), if_neg (by omega)]
      exact ⟨rkV_cm (by omega), t2⟩
    · rw [e2, if_neg (by omega), if_neg (by omega)]
      dsimp only
      rw [if_neg (by omega), if_neg (by omega)]
      exact ⟨rkV_bo (by omega) hl hv, t2⟩

theorem U_3 {X : Int × (Int → Int)} {d : Nat} {Q : Int → XH → Prop} (hd : 0 ≤ d) (v l m : Int) (H : XH) (h : ((l ≤ v) → ((v ≤ m) → Q v H) ∧ (¬ (v ≤ m) → Q m H)) ∧ (¬ (l ≤ v) → Q l H)) : xc X (d + 1) 3 [(0, v), (0, l), (0, m)] H Q := by
  refine ⟨rfl, ?_⟩
  show xq X d 3 Q 100000 [(0, (0, v)), (1, (0, l)), (2, (0, m))] [] H
  refine xq_run [] 300 ?_
  show ((l ≤ v) → ((v ≤ m) → xfR 0 v ∧ xKZ = xKZ ∧ Q v H) ∧ (¬ (v ≤ m) → xfR 0 m ∧ xKZ = xKZ ∧ Q m H)) ∧ (¬ (l ≤ v) → xfR 0 l ∧ xKZ = xKZ ∧ Q l H)
  refine ⟨fun k_ => ?_, fun k_ => ?_⟩
  · replace h := h.1 k_
    refine ⟨fun k_ => ?_, fun k_ => ?_⟩
    · replace h := h.1 k_
      exact ⟨trivial, rfl, h⟩
    · replace h := h.2 k_
      exact ⟨trivial, rfl, h⟩
  · replace h := h.2 k_
    exact ⟨trivial, rfl, h⟩

theorem s_3 {X : Int × (Int → Int)} {d : Nat} {Q : Int → XH → Prop} (hd : 1 ≤ d) (v l m : Int) (H : XH) (o0 : l ≤ m) (hQ : Q (max l (min m v)) H) : xc X d 3 [(0, v), (0, l), (0, m)] H Q := by
  cases d with
  | zero => omega
  | succ d =>
  refine U_3 (by omega) v l m H ?_
  refine ⟨fun c1 => ?_, fun c1 => ?_⟩
  · skip
    refine ⟨fun c2 => ?_, fun c2 => ?_⟩
    · skip
      exact xQr hQ (by omega)
    · skip
      exact xQr hQ (by omega)
  · skip
    exact xQr hQ (by omega)

theorem U_208 {X : Int × (Int → Int)} {d : Nat} {Q : Int → XH → Prop} (hd : 0 ≤ d) (a b : Int) (H : XH) (h : ((a < b) → Q b H) ∧ (¬ (a < b) → Q a H)) : xc X (d + 1) 208 [(1, a), (1, b)] H Q := by
  refine ⟨rfl, ?_⟩
  show xq X d 208 Q 100000 [(0, (1, a)), (2, (1, b))] [] H
  refine xq_run [] 300 ?_
  show ((xcmp a b < 0) → xfR 1 b ∧ xKZ = xKZ ∧ Q b H) ∧ (¬ (xcmp a b < 0) → xfR 1 a ∧ xKZ = xKZ ∧ Q a H)
  refine ⟨fun k_ => ?_, fun k_ => ?_⟩
  · replace h := h.1 (xcmp_lt.mp k_)
    exact ⟨trivial, rfl, h⟩
  · replace h := h.2 (fun q => k_ (xcmp_lt.mpr q))
    exact ⟨trivial, rfl, h⟩

theorem s_208 {X : Int × (Int → Int)} {d : Nat} {Q : Int → XH → Prop} (hd : 1 ≤ d) (a b : Int) (H : XH) (hQ : Q (max a b) H) : xc X d 208 [(1, a), (1, b)] H Q := by
  cases d with
  | zero => omega
  | succ d =>
  refine U_208 (by omega) a b H ?_
  refine ⟨fun c1 => ?_, fun c1 => ?_⟩
  · skip
    exact xQr hQ (by omega)
  · skip
    exact xQr hQ (by omega)

set_option maxRecDepth 4000 in
theorem U_209 {X : Int × (Int → Int)} {d : Nat} {Q : Int → XH → Prop} (hd : 1 ≤ d) (k l r : Int) (H : XH) (h : ((k = 4) → Q (xor_ l r) H) ∧ (¬ (k = 4) → ((k = 5) → Q (xand l r) H) ∧ (¬ (k = 5) → ((k = 6) → Q 0 H) ∧ (¬ (k = 6) → ((k = 7) → Q 0 H) ∧ (¬ (k = 7) → ((k = 8) → Q 0 H) ∧ (¬ (k = 8) → ((k = 9) → Q 0 H) ∧ (¬ (k = 9) → ((k = 10) → Q 0 H) ∧ (¬ (k = 10) → ((k = 11) → Q 0 H) ∧ (¬ (k = 11) → ((k = 12) → Q 0 H) ∧ (¬ (k = 12) → ((k = 13) → Q 0 H) ∧ (¬ (k = 13) → ((k = 14) → Q 0 H) ∧ (¬ (k = 14) → ((k = 15) → Q 0 H) ∧ (¬ (k = 15) → ((k = 16) → Q 0 H) ∧ (¬ (k = 16) → ((k = 17) → Q 0 H) ∧ (¬ (k = 17) → ((k = 18) → Q 0 H) ∧ (¬ (k = 18) → ((k = 19) → Q 0 H) ∧ (¬ (k = 19) → ((k = 20) → Q 0 H) ∧ (¬ (k = 20) → ((k = 21) → Q 0 H) ∧ (¬ (k = 21) → ((k = 22) → Q 0 H) ∧ (¬ (k = 22) → ((k = 23) → Q 0 H) ∧ (¬ (k = 23) → ((k = 24) → Q 0 H) ∧ (¬ (k = 24) → ((k = 25) → Q 0 H) ∧ (¬ (k = 25) → ((k = 26) → Q 0 H) ∧ (¬ (k = 26) → ((k = 27) → Q 0 H) ∧ (¬ (k = 27) → ((k = 28) → Q 0 H) ∧ (¬ (k = 28) → ((k = 29) → Q 0 H) ∧ (¬ (k = 29) → ((k = 30) → ((r ≤ l) → Q 0 H) ∧ (¬ (r ≤ l) → Q 1 H)) ∧ (¬ (k = 30) → ((k = 31) → ((l ≤ r) → Q 0 H) ∧ (¬ (l ≤ r) → Q 1 H)) ∧ (¬ (k = 31) → ((k = 32) → ((¬ l = r) → Q 0 H) ∧ (¬ (¬ l = r) → Q 1 H)) ∧ (¬ (k = 32) → ((k = 33) → ((l = r) → Q 0 H) ∧ (¬ (l = r) → Q 1 H)) ∧ (¬ (k = 33) → ((k = 34) → (xI (l + r)) ∧ (Q (max (-1000000) (min 1000000 (l + r))) H)) ∧ (¬ (k = 34) → ((k = 35) → (xI (l - r)) ∧ (Q (max (-1000000) (min 1000000 (l - r))) H)) ∧ (¬ (k = 35) → ((k = 36) → (xJ (l * r)) ∧ ((Q (xl2i (max (-1000000) (if 1000000 ≤ l * r then 1000000 else l * r))) H))) ∧ (¬ (k = 36) → ((k = 37) → ((¬ r = 0) → (¬ r = 0 ∧ xI (Int.tdiv l r)) ∧ Q (Int.tdiv l r) H) ∧ (¬ (¬ r = 0) → Q 0 H)) ∧ (¬ (k = 37) → ((k = 38) → Q 0 H) ∧ (¬ (k = 38) → ((k = 39) → Q 0 H) ∧ (¬ (k = 39) → ((k = 40) → Q 0 H) ∧ (¬ (k = 40) → ((k = 41) → ((r < l) → Q 0 H) ∧ (¬ (r < l) → Q 1 H)) ∧ (¬ (k = 41) → ((k = 42) → ((l < r) → Q 0 H) ∧ (¬ (l < r) → Q 1 H)) ∧ (¬ (k = 42) → Q 0 H)))))))))))))))))))))))))))))))))))))))) : xc X (d + 1) 209 [(0, k), (0, l), (0, r)] H Q := by
  refine ⟨rfl, ?_⟩
  show xq X d 209 Q 100000 [(0, (0, k)), (1, (0, l)), (2, (0, r))] [] H
  refine xq_run [256, 267, 282, 285] 300 ?_
  show ((k = 4) → xfR 0 (xor_ l r) ∧ xKZ = xKZ ∧ Q (xor_ l r) H) ∧ (¬ (k = 4) → ((k = 5) → xfR 0 (xand l r) ∧ xKZ = xKZ ∧ Q (xand l r) H) ∧ (¬ (k = 5) → ((k = 6) → xfR 0 0 ∧ xKZ = xKZ ∧ Q 0 H) ∧ (¬ (k = 6) → ((k = 7) → xfR 0 0 ∧ xKZ = xKZ ∧ Q 0 H) ∧ (¬ (k = 7) → ((k = 8) → xfR 0 0 ∧ xKZ = xKZ ∧ Q 0 H) ∧ (¬ (k = 8) → ((k = 9) → xfR 0 0 ∧ xKZ = xKZ ∧ Q 0 H) ∧ (¬ (k = 9) → ((k = 10) → xfR 0 0 ∧ xKZ = xKZ ∧ Q 0 H) ∧ (¬ (k = 10) → ((k = 11) → xfR 0 0 ∧ xKZ = xKZ ∧ Q 0 H) ∧ (¬ (k = 11) → ((k = 12) → xfR 0 0 ∧ xKZ = xKZ ∧ Q 0 H) ∧ (¬ (k = 12) → ((k = 13) → xfR 0 0 ∧ xKZ = xKZ ∧ Q 0 H) ∧ (¬ (k = 13) → ((k = 14) → xfR 0 0 ∧ xKZ = xKZ ∧ Q 0 H) ∧ (¬ (k = 14) → ((k = 15) → xfR 0 0 ∧ xKZ = xKZ ∧ Q 0 H) ∧ (¬ (k = 15) → ((k = 16) → xfR 0 0 ∧ xKZ = xKZ ∧ Q 0 H) ∧ (¬ (k = 16) → ((k = 17) → xfR 0 0 ∧ xKZ = xKZ ∧ Q 0 H) ∧ (¬ (k = 17) → ((k = 18) → xfR 0 0 ∧ xKZ = xKZ ∧ Q 0 H) ∧ (¬ (k = 18) → ((k = 19) → xfR 0 0 ∧ xKZ = xKZ ∧ Q 0 H) ∧ (¬ (k = 19) → ((k = 20) → xfR 0 0 ∧ xKZ = xKZ ∧ Q 0 H) ∧ (¬ (k = 20) → ((k = 21) → xfR 0 0 ∧ xKZ = xKZ ∧ Q 0 H) ∧ (¬ (k = 21) → ((k = 22) → xfR 0 0 ∧ xKZ = xKZ ∧ Q 0 H) ∧ (¬ (k = 22) → ((k = 23) → xfR 0 0 ∧ xKZ = xKZ ∧ Q 0 H) ∧ (¬ (k = 23) → ((k = 24) → xfR 0 0 ∧ xKZ = xKZ ∧ Q 0 H) ∧ (¬ (k = 24) → ((k = 25) → xfR 0 0 ∧ xKZ = xKZ ∧ Q 0 H) ∧ (¬ (k = 25) → ((k = 26) → xfR 0 0 ∧ xKZ = xKZ ∧ Q 0 H) ∧ (¬ (k = 26) → ((k = 27) → xfR 0 0 ∧ xKZ = xKZ ∧ Q 0 H) ∧ (¬ (k = 27) → ((k = 28) → xfR 0 0 ∧ xKZ = xKZ ∧ Q 0 H) ∧ (¬ (k = 28) → ((k = 29) → xfR 0 0 ∧ xKZ = xKZ ∧ Q 0 H) ∧ (¬ (k = 29) → ((k = 30) → ((r ≤ l) → xfR 0 0 ∧ xKZ = xKZ ∧ Q 0 H) ∧ (¬ (r ≤ l) → xfR 0 1 ∧ xKZ = xKZ ∧ Q 1 H)) ∧ (¬ (k = 30) → ((k = 31) → ((l ≤ r) → xfR 0 0 ∧ xKZ = xKZ ∧ Q 0 H) ∧ (¬ (l ≤ r) → xfR 0 1 ∧ xKZ = xKZ ∧ Q 1 H)) ∧ (¬ (k = 31) → ((k = 32) → ((¬ l = r) → xfR 0 0 ∧ xKZ = xKZ ∧ Q 0 H) ∧ (¬ (¬ l = r) → xfR 0 1 ∧ xKZ = xKZ ∧ Q 1 H)) ∧ (¬ (k = 32) → ((k = 33) → ((l = r) → xfR 0 0 ∧ xKZ = xKZ ∧ Q 0 H) ∧ (¬ (l = r) → xfR 0 1 ∧ xKZ = xKZ ∧ Q 1 H)) ∧ (¬ (k = 33) → ((k = 34) → (xI (l + r)) ∧ xWM (xE X) xMC d 3 [(0, l + r), (0, (-1000000)), (0, 1000000)] xKZ H _) ∧ (¬ (k = 34) → ((k = 35) → (xI (l - r)) ∧ xWM (xE X) xMC d 3 [(0, l - r), (0, (-1000000)), (0, 1000000)] xKZ H _) ∧ (¬ (k = 35) → ((k = 36) → (xJ (l * r)) ∧ xWM (xE X) xMC d 107 [(1, 1000000), (1, l * r)] xKZ H _) ∧ (¬ (k = 36) → ((k = 37) → ((¬ r = 0) → (¬ r = 0 ∧ xI (Int.tdiv l r)) ∧ xfR 0 (Int.tdiv l r) ∧ xKZ = xKZ ∧ Q (Int.tdiv l r) H) ∧ (¬ (¬ r = 0) → xfR 0 0 ∧ xKZ = xKZ ∧ Q 0 H)) ∧ (¬ (k = 37) → ((k = 38) → xfR 0 0 ∧ xKZ = xKZ ∧ Q 0 H) ∧ (¬ (k = 38) → ((k = 39) → xfR 0 0 ∧ xKZ = xKZ ∧ Q 0 H) ∧ (¬ (k = 39) → ((k = 40) → xfR 0 0 ∧ xKZ = xKZ ∧ Q 0 H) ∧ (¬ (k = 40) → ((k = 41) → ((r < l) → xfR 0 0 ∧ xKZ = xKZ ∧ Q 0 H) ∧ (¬ (r < l) → xfR 0 1 ∧ xKZ = xKZ ∧ Q 1 H)) ∧ (¬ (k = 41) → ((k = 42) → ((l < r) → xfR 0 0 ∧ xKZ = xKZ ∧ Q 0 H) ∧ (¬ (l < r) → xfR 0 1 ∧ xKZ = xKZ ∧ Q 1 H)) ∧ (¬ (k = 42) → xfR 0 0 ∧ xKZ = xKZ ∧ Q 0 H)))))))))))))))))))))))))))))))))))))))
  refine ⟨fun k_ => ?_, fun k_ => ?_⟩
  · replace h := h.1 k_
    exact ⟨trivial, rfl, h⟩
  · replace h := h.2 k_
    refine ⟨fun k_ => ?_, fun k_ => ?_⟩
    · replace h := h.1 k_
      exact ⟨trivial, rfl, h⟩
    · replace h := h.2 k_
      refine ⟨fun k_ => ?_, fun k_ => ?_⟩
      · replace h := h.1 k_
        exact ⟨trivial, rfl, h⟩
      · replace h := h.2 k_
        refine ⟨fun k_ => ?_, fun k_ => ?_⟩
        · replace h := h.1 k_
          exact ⟨trivial, rfl, h⟩
        · replace h := h.2 k_
          refine ⟨fun k_ => ?_, fun k_ => ?_⟩
          · replace h := h.1 k_
            exact ⟨trivial, rfl, h⟩
          · replace h := h.2 k_
            refine ⟨fun k_ => ?_, fun k_ => ?_⟩
            · replace h := h.1 k_
              exact ⟨trivial, rfl, h⟩
            · replace h := h.2 k_
              refine ⟨fun k_ => ?_, fun k_ => ?_⟩
              · replace h := h.1 k_
                exact ⟨trivial, rfl, h⟩
              · replace h := h.2 k_
                refine ⟨fun k_ => ?_, fun k_ => ?_⟩
                · replace h := h.1 k_
                  exact ⟨trivial, rfl, h⟩
                · replace h := h.2 k_
                  refine ⟨fun k_ => ?_, fun k_ => ?_⟩
                  · replace h := h.1 k_
                    exact ⟨trivial, rfl, h⟩
                  · replace h := h.2 k_
                    refine ⟨fun k_ => ?_, fun k_ => ?_⟩
                    · replace h := h.1 k_
                      exact ⟨trivial, rfl, h⟩
                    · replace h := h.2 k_
                      refine ⟨fun k_ => ?_, fun k_ => ?_⟩
                      · replace h := h.1 k_
                        exact ⟨trivial, rfl, h⟩
                      · replace h := h.2 k_
                        refine ⟨fun k_ => ?_, fun k_ => ?_⟩
                        · replace h := h.1 k_
                          exact ⟨trivial, rfl, h⟩
                        · replace h := h.2 k_
                          refine ⟨fun k_ => ?_, fun k_ => ?_⟩
                          · replace h := h.1 k_
                            exact ⟨trivial, rfl, h⟩
                          · replace h := h.2 k_
                            refine ⟨fun k_ => ?_, fun k_ => ?_⟩
                            · replace h := h.1 k_
                              exact ⟨trivial, rfl, h⟩
                            · replace h := h.2 k_
                              refine ⟨fun k_ => ?_, fun k_ => ?_⟩
                              · replace h := h.1 k_
                                exact ⟨trivial, rfl, h⟩
                              · replace h := h.2 k_
                                refine ⟨fun k_ => ?_, fun k_ => ?_⟩
                                · replace h := h.1 k_
                                  exact ⟨trivial, rfl, h⟩
                                · replace h := h.2 k_
                                  refine ⟨fun k_ => ?_, fun k_ => ?_⟩
                                  · replace h := h.1 k_
                                    exact ⟨trivial, rfl, h⟩
                                  · replace h := h.2 k_
                                    refine ⟨fun k_ => ?_, fun k_ => ?_⟩
                                    · replace h := h.1 k_
                                      exact ⟨trivial, rfl, h⟩
                                    · replace h := h.2 k_
                                      refine ⟨fun k_ => ?_, fun k_ => ?_⟩
                                      · replace h := h.1 k_
                                        exact ⟨trivial, rfl, h⟩
                                      · replace h := h.2 k_
                                        refine ⟨fun k_ => ?_, fun k_ => ?_⟩
                                        · replace h := h.1 k_
                                          exact ⟨trivial, rfl, h⟩
                                        · replace h := h.2 k_
                                          refine ⟨fun k_ => ?_, fun k_ => ?_⟩
                                          · replace h := h.1 k_
                                            exact ⟨trivial, rfl, h⟩
                                          · replace h := h.2 k_
                                            refine ⟨fun k_ => ?_, fun k_ => ?_⟩
                                            · replace h := h.1 k_
                                              exact ⟨trivial, rfl, h⟩
                                            · replace h := h.2 k_
                                              refine ⟨fun k_ => ?_, fun k_ => ?_⟩
                                              · replace h := h.1 k_
                                                exact ⟨trivial, rfl, h⟩
                                              · replace h := h.2 k_
                                                refine ⟨fun k_ => ?_, fun k_ => ?_⟩
                                                · replace h := h.1 k_
                                                  exact ⟨trivial, rfl, h⟩
                                                · replace h := h.2 k_
                                                  refine ⟨fun k_ => ?_, fun k_ => ?_⟩
                                                  · replace h := h.1 k_
                                                    exact ⟨trivial, rfl, h⟩
                                                  · replace h := h.2 k_
                                                    refine ⟨fun k_ => ?_, fun k_ => ?_⟩
                                                    · replace h := h.1 k_
                                                      exact ⟨trivial, rfl, h⟩
                                                    · replace h := h.2 k_
                                                      refine ⟨fun k_ => ?_, fun k_ => ?_⟩
                                                      · replace h := h.1 k_
                                                        refine ⟨fun k_ => ?_, fun k_ => ?_⟩
                                                        · replace h := h.1 k_
                                                          exact ⟨trivial, rfl, h⟩
                                                        · replace h := h.2 k_
                                                          exact ⟨trivial, rfl, h⟩
                                                      · replace h := h.2 k_
                                                        refine ⟨fun k_ => ?_, fun k_ => ?_⟩
                                                        · replace h := h.1 k_
                                                          refine ⟨fun k_ => ?_, fun k_ => ?_⟩
                                                          · replace h := h.1 k_
                                                            exact ⟨trivial, rfl, h⟩
                                                          · replace h := h.2 k_
                                                            exact ⟨trivial, rfl, h⟩
                                                        · replace h := h.2 k_
                                                          refine ⟨fun k_ => ?_, fun k_ => ?_⟩
                                                          · replace h := h.1 k_
                                                            refine ⟨fun k_ => ?_, fun k_ => ?_⟩
                                                            · replace h := h.1 k_
                                                              exact ⟨trivial, rfl, h⟩
                                                            · replace h := h.2 k_
                                                              exact ⟨trivial, rfl, h⟩
                                                          · replace h := h.2 k_
                                                            refine ⟨fun k_ => ?_, fun k_ => ?_⟩
                                                            · replace h := h.1 k_
                                                              refine ⟨fun k_ => ?_, fun k_ => ?_⟩
                                                              · replace h := h.1 k_
                                                                exact ⟨trivial, rfl, h⟩
                                                              · replace h := h.2 k_
                                                                exact ⟨trivial, rfl, h⟩
                                                            · replace h := h.2 k_
                                                              refine ⟨fun k_ => ?_, fun k_ => ?_⟩
                                                              · replace h := h.1 k_
                                                                refine ⟨h.1, ?_⟩
                                                                replace h := h.2
                                                                refine xc_in (s_3 (by omega) (l + r) (-1000000) 1000000 H (by omega)  ?_)
                                                                replace h := h
                                                                show xq X d 209 Q 256 [(0, (0, k)), (1, (0, l)), (2, (0, r))] [(0, max (-1000000) (min 1000000 (l + r)))] H
                                                                refine xq_run [256, 267, 282, 285] 300 ?_
                                                                show xfR 0 (max (-1000000) (min 1000000 (l + r))) ∧ xKZ = xKZ ∧ Q (max (-1000000) (min 1000000 (l + r))) H
                                                                exact ⟨trivial, rfl, h⟩
                                                              · replace h := h.2 k_
                                                                refine ⟨fun k_ => ?_, fun k_ => ?_⟩
                                                                · replace h := h.1 k_
                                                                  refine ⟨h.1, ?_⟩
                                                                  replace h := h.2
                                                                  refine xc_in (s_3 (by omega) (l - r) (-1000000) 1000000 H (by omega)  ?_)
                                                                  replace h := h
                                                                  show xq X d 209 Q 267 [(0, (0, k)), (1, (0, l)), (2, (0, r))] [(0, max (-1000000) (min 1000000 (l - r)))] H
                                                                  refine xq_run [256, 267, 282, 285] 300 ?_
                                                                  show xfR 0 (max (-1000000) (min 1000000 (l - r))) ∧ xKZ = xKZ ∧ Q (max (-1000000) (min 1000000 (l - r))) H
                                                                  exact ⟨trivial, rfl, h⟩
                                                                · replace h := h.2 k_
                                                                  refine ⟨fun k_ => ?_, fun k_ => ?_⟩
                                                                  · replace h := h.1 k_
                                                                    refine ⟨h.1, ?_⟩
                                                                    replace h := h.2
                                                                    refine xc_in (s_107 (by omega) 1000000 (l * r) H  ?_)
                                                                    replace h := h
                                                                    show xq X d 209 Q 282 [(0, (0, k)), (1, (0, l)), (2, (0, r))] [(1, (if 1000000 ≤ l * r then 1000000 else l * r)), (1, (-1000000))] H
                                                                    refine xq_run [256, 267, 282, 285] 300 ?_
                                                                    show xWM (xE X) xMC d 208 [(1, (-1000000)), (1, (if 1000000 ≤ l * r then 1000000 else l * r))] xKZ H _
                                                                    refine xc_in (s_208 (by omega) (-1000000) (if 1000000 ≤ l * r then 1000000 else l * r) H  ?_)
                                                                    replace h := h
                                                                    show xq X d 209 Q 285 [(0, (0, k)), (1, (0, l)), (2, (0, r))] [(1, max (-1000000) (if 1000000 ≤ l * r then 1000000 else l * r))] H
                                                                    refine xq_run [256, 267, 282, 285] 300 ?_
                                                                    show xfR 0 (xl2i (max (-1000000) (if 1000000 ≤ l * r then 1000000 else l * r))) ∧ xKZ = xKZ ∧ Q (xl2i (max (-1000000) (if 1000000 ≤ l * r then 1000000 else l * r))) H
                                                                    exact ⟨trivial, rfl, h⟩
                                                                  · replace h := h.2 k_
                                                                    refine ⟨fun k_ => ?_, fun k_ => ?_⟩
                                                                    · replace h := h.1 k_
                                                                      refine ⟨fun k_ => ?_, fun k_ => ?_⟩
                                                                      · replace h := h.1 k_
                                                                        refine ⟨h.1, ?_⟩
                                                                        replace h := h.2
                                                                        exact ⟨trivial, rfl, h⟩
                                                                      · replace h := h.2 k_
                                                                        exact ⟨trivial, rfl, h⟩
                                                                    · replace h := h.2 k_
                                                                      refine ⟨fun k_ => ?_, fun k_ => ?_⟩
                                                                      · replace h := h.1 k_
                                                                        exact ⟨trivial, rfl, h⟩
                                                                      · replace h := h.2 k_
                                                                        refine ⟨fun k_ => ?_, fun k_ => ?_⟩
                                                                        · replace h := h.1 k_
                                                                          exact ⟨trivial, rfl, h⟩
                                                                        · replace h := h.2 k_
                                                                          refine ⟨fun k_ => ?_, fun k_ => ?_⟩
                                                                          · replace h := h.1 k_
                                                                            exact ⟨trivial, rfl, h⟩
                                                                          · replace h := h.2 k_
                                                                            refine ⟨fun k_ => ?_, fun k_ => ?_⟩
                                                                            · replace h := h.1 k_
                                                                              refine ⟨fun k_ => ?_, fun k_ => ?_⟩
                                                                              · replace h := h.1 k_
                                                                                exact ⟨trivial, rfl, h⟩
                                                                              · replace h := h.2 k_
                                                                                exact ⟨trivial, rfl, h⟩
                                                                            · replace h := h.2 k_
                                                                              refine ⟨fun k_ => ?_, fun k_ => ?_⟩
                                                                              · replace h := h.1 k_
                                                                                refine ⟨fun k_ => ?_, fun k_ => ?_⟩
                                                                                · replace h := h.1 k_
                                                                                  exact ⟨trivial, rfl, h⟩
                                                                                · replace h := h.2 k_
                                                                                  exact ⟨trivial, rfl, h⟩
                                                                              · replace h := h.2 k_
                                                                                exact ⟨trivial, rfl, h⟩

theorem mul_6 {l r : Int} (hl : -1000000 ≤ l ∧ l ≤ 1000000) (hr : -1000000 ≤ r ∧ r ≤ 1000000) : -1000000000000 ≤ l * r ∧ l * r ≤ 1000000000000 := by
  have h : (l * r).natAbs ≤ 1000000 * 1000000 := by
    rw [Int.natAbs_mul]
    exact Nat.mul_le_mul (by omega) (by omega)
  omega
theorem cl6_if (v : Int) : max (-1000000) (min 1000000 v) = cl6 v := by
  unfold cl6
  split <;> (try split) <;> omega
theorem xor01 {l r : Int} (hl : l = 0 ∨ l = 1) (hr : r = 0 ∨ r = 1) : xor_ l r = if 0 < l + r then 1 else 0 := by
  rcases hl with a | a <;> rcases hr with b | b <;> subst a <;> subst b <;> decide
theorem xand01 {l r : Int} (hl : l = 0 ∨ l = 1) (hr : r = 0 ∨ r = 1) : xand l r = l * r := by
  rcases hl with a | a <;> rcases hr with b | b <;> subst a <;> subst b <;> decide
/-- a sign of two, and values of its kind -/
def tw2P (k l r : Int) : Prop := (((34 ≤ k ∧ k ≤ 37) ∨ (30 ≤ k ∧ k ≤ 33) ∨ k = 41 ∨ k = 42) ∧ (-1000000 ≤ l ∧ l ≤ 1000000) ∧ (-1000000 ≤ r ∧ r ≤ 1000000)) ∨ ((k = 4 ∨ k = 5) ∧ (l = 0 ∨ l = 1) ∧ (r = 0 ∨ r = 1))
theorem s_209 {X : Int × (Int → Int)} {d : Nat} {Q : Int → XH → Prop} (hd : 3 ≤ d) (k l r : Int) (H : XH) (p : tw2P k l r) (hQ : Q (rkV k l r) H) : xc X d 209 [(0, k), (0, l), (0, r)] H Q := by
  cases d with
  | zero => omega
  | succ d =>
  have m6 : (-1000000 ≤ l ∧ l ≤ 1000000) → (-1000000 ≤ r ∧ r ≤ 1000000) → _ := fun a b => mul_6 (l := l) (r := r) a b
  have lr : (-1000000 ≤ l ∧ l ≤ 1000000) ∧ (-1000000 ≤ r ∧ r ≤ 1000000) := by
    rcases p with ⟨-, a, b⟩ | ⟨-, a, b⟩ <;> omega
  have m6 := m6 lr.1 lr.2
  have c6 := cl6_rng (l * r)
  have e6 : xl2i (cl6 (l * r)) = cl6 (l * r) := xl2i_id (by unfold xI; omega)
  have bo : (k = 4 ∨ k = 5) → xor_ l r = (if 0 < l + r then 1 else 0) ∧ xand l r = l * r := fun q => by
    rcases p with ⟨a, -⟩ | ⟨-, a, b⟩
    · omega
    · exact ⟨xor01 a b, xand01 a b⟩
  have td : ¬ r = 0 → xI (l.tdiv r) := fun q => by
    have := tdiv_6 lr.1 q
    unfold xI
    omega
  have kk : k = 4 ∨ k = 5 ∨ k = 30 ∨ k = 31 ∨ k = 32 ∨ k = 33 ∨ k = 34 ∨ k = 35 ∨ k = 36 ∨ k = 37 ∨ k = 41 ∨ k = 42 := by
    rcases p with ⟨a, -⟩ | ⟨a, -⟩ <;> omega
  clear p
  unfold rkV at hQ
  refine U_209 (by omega) k l r H ?_
  have e7 : max (-1000000) (if 1000000 ≤ l * r then 1000000 else l * r) = cl6 (l * r) := by
    unfold cl6
    generalize l * r = v
    split <;> split <;> (try split) <;> omega
  rw [cl6_if, cl6_if, e7, e6]
  refine ⟨fun c1 => ?_, fun c1 => ?_⟩
  · skip
    first | (exfalso; omega) | (simp (disch := omega) only [if_pos, if_neg] at hQ; first | exact hQ | (rw [(bo (by omega)).1]; exact hQ) | (rw [(bo (by omega)).2]; exact hQ) | (rw [xb_t (by omega)] at hQ; exact hQ) | (rw [xb_f (by omega)] at hQ; exact hQ) | (rw [if_pos (by assumption)] at hQ; exact hQ))
  · skip
    refine ⟨fun c2 => ?_, fun c2 => ?_⟩
    · skip
      first | (exfalso; omega) | (simp (disch := omega) only [if_pos, if_neg] at hQ; first | exact hQ | (rw [(bo (by omega)).1]; exact hQ) | (rw [(bo (by omega)).2]; exact hQ) | (rw [xb_t (by omega)] at hQ; exact hQ) | (rw [xb_f (by omega)] at hQ; exact hQ) | (rw [if_pos (by assumption)] at hQ; exact hQ))
    · skip
      refine ⟨fun c3 => ?_, fun c3 => ?_⟩
      · skip
        first | (exfalso; omega) | (simp (disch := omega) only [if_pos, if_neg] at hQ; first | exact hQ | (rw [(bo (by omega)).1]; exact hQ) | (rw [(bo (by omega)).2]; exact hQ) | (rw [xb_t (by omega)] at hQ; exact hQ) | (rw [xb_f (by omega)] at hQ; exact hQ) | (rw [if_pos (by assumption)] at hQ; exact hQ))
      · skip
        refine ⟨fun c4 => ?_, fun c4 => ?_⟩
        · skip
          first | (exfalso; omega) | (simp (disch := omega) only [if_pos, if_neg] at hQ; first | exact hQ | (rw [(bo (by omega)).1]; exact hQ) | (rw [(bo (by omega)).2]; exact hQ) | (rw [xb_t (by omega)] at hQ; exact hQ) | (rw [xb_f (by omega)] at hQ; exact hQ) | (rw [if_pos (by assumption)] at hQ; exact hQ))
        · skip
          refine ⟨fun c5 => ?_, fun c5 => ?_⟩
          · skip
            first | (exfalso; omega) | (simp (disch := omega) only [if_pos, if_neg] at hQ; first | exact hQ | (rw [(bo (by omega)).1]; exact hQ) | (rw [(bo (by omega)).2]; exact hQ) | (rw [xb_t (by omega)] at hQ; exact hQ) | (rw [xb_f (by omega)] at hQ; exact hQ) | (rw [if_pos (by assumption)] at hQ; exact hQ))
          · skip
            refine ⟨fun c6 => ?_, fun c6 => ?_⟩
            · skip
              first | (exfalso; omega) | (simp (disch := omega) only [if_pos, if_neg] at hQ; first | exact hQ | (rw [(bo (by omega)).1]; exact hQ) | (rw [(bo (by omega)).2]; exact hQ) | (rw [xb_t (by omega)] at hQ; exact hQ) | (rw [xb_f (by omega)] at hQ; exact hQ) | (rw [if_pos (by assumption)] at hQ; exact hQ))
            · skip
              refine ⟨fun c7 => ?_, fun c7 => ?_⟩
              · skip
                first | (exfalso; omega) | (simp (disch := omega) only [if_pos, if_neg] at hQ; first | exact hQ | (rw [(bo (by omega)).1]; exact hQ) | (rw [(bo (by omega)).2]; exact hQ) | (rw [xb_t (by omega)] at hQ; exact hQ) | (rw [xb_f (by omega)] at hQ; exact hQ) | (rw [if_pos (by assumption)] at hQ; exact hQ))
              · skip
                refine ⟨fun c8 => ?_, fun c8 => ?_⟩
                · skip
                  first | (exfalso; omega) | (simp (disch := omega) only [if_pos, if_neg] at hQ; first | exact hQ | (rw [(bo (by omega)).1]; exact hQ) | (rw [(bo (by omega)).2]; exact hQ) | (rw [xb_t (by omega)] at hQ; exact hQ) | (rw [xb_f (by omega)] at hQ; exact hQ) | (rw [if_pos (by assumption)] at hQ; exact hQ))
                · skip
                  refine ⟨fun c9 => ?_, fun c9 => ?_⟩
                  · skip
                    first | (exfalso; omega) | (simp (disch := omega) only [if_pos, if_neg] at hQ; first | exact hQ | (rw [(bo (by omega)).1]; exact hQ) | (rw [(bo (by omega)).2]; exact hQ) | (rw [xb_t (by omega)] at hQ; exact hQ) | (rw [xb_f (by omega)] at hQ; exact hQ) | (rw [if_pos (by assumption)] at hQ; exact hQ))
                  · skip
                    refine ⟨fun c10 => ?_, fun c10 => ?_⟩
                    · skip
                      first | (exfalso; omega) | (simp (disch := omega) only [if_pos, if_neg] at hQ; first | exact hQ | (rw [(bo (by omega)).1]; exact hQ) | (rw [(bo (by omega)).2]; exact hQ) | (rw [xb_t (by omega)] at hQ; exact hQ) | (rw [xb_f (by omega)] at hQ; exact hQ) | (rw [if_pos (by assumption)] at hQ; exact hQ))
                    · skip
                      refine ⟨fun c11 => ?_, fun c11 => ?_⟩
                      · skip
                        first | (exfalso; omega) | (simp (disch := omega) only [if_pos, if_neg] at hQ; first | exact hQ | (rw [(bo (by omega)).1]; exact hQ) | (rw [(bo (by omega)).2]; exact hQ) | (rw [xb_t (by omega)] at hQ; exact hQ) | (rw [xb_f (by omega)] at hQ; exact hQ) | (rw [if_pos (by assumption)] at hQ; exact hQ))
                      · skip
                        refine ⟨fun c12 => ?_, fun c12 => ?_⟩
                        · skip
                          first | (exfalso; omega) | (simp (disch := omega) only [if_pos, if_neg] at hQ; first | exact hQ | (rw [(bo (by omega)).1]; exact hQ) | (rw [(bo (by omega)).2]; exact hQ) | (rw [xb_t (by omega)] at hQ; exact hQ) | (rw [xb_f (by omega)] at hQ; exact hQ) | (rw [if_pos (by assumption)] at hQ; exact hQ))
                        · skip
                          refine ⟨fun c13 => ?_, fun c13 => ?_⟩
                          · skip
                            first | (exfalso; omega) | (simp (disch := omega) only [if_pos, if_neg] at hQ; first | exact hQ | (rw [(bo (by omega)).1]; exact hQ) | (rw [(bo (by omega)).2]; exact hQ) | (rw [xb_t (by omega)] at hQ; exact hQ) | (rw [xb_f (by omega)] at hQ; exact hQ) | (rw [if_pos (by assumption)] at hQ; exact hQ))
                          · skip
                            refine ⟨fun c14 => ?_, fun c14 => ?_⟩
                            · skip
                              first | (exfalso; omega) | (simp (disch := omega) only [if_pos, if_neg] at hQ; first | exact hQ | (rw [(bo (by omega)).1]; exact hQ) | (rw [(bo (by omega)).2]; exact hQ) | (rw [xb_t (by omega)] at hQ; exact hQ) | (rw [xb_f (by omega)] at hQ; exact hQ) | (rw [if_pos (by assumption)] at hQ; exact hQ))
                            · skip
                              refine ⟨fun c15 => ?_, fun c15 => ?_⟩
                              · skip
                                first | (exfalso; omega) | (simp (disch := omega) only [if_pos, if_neg] at hQ; first | exact hQ | (rw [(bo (by omega)).1]; exact hQ) | (rw [(bo (by omega)).2]; exact hQ) | (rw [xb_t (by omega)] at hQ; exact hQ) | (rw [xb_f (by omega)] at hQ; exact hQ) | (rw [if_pos (by assumption)] at hQ; exact hQ))
                              · skip
                                refine ⟨fun c16 => ?_, fun c16 => ?_⟩
                                · skip
                                  first | (exfalso; omega) | (simp (disch := omega) only [if_pos, if_neg] at hQ; first | exact hQ | (rw [(bo (by omega)).1]; exact hQ) | (rw [(bo (by omega)).2]; exact hQ) | (rw [xb_t (by omega)] at hQ; exact hQ) | (rw [xb_f (by omega)] at hQ; exact hQ) | (rw [if_pos (by assumption)] at hQ; exact hQ))
                                · skip
                                  refine ⟨fun c17 => ?_, fun c17 => ?_⟩
                                  · skip
                                    first | (exfalso; omega) | (simp (disch := omega) only [if_pos, if_neg] at hQ; first | exact hQ | (rw [(bo (by omega)).1]; exact hQ) | (rw [(bo (by omega)).2]; exact hQ) | (rw [xb_t (by omega)] at hQ; exact hQ) | (rw [xb_f (by omega)] at hQ; exact hQ) | (rw [if_pos (by assumption)] at hQ; exact hQ))
                                  · skip
                                    refine ⟨fun c18 => ?_, fun c18 => ?_⟩
                                    · skip
                                      first | (exfalso; omega) | (simp (disch := omega) only [if_pos, if_neg] at hQ; first | exact hQ | (rw [(bo (by omega)).1]; exact hQ) | (rw [(bo (by omega)).2]; exact hQ) | (rw [xb_t (by omega)] at hQ; exact hQ) | (rw [xb_f (by omega)] at hQ; exact hQ) | (rw [if_pos (by assumption)] at hQ; exact hQ))
                                    · skip
                                      refine ⟨fun c19 => ?_, fun c19 => ?_⟩
                                      · skip
                                        first | (exfalso; omega) | (simp (disch := omega) only [if_pos, if_neg] at hQ; first | exact hQ | (rw [(bo (by omega)).1]; exact hQ) | (rw [(bo (by omega)).2]; exact hQ) | (rw [xb_t (by omega)] at hQ; exact hQ) | (rw [xb_f (by omega)] at hQ; exact hQ) | (rw [if_pos (by assumption)] at hQ; exact hQ))
                                      · skip
                                        refine ⟨fun c20 => ?_, fun c20 => ?_⟩
                                        · skip
                                          first | (exfalso; omega) | (simp (disch := omega) only [if_pos, if_neg] at hQ; first | exact hQ | (rw [(bo (by omega)).1]; exact hQ) | (rw [(bo (by omega)).2]; exact hQ) | (rw [xb_t (by omega)] at hQ; exact hQ) | (rw [xb_f (by omega)] at hQ; exact hQ) | (rw [if_pos (by assumption)] at hQ; exact hQ))
                                        · skip
                                          refine ⟨fun c21 => ?_, fun c21 => ?_⟩
                                          · skip
                                            first | (exfalso; omega) | (simp (disch := omega) only [if_pos, if_neg] at hQ; first | exact hQ | (rw [(bo (by omega)).1]; exact hQ) | (rw [(bo (by omega)).2]; exact hQ) | (rw [xb_t (by omega)] at hQ; exact hQ) | (rw [xb_f (by omega)] at hQ; exact hQ) | (rw [if_pos (by assumption)] at hQ; exact hQ))
                                          · skip
                                            refine ⟨fun c22 => ?_, fun c22 => ?_⟩
                                            · skip
                                              first | (exfalso; omega) | (simp (disch := omega) only [if_pos, if_neg] at hQ; first | exact hQ | (rw [(bo (by omega)).1]; exact hQ) | (rw [(bo (by omega)).2]; exact hQ) | (rw [xb_t (by omega)] at hQ; exact hQ) | (rw [xb_f (by omega)] at hQ; exact hQ) | (rw [if_pos (by assumption)] at hQ; exact hQ))
                                            · skip
                                              refine ⟨fun c23 => ?_, fun c23 => ?_⟩
                                              · skip
                                                first | (exfalso; omega) | (simp (disch := omega) only [if_pos, if_neg] at hQ; first | exact hQ | (rw [(bo (by omega)).1]; exact hQ) | (rw [(bo (by omega)).2]; exact hQ) | (rw [xb_t (by omega)] at hQ; exact hQ) | (rw [xb_f (by omega)] at hQ; exact hQ) | (rw [if_pos (by assumption)] at hQ; exact hQ))
                                              · skip
                                                refine ⟨fun c24 => ?_, fun c24 => ?_⟩
                                                · skip
                                                  first | (exfalso; omega) | (simp (disch := omega) only [if_pos, if_neg] at hQ; first | exact hQ | (rw [(bo (by omega)).1]; exact hQ) | (rw [(bo (by omega)).2]; exact hQ) | (rw [xb_t (by omega)] at hQ; exact hQ) | (rw [xb_f (by omega)] at hQ; exact hQ) | (rw [if_pos (by assumption)] at hQ; exact hQ))
                                                · skip
                                                  refine ⟨fun c25 => ?_, fun c25 => ?_⟩
                                                  · skip
                                                    first | (exfalso; omega) | (simp (disch := omega) only [if_pos, if_neg] at hQ; first | exact hQ | (rw [(bo (by omega)).1]; exact hQ) | (rw [(bo (by omega)).2]; exact hQ) | (rw [xb_t (by omega)] at hQ; exact hQ) | (rw [xb_f (by omega)] at hQ; exact hQ) | (rw [if_pos (by assumption)] at hQ; exact hQ))
                                                  · skip
                                                    refine ⟨fun c26 => ?_, fun c26 => ?_⟩
                                                    · skip
                                                      first | (exfalso; omega) | (simp (disch := omega) only [if_pos, if_neg] at hQ; first | exact hQ | (rw [(bo (by omega)).1]; exact hQ) | (rw [(bo (by omega)).2]; exact hQ) | (rw [xb_t (by omega)] at hQ; exact hQ) | (rw [xb_f (by omega)] at hQ; exact hQ) | (rw [if_pos (by assumption)] at hQ; exact hQ))
                                                    · skip
                                                      refine ⟨fun c27 => ?_, fun c27 => ?_⟩
                                                      · skip
                                                        refine ⟨fun c28 => ?_, fun c28 => ?_⟩
                                                        · skip
                                                          first | (exfalso; omega) | (simp (disch := omega) only [if_pos, if_neg] at hQ; first | exact hQ | (rw [(bo (by omega)).1]; exact hQ) | (rw [(bo (by omega)).2]; exact hQ) | (rw [xb_t (by omega)] at hQ; exact hQ) | (rw [xb_f (by omega)] at hQ; exact hQ) | (rw [if_pos (by assumption)] at hQ; exact hQ))
                                                        · skip
                                                          first | (exfalso; omega) | (simp (disch := omega) only [if_pos, if_neg] at hQ; first | exact hQ | (rw [(bo (by omega)).1]; exact hQ) | (rw [(bo (by omega)).2]; exact hQ) | (rw [xb_t (by omega)] at hQ; exact hQ) | (rw [xb_f (by omega)] at hQ; exact hQ) | (rw [if_pos (by assumption)] at hQ; exact hQ))
                                                      · skip
                                                        refine ⟨fun c29 => ?_, fun c29 => ?_⟩
                                                        · skip
                                                          refine ⟨fun c30 => ?_, fun c30 => ?_⟩
                                                          · skip
                                                            first | (exfalso; omega) | (simp (disch := omega) only [if_pos, if_neg] at hQ; first | exact hQ | (rw [(bo (by omega)).1]; exact hQ) | (rw [(bo (by omega)).2]; exact hQ) | (rw [xb_t (by omega)] at hQ; exact hQ) | (rw [xb_f (by omega)] at hQ; exact hQ) | (rw [if_pos (by assumption)] at hQ; exact hQ))
                                                          · skip
                                                            first | (exfalso; omega) | (simp (disch := omega) only [if_pos, if_neg] at hQ; first | exact hQ | (rw [(bo (by omega)).1]; exact hQ) | (rw [(bo (by omega)).2]; exact hQ) | (rw [xb_t (by omega)] at hQ; exact hQ) | (rw [xb_f (by omega)] at hQ; exact hQ) | (rw [if_pos (by assumption)] at hQ; exact hQ))
                                                        · skip
                                                          refine ⟨fun c31 => ?_, fun c31 => ?_⟩
                                                          · skip
                                                            refine ⟨fun c32 => ?_, fun c32 => ?_⟩
                                                            · skip
                                                              first | (exfalso; omega) | (simp (disch := omega) only [if_pos, if_neg] at hQ; first | exact hQ | (rw [(bo (by omega)).1]; exact hQ) | (rw [(bo (by omega)).2]; exact hQ) | (rw [xb_t (by omega)] at hQ; exact hQ) | (rw [xb_f (by omega)] at hQ; exact hQ) | (rw [if_pos (by assumption)] at hQ; exact hQ))
                                                            · skip
                                                              first | (exfalso; omega) | (simp (disch := omega) only [if_pos, if_neg] at hQ; first | exact hQ | (rw [(bo (by omega)).1]; exact hQ) | (rw [(bo (by omega)).2]; exact hQ) | (rw [xb_t (by omega)] at hQ; exact hQ) | (rw [xb_f (by omega)] at hQ; exact hQ) | (rw [if_pos (by assumption)] at hQ; exact hQ))
                                                          · skip
                                                            refine ⟨fun c33 => ?_, fun c33 => ?_⟩
                                                            · skip
                                                              refine ⟨fun c34 => ?_, fun c34 => ?_⟩
                                                              · skip
                                                                first | (exfalso; omega) | (simp (disch := omega) only [if_pos, if_neg] at hQ; first | exact hQ | (rw [(bo (by omega)).1]; exact hQ) | (rw [(bo (by omega)).2]; exact hQ) | (rw [xb_t (by omega)] at hQ; exact hQ) | (rw [xb_f (by omega)] at hQ; exact hQ) | (rw [if_pos (by assumption)] at hQ; exact hQ))
                                                              · skip
                                                                first | (exfalso; omega) | (simp (disch := omega) only [if_pos, if_neg] at hQ; first | exact hQ | (rw [(bo (by omega)).1]; exact hQ) | (rw [(bo (by omega)).2]; exact hQ) | (rw [xb_t (by omega)] at hQ; exact hQ) | (rw [xb_f (by omega)] at hQ; exact hQ) | (rw [if_pos (by assumption)] at hQ; exact hQ))
                                                            · skip
                                                              refine ⟨fun c35 => ?_, fun c35 => ?_⟩
                                                              · skip
                                                                refine ⟨?_, ?_⟩
                                                                · first | omega | exact ⟨by assumption, td (by assumption)⟩ | (unfold xJ; omega) | (unfold xI; omega) | (exfalso; omega)
                                                                first | (exfalso; omega) | (simp (disch := omega) only [if_pos, if_neg] at hQ; first | exact hQ | (rw [(bo (by omega)).1]; exact hQ) | (rw [(bo (by omega)).2]; exact hQ) | (rw [xb_t (by omega)] at hQ; exact hQ) | (rw [xb_f (by omega)] at hQ; exact hQ) | (rw [if_pos (by assumption)] at hQ; exact hQ))
                                                              · skip
                                                                refine ⟨fun c36 => ?_, fun c36 => ?_⟩
                                                                · skip
                                                                  refine ⟨?_, ?_⟩
                                                                  · first | omega | exact ⟨by assumption, td (by assumption)⟩ | (unfold xJ; omega) | (unfold xI; omega) | (exfalso; omega)
                                                                  first | (exfalso; omega) | (simp (disch := omega) only [if_pos, if_neg] at hQ; first | exact hQ | (rw [(bo (by omega)).1]; exact hQ) | (rw [(bo (by omega)).2]; exact hQ) | (rw [xb_t (by omega)] at hQ; exact hQ) | (rw [xb_f (by omega)] at hQ; exact hQ) | (rw [if_pos (by assumption)] at hQ; exact hQ))
                                                                · skip
                                                                  refine ⟨fun c37 => ?_, fun c37 => ?_⟩
                                                                  · skip
                                                                    refine ⟨?_, ?_⟩
                                                                    · first | omega | exact ⟨by assumption, td (by assumption)⟩ | (unfold xJ; omega) | (unfold xI; omega) | (exfalso; omega)
                                                                    first | (exfalso; omega) | (simp (disch := omega) only [if_pos, if_neg] at hQ; first | exact hQ | (rw [(bo (by omega)).1]; exact hQ) | (rw [(bo (by omega)).2]; exact hQ) | (rw [xb_t (by omega)] at hQ; exact hQ) | (rw [xb_f (by omega)] at hQ; exact hQ) | (rw [if_pos (by assumption)] at hQ; exact hQ))
                                                                  · skip
                                                                    refine ⟨fun c38 => ?_, fun c38 => ?_⟩
                                                                    · skip
                                                                      refine ⟨fun c39 => ?_, fun c39 => ?_⟩
                                                                      · skip
                                                                        refine ⟨?_, ?_⟩
                                                                        · first | omega | exact ⟨by assumption, td (by assumption)⟩ | (unfold xJ; omega) | (unfold xI; omega) | (exfalso; omega)
                                                                        first | (exfalso; omega) | (simp (disch := omega) only [if_pos, if_neg] at hQ; first | exact hQ | (rw [(bo (by omega)).1]; exact hQ) | (rw [(bo (by omega)).2]; exact hQ) | (rw [xb_t (by omega)] at hQ; exact hQ) | (rw [xb_f (by omega)] at hQ; exact hQ) | (rw [if_pos (by assumption)] at hQ; exact hQ))
                                                                      · skip
                                                                        first | (exfalso; omega) | (simp (disch := omega) only [if_pos, if_neg] at hQ; first | exact hQ | (rw [(bo (by omega)).1]; exact hQ) | (rw [(bo (by omega)).2]; exact hQ) | (rw [xb_t (by omega)] at hQ; exact hQ) | (rw [xb_f (by omega)] at hQ; exact hQ) | (rw [if_pos (by assumption)] at hQ; exact hQ))
                                                                    · skip
                                                                      refine ⟨fun c40 => ?_, fun c40 => ?_⟩
                                                                      · skip
                                                                        first | (exfalso; omega) | (simp (disch := omega) only [if_pos, if_neg] at hQ; first | exact hQ | (rw [(bo (by omega)).1]; exact hQ) | (rw [(bo (by omega)).2]; exact hQ) | (rw [xb_t (by omega)] at hQ; exact hQ) | (rw [xb_f (by omega)] at hQ; exact hQ) | (rw [if_pos (by assumption)] at hQ; exact hQ))
                                                                      · skip
                                                                        refine ⟨fun c41 => ?_, fun c41 => ?_⟩
                                                                        · skip
                                                                          first | (exfalso; omega) | (simp (disch := omega) only [if_pos, if_neg] at hQ; first | exact hQ | (rw [(bo (by omega)).1]; exact hQ) | (rw [(bo (by omega)).2]; exact hQ) | (rw [xb_t (by omega)] at hQ; exact hQ) | (rw [xb_f (by omega)] at hQ; exact hQ) | (rw [if_pos (by assumption)] at hQ; exact hQ))
                                                                        · skip
                                                                          refine ⟨fun c42 => ?_, fun c42 => ?_⟩
                                                                          · skip
                                                                            first | (exfalso; omega) | (simp (disch := omega) only [if_pos, if_neg] at hQ; first | exact hQ | (rw [(bo (by omega)).1]; exact hQ) | (rw [(bo (by omega)).2]; exact hQ) | (rw [xb_t (by omega)] at hQ; exact hQ) | (rw [xb_f (by omega)] at hQ; exact hQ) | (rw [if_pos (by assumption)] at hQ; exact hQ))
                                                                          · skip
                                                                            refine ⟨fun c43 => ?_, fun c43 => ?_⟩
                                                                            · skip
                                                                              refine ⟨fun c44 => ?_, fun c44 => ?_⟩
                                                                              · skip
                                                                                first | (exfalso; omega) | (simp (disch := omega) only [if_pos, if_neg] at hQ; first | exact hQ | (rw [(bo (by omega)).1]; exact hQ) | (rw [(bo (by omega)).2]; exact hQ) | (rw [xb_t (by omega)] at hQ; exact hQ) | (rw [xb_f (by omega)] at hQ; exact hQ) | (rw [if_pos (by assumption)] at hQ; exact hQ))
                                                                              · skip
                                                                                first | (exfalso; omega) | (simp (disch := omega) only [if_pos, if_neg] at hQ; first | exact hQ | (rw [(bo (by omega)).1]; exact hQ) | (rw [(bo (by omega)).2]; exact hQ) | (rw [xb_t (by omega)] at hQ; exact hQ) | (rw [xb_f (by omega)] at hQ; exact hQ) | (rw [if_pos (by assumption)] at hQ; exact hQ))
                                                                            · skip
                                                                              refine ⟨fun c45 => ?_, fun c45 => ?_⟩
                                                                              · skip
                                                                                refine ⟨fun c46 => ?_, fun c46 => ?_⟩
                                                                                · skip
                                                                                  first | (exfalso; omega) | (simp (disch := omega) only [if_pos, if_neg] at hQ; first | exact hQ | (rw [(bo (by omega)).1]; exact hQ) | (rw [(bo (by omega)).2]; exact hQ) | (rw [xb_t (by omega)] at hQ; exact hQ) | (rw [xb_f (by omega)] at hQ; exact hQ) | (rw [if_pos (by assumption)] at hQ; exact hQ))
                                                                                · skip
                                                                                  first | (exfalso; omega) | (simp (disch := omega) only [if_pos, if_neg] at hQ; first | exact hQ | (rw [(bo (by omega)).1]; exact hQ) | (rw [(bo (by omega)).2]; exact hQ) | (rw [xb_t (by omega)] at hQ; exact hQ) | (rw [xb_f (by omega)] at hQ; exact hQ) | (rw [if_pos (by assumption)] at hQ; exact hQ))
                                                                              · skip
                                                                                first | (exfalso; omega) | (simp (disch := omega) only [if_pos, if_neg] at hQ; first | exact hQ | (rw [(bo (by omega)).1]; exact hQ) | (rw [(bo (by omega)).2]; exact hQ) | (rw [xb_t (by omega)] at hQ; exact hQ) | (rw [xb_f (by omega)] at hQ; exact hQ) | (rw [if_pos (by assumption)] at hQ; exact hQ))
