/-! THE PURE LAYER 42: the parsing machine; what code is well said -/
/-- state: 0 an ask, 1 a one, 2 behind a one, 3 behind an ask, 4 a clause, 10 + f a fault; the token; how many are open; frames; what waits; the code; the clauses with where each begins -/
abbrev MS : Type := Int × Int × Int × List (Int × Int) × List (Int × Int) × List Int × List (Int × Int)
def mRk (o : Int) : Int := if o = 4 then 1 else if o = 5 then 2 else if o = 34 ∨ o = 35 then 3 else 4
def mFl (d r : Int) : List (Int × Int) → List Int → List (Int × Int) × List Int
  | [], O => ([], O)
  | p :: W, O => if p.2 = d ∧ r ≤ mRk p.1 then mFl d r W (O ++ [10000 + p.1]) else (p :: W, O)
def mPop (k y : Int) : List (Int × Int) → Int → List Int → List (Int × Int) × Int × List Int
  | [], o, O => ([], o, O)
  | p :: F, o, O => if p.1 = k then mPop k y F (o - 1) (O ++ [y]) else (p :: F, o, O)
def mOne (i o : Int) (F W : List (Int × Int)) (O : List Int) (C : List (Int × Int)) : MS := (2, i, (mPop 7 10043 F o O).2.1, (mPop 7 10043 F o O).1, W, (mPop 7 10043 F o O).2.2, C)
def mErr (f i o : Int) (F W : List (Int × Int)) (O : List Int) (C : List (Int × Int)) : MS := (10 + f, i, o, F, W, O, C)
def mLen (F : List (Int × Int)) : Int := (F.length : Int)
def mTop (F : List (Int × Int)) : Int × Int := F.headD (0, 0)
def mLst (C : List (Int × Int)) : Int × Int := C.getLastD (0, 0)
def mEnd (i o : Int) (F W : List (Int × Int)) (O : List Int) (C : List (Int × Int)) : MS := (4, i + 1, o, [], (mFl (mLen F) 1 W O).1, (mFl (mLen F) 1 W O).2 ++ [10000 + (mLst C).1], C)
noncomputable def mS0 (K : Int → Int) (i o : Int) (F W : List (Int × Int)) (O : List Int) (C : List (Int × Int)) : MS := if K i = 6 then (if o = 8 then mErr 3 i o F W O C else (0, i + 1, o + 1, (3, 0) :: F, W, O, C)) else (1, i, o, (4, 0) :: F, W, O, C)
noncomputable def mS1 (K N : Int → Int) (i o : Int) (F W : List (Int × Int)) (O : List Int) (C : List (Int × Int)) : MS := if K i = 20 then (if 9999 < N i then mErr 2 i o F W O C else mOne (i + 1) o F W (O ++ [N i]) C) else if 7 ≤ K i ∧ K i ≤ 17 then mOne (i + 1) o F W (O ++ [10000 + K i]) C else if K i = 38 then (if o = 8 then mErr 3 i o F W O C else (1, i + 1, o + 1, (6, 0) :: F, W, O, C)) else if K i = 35 then (if o = 8 then mErr 3 i o F W O C else (1, i + 1, o + 1, (7, 0) :: F, W, O, C)) else mErr 1 i o F W O C
noncomputable def mS2 (K : Int → Int) (i o : Int) (F W : List (Int × Int)) (O : List Int) (C : List (Int × Int)) : MS :=
  if 34 ≤ K i ∧ K i ≤ 37 then (1, i + 1, o, F, (K i, mLen F) :: (mFl (mLen F) (mRk (K i)) W O).1, (mFl (mLen F) (mRk (K i)) W O).2, C)
  else if (mTop F).1 = 6 ∧ K i = 39 then mOne (i + 1) (o - 1) F.tail (mFl (mLen F) 3 W O).1 (mFl (mLen F) 3 W O).2 C
  else if (mTop F).1 = 4 ∧ ((30 ≤ K i ∧ K i ≤ 33) ∨ K i = 41 ∨ K i = 42) then (1, i + 1, o, (5, K i) :: F.tail, (mFl (mLen F) 3 W O).1, (mFl (mLen F) 3 W O).2, C)
  else if (mTop F).1 = 5 then (3, i, (mPop 3 10006 F.tail o ((mFl (mLen F) 3 W O).2 ++ [10000 + (mTop F).2])).2.1, (mPop 3 10006 F.tail o ((mFl (mLen F) 3 W O).2 ++ [10000 + (mTop F).2])).1, (mFl (mLen F) 3 W O).1, (mPop 3 10006 F.tail o ((mFl (mLen F) 3 W O).2 ++ [10000 + (mTop F).2])).2.2, C)
  else if (mTop F).1 = 1 ∧ K i = 40 then mEnd i o F W O C
  else mErr 1 i o F W O C
noncomputable def mS3 (K : Int → Int) (i o : Int) (F W : List (Int × Int)) (O : List Int) (C : List (Int × Int)) : MS := if K i = 4 ∨ K i = 5 then (0, i + 1, o, F, (K i, mLen F) :: (mFl (mLen F) (mRk (K i)) W O).1, (mFl (mLen F) (mRk (K i)) W O).2, C) else if (mTop F).1 = 2 ∧ K i = 40 then mEnd i o F W O C else mErr 1 i o F W O C
noncomputable def mS4 (K : Int → Int) (i o : Int) (F W : List (Int × Int)) (O : List Int) (C : List (Int × Int)) : MS :=
  if 0 ≤ K i ∧ K i ≤ 3 then (if K i ≤ 1 ∧ (∃ p ∈ C, p.1 = K i) then mErr 4 i o F W O C else if C.length = 10 then mErr 5 i o F W O C else ((if K i ≤ 1 then 1 else 0), i + 1, o, ((if K i ≤ 1 then 1 else 2), 0) :: F, W, O, C ++ [(K i, (O.length : Int))])) else mErr 1 i o F W O C
noncomputable def mStep (K N : Int → Int) : MS → MS
  | (st, i, o, F, W, O, C) => if st = 0 then mS0 K i o F W O C else if st = 1 then mS1 K N i o F W O C else if st = 2 then mS2 K i o F W O C else if st = 3 then mS3 K i o F W O C else mS4 K i o F W O C
/-- a state from which it goes on, within bounds -/
def mOk (K : Int → Int) (T : Int) : MS → Prop
  | (st, i, o, F, W, O, C) => (0 ≤ st ∧ st ≤ 4) ∧ ¬ (st = 4 ∧ K i = 21) ∧ (0 ≤ i ∧ i ≤ T) ∧ (0 ≤ o ∧ o ≤ 8) ∧ F.length ≤ 20 ∧ W.length ≤ 40 ∧ O.length ≤ 300 ∧ C.length ≤ 10 ∧ (¬ st = 4 → 1 ≤ C.length) ∧ ((st = 4 ∧ F = []) ∨ (¬ F = [] ∧ ((F.getLastD (0, 0)).1 = 1 ∨ (F.getLastD (0, 0)).1 = 2)))
def mGo (K N : Int → Int) (T : Int) : Nat → MS → MS → Prop
  | 0, s, s' => s = s'
  | k + 1, s, s' => mOk K T s ∧ mGo K N T k (mStep K N s) s'
def mR (K N : Int → Int) (T : Int) (s s' : MS) : Prop := ∃ k, mGo K N T k s s'
theorem mR_refl (K N : Int → Int) (T : Int) (s : MS) : mR K N T s s := ⟨0, rfl⟩
theorem mGo_add {K N : Int → Int} {T : Int} : ∀ (k j : Nat) (a b c : MS), mGo K N T k a b → mGo K N T j b c → mGo K N T (k + j) a c
  | 0, j, a, b, c, h, h' => by
    have e : a = b := h
    rw [Nat.zero_add, e]
    exact h'
  | k + 1, j, a, b, c, h, h' => by
    rw [Nat.add_right_comm]
    exact ⟨h.1, mGo_add k j _ b c h.2 h'⟩
theorem mR_trans {K N : Int → Int} {T : Int} {a b c : MS} (h : mR K N T a b) (h' : mR K N T b c) : mR K N T a c := by
  obtain ⟨k, hk⟩ := h
  obtain ⟨j, hj⟩ := h'
  exact ⟨k + j, mGo_add k j a b c hk hj⟩
theorem mR_one {K N : Int → Int} {T : Int} {a b : MS} (h : mOk K T a) (e : mStep K N a = b) : mR K N T a b := ⟨1, h, e⟩
theorem mS_0 (K N : Int → Int) (i o : Int) (F W : List (Int × Int)) (O : List Int) (C : List (Int × Int)) : mStep K N (0, i, o, F, W, O, C) = mS0 K i o F W O C := rfl
theorem mS_1 (K N : Int → Int) (i o : Int) (F W : List (Int × Int)) (O : List Int) (C : List (Int × Int)) : mStep K N (1, i, o, F, W, O, C) = mS1 K N i o F W O C := rfl
theorem mS_2 (K N : Int → Int) (i o : Int) (F W : List (Int × Int)) (O : List Int) (C : List (Int × Int)) : mStep K N (2, i, o, F, W, O, C) = mS2 K i o F W O C := rfl
theorem mS_3 (K N : Int → Int) (i o : Int) (F W : List (Int × Int)) (O : List Int) (C : List (Int × Int)) : mStep K N (3, i, o, F, W, O, C) = mS3 K i o F W O C := rfl
theorem mS_4 (K N : Int → Int) (i o : Int) (F W : List (Int × Int)) (O : List Int) (C : List (Int × Int)) : mStep K N (4, i, o, F, W, O, C) = mS4 K i o F W O C := rfl
theorem mFl_two {d r r' : Int} (h : r ≤ r') : ∀ (W : List (Int × Int)) (O : List Int), mFl d r (mFl d r' W O).1 (mFl d r' W O).2 = mFl d r W O
  | [], _ => rfl
  | p :: W, O => by
    by_cases q : p.2 = d ∧ r' ≤ mRk p.1
    · have e1 : mFl d r' (p :: W) O = mFl d r' W (O ++ [10000 + p.1]) := if_pos q
      have e2 : mFl d r (p :: W) O = mFl d r W (O ++ [10000 + p.1]) := if_pos ⟨q.1, Int.le_trans h q.2⟩
      rw [e1, e2]
      exact mFl_two h W _
    · have e1 : mFl d r' (p :: W) O = (p :: W, O) := if_neg q
      rw [e1]
theorem mFl_no {d r : Int} {W : List (Int × Int)} (O : List Int) (h : ∀ p ∈ W, p.2 < d) : mFl d r W O = (W, O) := by
  cases W with
  | nil => rfl
  | cons p W =>
    have := h p List.mem_cons_self
    exact if_neg (fun q => by omega)
theorem mFl_len {d r : Int} : ∀ (W : List (Int × Int)) (O : List Int), O.length ≤ (mFl d r W O).2.length ∧ (mFl d r W O).2.length + (mFl d r W O).1.length = O.length + W.length
  | [], _ => ⟨Nat.le_refl _, rfl⟩
  | p :: W, O => by
    by_cases q : p.2 = d ∧ r ≤ mRk p.1
    · have e1 : mFl d r (p :: W) O = mFl d r W (O ++ [10000 + p.1]) := if_pos q
      have ih := mFl_len (d := d) (r := r) W (O ++ [10000 + p.1])
      rw [e1]
      simp only [List.length_append, List.length_cons, List.length_nil] at ih ⊢
      omega
    · have e1 : mFl d r (p :: W) O = (p :: W, O) := if_neg q
      rw [e1]
      exact ⟨Nat.le_refl _, rfl⟩
/-- frames of one kind on top are taken off -/
def mRep (k : Int) : Nat → List (Int × Int) → List (Int × Int)
  | 0, F => F
  | m + 1, F => (k, 0) :: mRep k m F
def mYs (y : Int) : Nat → List Int
  | 0 => []
  | m + 1 => y :: mYs y m
theorem mRep_s (k : Int) : ∀ (m : Nat) (F : List (Int × Int)), mRep k m ((k, 0) :: F) = mRep k (m + 1) F
  | 0, _ => rfl
  | m + 1, F => by
    show (k, 0) :: mRep k m ((k, 0) :: F) = (k, 0) :: mRep k (m + 1) F
    rw [mRep_s k m F]
theorem mRep_len (k : Int) : ∀ (m : Nat) (F : List (Int × Int)), (mRep k m F).length = F.length + m
  | 0, _ => rfl
  | m + 1, F => by
    show (mRep k m F).length + 1 = _
    rw [mRep_len k m F]
    omega
theorem mRep_last (k : Int) : ∀ (m : Nat) (F : List (Int × Int)), ¬ F = [] → (mRep k m F).getLastD (0, 0) = F.getLastD (0, 0) ∧ ¬ mRep k m F = []
  | 0, _, h => ⟨rfl, h⟩
  | m + 1, F, h => by
    have ih := mRep_last k m F h
    refine ⟨?_, fun q => by cases q⟩
    show ((k, 0) :: mRep k m F).getLastD (0, 0) = _
    cases hm : mRep k m F with
    | nil => exact absurd hm ih.2
    | cons a b =>
      rw [hm] at ih
      exact ih.1
theorem mYs_len (y : Int) : ∀ m : Nat, (mYs y m).length = m
  | 0 => rfl
  | m + 1 => by
    show (mYs y m).length + 1 = _
    rw [mYs_len y m]
theorem mYs_s (y : Int) : ∀ m : Nat, mYs y m ++ [y] = mYs y (m + 1)
  | 0 => rfl
  | m + 1 => by
    show y :: (mYs y m ++ [y]) = y :: mYs y (m + 1)
    rw [mYs_s y m]
theorem mPop_rep {k y : Int} {F : List (Int × Int)} (hF : ¬ F = []) (ht : ¬ (mTop F).1 = k) : ∀ (m : Nat) (o : Int) (O : List Int), mPop k y (mRep k m F) o O = (F, o - m, O ++ mYs y m)
  | 0, o, O => by
    cases F with
    | nil => exact absurd rfl hF
    | cons p F =>
      have e : mPop k y (p :: F) o O = (p :: F, o, O) := if_neg ht
      show mPop k y (p :: F) o O = _
      rw [e]
      show _ = (p :: F, o - 0, O ++ [])
      rw [List.append_nil, Int.sub_zero]
  | m + 1, o, O => by
    have e : mPop k y (mRep k (m + 1) F) o O = mPop k y (mRep k m F) (o - 1) (O ++ [y]) := if_pos rfl
    rw [e, mPop_rep hF ht m (o - 1) (O ++ [y]), List.append_assoc]
    show (F, o - 1 - (m : Int), O ++ y :: mYs y m) = (F, o - ((m + 1 : Nat) : Int), O ++ y :: mYs y m)
    congr 2
    omega
/-- code that is well said: what it makes of the kinds of values on the pile (true: numbers, false: answers) -/
def tcS (x : Int) (s : List Bool) : Option (List Bool) :=
  if (0 ≤ x ∧ x ≤ 9999) ∨ (10007 ≤ x ∧ x ≤ 10017) then (if s.length < 60 then some (true :: s) else none)
  else match s with
    | true :: r => if x = 10043 then some (true :: r) else (match r with
      | true :: q => if 10034 ≤ x ∧ x ≤ 10037 then some (true :: q) else if (10030 ≤ x ∧ x ≤ 10033) ∨ x = 10041 ∨ x = 10042 then some (false :: q) else none
      | _ => none)
    | false :: r => if x = 10006 then some (false :: r) else (match r with
      | false :: q => if x = 10004 ∨ x = 10005 then some (false :: q) else none
      | _ => none)
    | [] => none
def tcR : List Int → List Bool → Option (List Bool)
  | [], s => some s
  | x :: c, s => (tcS x s).bind (tcR c)
theorem tcR_app : ∀ (a b : List Int) (s : List Bool), tcR (a ++ b) s = (tcR a s).bind (tcR b)
  | [], _, _ => rfl
  | x :: a, b, s => by
    show (tcS x s).bind (tcR (a ++ b)) = ((tcS x s).bind (tcR a)).bind (tcR b)
    cases tcS x s with
    | none => rfl
    | some s' => exact tcR_app a b s'
/-- code of a sum, of an ask, that wants D places -/
def suC (D : Nat) (c : List Int) : Prop := ∀ s : List Bool, s.length + D ≤ 60 → tcR c s = some (true :: s)
def asC (D : Nat) (c : List Int) : Prop := ∀ s : List Bool, s.length + D ≤ 60 → tcR c s = some (false :: s)
theorem suC_le {D D' : Nat} {c : List Int} (h : suC D c) (l : D ≤ D') : suC D' c := fun s q => h s (by omega)
theorem asC_le {D D' : Nat} {c : List Int} (h : asC D c) (l : D ≤ D') : asC D' c := fun s q => h s (by omega)
theorem suC_num {x : Int} (h : (0 ≤ x ∧ x ≤ 9999) ∨ (10007 ≤ x ∧ x ≤ 10017)) : suC 1 [x] := fun s q => by
  show (tcS x s).bind (tcR []) = _
  unfold tcS
  rw [if_pos h, if_pos (by omega)]
  rfl
theorem suC_neg {D : Nat} {c : List Int} (h : suC D c) : suC D (c ++ [10043]) := fun s q => by
  rw [tcR_app, h s q]
  rfl
theorem asC_not {D : Nat} {c : List Int} (h : asC D c) : asC D (c ++ [10006]) := fun s q => by
  rw [tcR_app, h s q]
  rfl
theorem suC_negs {D : Nat} {c : List Int} (h : suC D c) : ∀ m : Nat, suC D (c ++ mYs 10043 m)
  | 0 => by
    show suC D (c ++ [])
    rw [List.append_nil]
    exact h
  | m + 1 => by
    rw [← mYs_s, ← List.append_assoc]
    exact suC_neg (suC_negs h m)
theorem asC_nots {D : Nat} {c : List Int} (h : asC D c) : ∀ m : Nat, asC D (c ++ mYs 10006 m)
  | 0 => by
    show asC D (c ++ [])
    rw [List.append_nil]
    exact h
  | m + 1 => by
    rw [← mYs_s, ← List.append_assoc]
    exact asC_not (asC_nots h m)
theorem tcS_ar {x : Int} {s : List Bool} (h : 10034 ≤ x ∧ x ≤ 10037) : tcS x (true :: true :: s) = some (true :: s) := by
  unfold tcS
  rw [if_neg (by omega)]
  dsimp only
  rw [if_neg (by omega), if_pos h]
theorem tcS_cm {x : Int} {s : List Bool} (h : (10030 ≤ x ∧ x ≤ 10033) ∨ x = 10041 ∨ x = 10042) : tcS x (true :: true :: s) = some (false :: s) := by
  unfold tcS
  rw [if_neg (by omega)]
  dsimp only
  rw [if_neg (by omega), if_neg (by omega), if_pos h]
theorem tcS_bo {x : Int} {s : List Bool} (h : x = 10004 ∨ x = 10005) : tcS x (false :: false :: s) = some (false :: s) := by
  unfold tcS
  rw [if_neg (by omega)]
  dsimp only
  rw [if_neg (by omega), if_pos h]
theorem suC_ar {D : Nat} {a b : List Int} {x : Int} (ha : suC (D + 1) a) (hb : suC D b) (h : 10034 ≤ x ∧ x ≤ 10037) : suC (D + 1) (a ++ (b ++ [x])) := fun s q => by
  rw [tcR_app, ha s q]
  show tcR (b ++ [x]) (true :: s) = _
  rw [tcR_app, hb (true :: s) (by simp only [List.length_cons]; omega)]
  show (tcS x (true :: true :: s)).bind (tcR []) = _
  rw [tcS_ar h]
  rfl
theorem asC_cm {D : Nat} {a b : List Int} {x : Int} (ha : suC (D + 1) a) (hb : suC D b) (h : (10030 ≤ x ∧ x ≤ 10033) ∨ x = 10041 ∨ x = 10042) : asC (D + 1) (a ++ (b ++ [x])) := fun s q => by
  rw [tcR_app, ha s q]
  show tcR (b ++ [x]) (true :: s) = _
  rw [tcR_app, hb (true :: s) (by simp only [List.length_cons]; omega)]
  show (tcS x (true :: true :: s)).bind (tcR []) = _
  rw [tcS_cm h]
  rfl
theorem asC_bo {D : Nat} {a b : List Int} {x : Int} (ha : asC (D + 1) a) (hb : asC D b) (h : x = 10004 ∨ x = 10005) : asC (D + 1) (a ++ (b ++ [x])) := fun s q => by
  rw [tcR_app, ha s q]
  show tcR (b ++ [x]) (false :: s) = _
  rw [tcR_app, hb (false :: s) (by simp only [List.length_cons]; omega)]
  show (tcS x (false :: false :: s)).bind (tcR []) = _
  rw [tcS_bo h]
  rfl
