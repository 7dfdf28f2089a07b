/-! SOUNDNESS 2: what the X machine's values and cells are on the real one -/
/-- addresses: of the cells, of the texts and their bytes, of the script; the word that no one reads -/
abbrev XA : Type := (Nat → Nat) × (Nat → Nat) × (Nat → Nat) × Nat × Value
def xrf (ad : Nat → Nat) (x : Int) : Value := match x with
  | .ofNat n => .ref (ad n)
  | .negSucc _ => .null
def xv (Z : XA) (v : XV) : Value := match v.1 with
  | 0 => .int (Int32.ofInt v.2)
  | 1 => .long (Int64.ofInt v.2)
  | 2 => xrf Z.1 v.2
  | 3 => .ref (Z.2.1 v.2.toNat)
  | 4 => .ref Z.2.2.2.1
  | 5 => .ref (Z.2.2.1 v.2.toNat)
  | _ => Z.2.2.2.2
def xfv (ad : Nat → Nat) (ty : Nat) (r x : Int) : Value := match ty with
  | 2 => xrf ad r
  | 3 => xrf ad x
  | _ => .int (Int32.ofInt x)
def xce (dA : Nat → ClassId) (ad : Nat → Nat) (kd : XK) (h : Int → Int) : va_E := match kd.1 with
  | 0 => .inr (kd.2.1, (List.range (xTT.getD kd.2.1 []).length).map fun k => xfv ad (xsl xTT kd.2.1 k) (kd.2.2.getD k (-1)) (h k))
  | 2 => .inl (dA 2, kd.2.1, .inr (.inl fun j => Int64.ofInt (h j)))
  | t => .inl (dA t, kd.2.1, .inl fun j => Int32.ofInt (h j))
def xws (dA : Nat → ClassId) (ad : Nat → Nat) (K : List XK) (H : XH) : va_W := (List.range K.length).map fun i => (ad i, xce dA ad (K.getD i (9, 0, [])) (H i))
theorem xws_get {dA : Nat → ClassId} {ad : Nat → Nat} {K : List XK} {H : XH} {i : Nat} (h : i < K.length) : (xws dA ad K H)[i]? = some (ad i, xce dA ad (K.getD i (9, 0, [])) (H i)) := by
  unfold xws
  rw [List.getElem?_map, List.getElem?_range h]
  rfl
theorem xws_len {dA : Nat → ClassId} {ad : Nat → Nat} {K : List XK} {H : XH} : (xws dA ad K H).length = K.length := by simp [xws]
theorem xws_ext {dA : Nat → ClassId} {ad : Nat → Nat} {K : List XK} {H : XH} {w : va_W} (hl : w.length = K.length) (h : ∀ i, i < K.length → w[i]? = some (ad i, xce dA ad (K.getD i (9, 0, [])) (H i))) : w = xws dA ad K H := by
  apply List.ext_getElem?
  intro i
  by_cases hi : i < K.length
  · rw [h i hi, xws_get hi]
  · rw [List.getElem?_eq_none (by omega), List.getElem?_eq_none (by rw [xws_len]; omega)]
/-- one cell set -/
theorem xws_set {dA : Nat → ClassId} {ad : Nat → Nat} {K K' : List XK} {H H' : XH} {i : Nat} {e : va_E} (hl : K'.length = K.length) (he : e = xce dA ad (K'.getD i (9, 0, [])) (H' i)) (h : ∀ j, j < K.length → j ≠ i → xce dA ad (K'.getD j (9, 0, [])) (H' j) = xce dA ad (K.getD j (9, 0, [])) (H j)) : (xws dA ad K H).set i (ad i, e) = xws dA ad K' H' := by
  apply xws_ext
  · rw [List.length_set, xws_len, hl]
  · intro j hj
    by_cases hji : j = i
    · subst hji
      rw [List.getElem?_set_self (by rw [xws_len]; omega), he]
    · rw [List.getElem?_set_ne (Ne.symm hji), xws_get (by omega), h j (by omega) hji]
/-- what is held is within its type -/
def xokv (n : Int) (v : XV) : Prop := (v.1 = 0 → xI v.2) ∧ (v.1 = 1 → xJ v.2) ∧ (v.1 = 2 → v.2 < n) ∧ (v.1 = 3 ∨ v.1 = 5 → v.2.toNat < 2)
def xokc (n : Int) (kd : XK) (h : Int → Int) : Prop := match kd.1 with
  | 0 => kd.2.1 < 13 ∧ (∀ r ∈ kd.2.2, r < n) ∧ (kd.2.2.length = (xTT.getD kd.2.1 []).length) ∧ ∀ k : Nat, k < (xTT.getD kd.2.1 []).length → (xsl xTT kd.2.1 k = 0 → xI (h k)) ∧ (xsl xTT kd.2.1 k = 1 → 0 ≤ h k ∧ h k ≤ 1) ∧ (xsl xTT kd.2.1 k = 3 → h k < n)
  | 1 => kd.2.1 ≤ 100000 ∧ ∀ j : Nat, j < kd.2.1 → xI (h j)
  | 2 => kd.2.1 ≤ 100000 ∧ ∀ j : Nat, j < kd.2.1 → xJ (h j)
  | 3 => kd.2.1 ≤ 100000 ∧ ∀ j : Nat, j < kd.2.1 → -128 ≤ h j ∧ h j ≤ 127
  | 4 => kd.2.1 ≤ 100000 ∧ ∀ j : Nat, j < kd.2.1 → 0 ≤ h j ∧ h j ≤ 1
  | 5 => kd.2.1 ≤ 100000 ∧ ∀ j : Nat, j < kd.2.1 → 0 ≤ h j ∧ h j ≤ 65535
  | _ => False
def xokh (K : List XK) (H : XH) : Prop := ∀ i : Nat, i < K.length → xokc K.length (K.getD i (9, 0, [])) (H i)
def xags (n : Nat) (ad ad' : Nat → Nat) : Prop := ∀ i, i < n → ad' i = ad i
theorem xrf_ag {n : Nat} {ad ad' : Nat → Nat} (h : xags n ad ad') {x : Int} (hx : x < n) : xrf ad' x = xrf ad x := by
  cases x with
  | ofNat k => show Value.ref _ = Value.ref _; rw [h k (by simpa using hx)]
  | negSucc k => rfl
theorem xce_ag {n : Nat} {dA : Nat → ClassId} {ad ad' : Nat → Nat} (h : xags n ad ad') {kd : XK} {f : Int → Int} (hk : xokc n kd f) : xce dA ad' kd f = xce dA ad kd f := by
  obtain ⟨t, m, rs⟩ := kd
  unfold xce
  match t, hk with
  | 0, hk =>
    obtain ⟨-, h1, h2, h3⟩ := hk
    refine congrArg (fun l => (Sum.inr (m, l) : va_E)) (List.map_congr_left ?_)
    intro k hkm
    have hk := List.mem_range.mp hkm
    unfold xfv
    split
    · apply xrf_ag h
      rw [List.getD_eq_getElem?_getD, List.getElem?_eq_getElem (by rw [h2]; exact hk)]
      exact h1 _ (List.getElem_mem _)
    · next e => exact xrf_ag h ((h3 k hk).2.2 e)
    · rfl
  | 1, _ => rfl
  | 2, _ => rfl
  | 3, _ => rfl
  | 4, _ => rfl
  | 5, _ => rfl
theorem xokc_mono {n n' : Int} (h : n ≤ n') {kd : XK} {f : Int → Int} (hk : xokc n kd f) : xokc n' kd f := by
  obtain ⟨t, m, rs⟩ := kd
  match t, hk with
  | 0, hk => exact ⟨hk.1, fun r hr => Int.lt_of_lt_of_le (hk.2.1 r hr) h, hk.2.2.1, fun k q => ⟨(hk.2.2.2 k q).1, (hk.2.2.2 k q).2.1, fun e => Int.lt_of_lt_of_le ((hk.2.2.2 k q).2.2 e) h⟩⟩
  | 1, hk => exact hk
  | 2, hk => exact hk
  | 3, hk => exact hk
  | 4, hk => exact hk
  | 5, hk => exact hk
theorem xokv_mono {n n' : Int} (h : n ≤ n') {v : XV} (hv : xokv n v) : xokv n' v := ⟨hv.1, hv.2.1, fun e => Int.lt_of_lt_of_le (hv.2.2.1 e) h, hv.2.2.2⟩
theorem xv_ag {n : Nat} {ad ad' : Nat → Nat} {z : (Nat → Nat) × (Nat → Nat) × Nat × Value} (h : xags n ad ad') {v : XV} (hv : xokv n v) : xv (ad', z) v = xv (ad, z) v := by
  obtain ⟨t, x⟩ := v
  unfold xv
  match t, hv with
  | 0, _ => rfl
  | 1, _ => rfl
  | 2, hv => exact xrf_ag h (hv.2.2.1 rfl)
  | 3, _ => rfl
  | 4, _ => rfl
  | 5, _ => rfl
  | t + 6, _ => rfl
/-- a new cell -/
theorem xws_push {dA : Nat → ClassId} {ad : Nat → Nat} {K : List XK} {H H' : XH} {kd : XK} {q : Nat} (hok : xokh K H) (hH : ∀ i : Nat, i < K.length → H' i = H i) {e : va_E} (he : e = xce dA (fun j => if j = K.length then q else ad j) kd (H' K.length)) :
    xws dA ad K H ++ [(q, e)] = xws dA (fun j => if j = K.length then q else ad j) (K ++ [kd]) H' := by
  have hag : xags K.length ad (fun j => if j = K.length then q else ad j) := fun i hi => if_neg (by omega)
  apply xws_ext
  · simp [xws_len]
  · intro i hi
    rw [List.length_append, List.length_singleton] at hi
    by_cases hl : i < K.length
    · rw [List.getElem?_append_left (by rw [xws_len]; exact hl), xws_get hl]
      have e1 : (K ++ [kd]).getD i (9, 0, []) = K.getD i (9, 0, []) := by
        rw [List.getD_eq_getElem?_getD, List.getElem?_append_left hl, ← List.getD_eq_getElem?_getD]
      rw [e1, if_neg (by omega), hH i hl, xce_ag hag (hok i hl)]
    · have hi2 : i = K.length := by omega
      subst hi2
      rw [List.getElem?_append_right (by rw [xws_len]; omega), xws_len, Nat.sub_self, if_pos rfl, he]
      have e1 : (K ++ [kd]).getD K.length (9, 0, []) = kd := by simp [List.getD_eq_getElem?_getD]
      rw [e1]
      rfl
/-- the arrays' classes -/
abbrev xtys (dA : Nat → ClassId) : List (ClassId × FieldType) := [(dA 1, .int), (dA 2, .long), (dA 3, .byte), (dA 4, .boolean), (dA 5, .char)]
def wsG : List Jvm.Cond := lw_tbl.filter goodWord
def xnest : List Jvm.Cond := lw_tbl.filter fun w => match w with
  | .methodLinkNest .. => true
  | _ => false
def xbyt (i : Nat) : List Int32 := (xSL.getD i []).map Int32.ofInt
/-- facts of a state that a method begins with: b is not among A; what is not in A stays -/
def XF (D : va_G) (dA : Nat → ClassId) (z : (Nat → Nat) × (Nat → Nat) × Nat × Value) (X : Int × (Int → Int)) (A : Nat → Prop) (U : State) (H : Heap) : Prop :=
  va_K D vwCl (xtys dA) U ∧ (∀ w ∈ xnest, va_Nw w U) ∧ (va_X z.2.2.1 X.1.toNat (fun j => Int32.ofInt (X.2 j)) U H ∧ z.2.2.1 < H.size ∧ ¬ A z.2.2.1) ∧
  (vk_S 2 [87, 11] [xbyt 0, xbyt 1] z.1 z.2.1 A U H ∧ vk_R "MudBoot$Laws" 108 "take lose new falls or and not wet hour red grey chalk sand wing layers mass far steps " (z.1 0) U ∧ vk_R "MudBoot$Laws" 101 "<>=#+-*/();" (z.1 1) U) ∧
  (va_Z "java/lang/String" "COMPACT_STRINGS" "Z" (.int 1) A U H ∧ va_Z "jdk/internal/util/Preconditions" "SIOOBE_FORMATTER" "Ljava/util/function/BiFunction;" z.2.2.2 A U H ∧ z.2.2.2.category = 1)
theorem XF.to {D : va_G} {dA : Nat → ClassId} {z : (Nat → Nat) × (Nat → Nat) × Nat × Value} {X : Int × (Int → Int)} {A B : Nat → Prop} {u U : State} {H H1 : Heap} (h : XF D dA z X A u H) (hal : u.vm.Alike U.vm) (hn : (∀ w ∈ xnest, va_Nw w u) → ∀ w ∈ xnest, va_Nw w U) (hR : ∀ own k tx a, vk_R own k tx a u → vk_R own k tx a U) (hsz : H.size ≤ H1.size) (hk : ∀ q : Nat, q < H.size → ¬ A q → H1[q]? = H[q]?) (hAB : ∀ q, B q → A q) : XF D dA z X B U H1 := by
  obtain ⟨h1, h2, ⟨h3, h4, h5⟩, ⟨h6, h7, h8⟩, h9, h10, h11⟩ := h
  exact ⟨h1.moved hal, hn h2, ⟨(h3.kept (hk _ h4 h5)).moved hal, Nat.lt_of_lt_of_le h4 hsz, fun q => h5 (hAB _ q)⟩, ⟨((h6.kept hk).moved hal).narrow hAB, hR _ _ _ _ h7, hR _ _ _ _ h8⟩, ((h9.kept hk).moved hal).narrow hAB, ((h10.kept hk).moved hal).narrow hAB, h11⟩
theorem xnest_w : ∀ w ∈ xnest, ∃ a i y h, w = Jvm.Cond.methodLinkNest a i y h := by
  intro w hw
  have := (List.mem_filter.mp hw).2
  cases w <;> first | exact ⟨_, _, _, _, rfl⟩ | cases this
theorem xnest_warm {s U : State} (hW : s.WarmedH U.vm) (h : ∀ w ∈ xnest, va_Nw w s) : ∀ w ∈ xnest, va_Nw w U := by
  intro w hw
  obtain ⟨a, i, y, hh, rfl⟩ := xnest_w w hw
  exact va_Nw.warmM hW (h _ hw)
theorem xnest_same {u U : State} (hv : u.vm = U.vm) (h : ∀ w ∈ xnest, va_Nw w u) : ∀ w ∈ xnest, va_Nw w U := by
  intro w hw
  obtain ⟨a, i, y, hh, rfl⟩ := xnest_w w hw
  exact va_Nw.same rfl hv (h _ hw)
/-- the values that locals hold -/
abbrev xls (Z : XA) (L : XL) : List (Nat × Value) := L.map fun q => (q.1, xv Z q.2)
theorem xv_cat {Z : XA} (hz : Z.2.2.2.2.category = 1) (v : XV) : (xv Z v).category = xcat v := by
  obtain ⟨t, x⟩ := v
  match t with
  | 0 => rfl
  | 1 => rfl
  | 2 => cases x <;> rfl
  | 3 => rfl
  | 4 => rfl
  | 5 => rfl
  | t + 6 => exact hz
theorem xcat_beq (v : XV) : (xcat v == 2) = (v.1 == 1) := by
  obtain ⟨t, x⟩ := v
  unfold xcat
  match t with
  | 0 => rfl
  | 1 => rfl
  | t + 2 => rfl
theorem xset1_ls {Z : XA} (hz : Z.2.2.2.2.category = 1) (L : XL) (i : Nat) (v : XV) : (i, xv Z v) :: (xls Z L).filter (fun q => !(q.1 == i) && !(q.1 + 1 == i && q.2.category == 2)) = xls Z (xset1 L i v) := by
  unfold xset1 xls
  rw [List.map_cons, List.filter_map]
  congr 2
  apply List.filter_congr
  intro q _
  simp only [Function.comp, xv_cat hz, xcat_beq]
theorem xset2_ls {Z : XA} (hz : Z.2.2.2.2.category = 1) (L : XL) (i : Nat) (v : XV) : (i, xv Z v) :: (xls Z L).filter (fun q => !(q.1 == i) && (!(q.1 == i + 1) && !(q.1 + 1 == i && q.2.category == 2))) = xls Z (xset2 L i v) := by
  unfold xset2 xls
  rw [List.map_cons, List.filter_map]
  congr 2
  apply List.filter_congr
  intro q _
  simp only [Function.comp, xv_cat hz, xcat_beq]
theorem xget_mem {L : XL} {k : Nat} (h : (xget L k).1 ≤ 8) : (k, xget L k) ∈ L := by
  induction L with
  | nil => simp [xget] at h
  | cons q l ih =>
    obtain ⟨j, v⟩ := q
    unfold xget at h ⊢
    by_cases hj : j = k
    · subst hj
      simp
    · have hb : Nat.beq j k = false := Bool.eq_false_iff.mpr (fun h => hj (Nat.eq_of_beq_eq_true h))
      rw [hb] at h ⊢
      exact List.mem_cons_of_mem _ (ih h)
theorem xkeep_mem {L : XL} : ∀ (l : List (Int × Nat)), ∀ q ∈ xkeep L l, q ∈ L
  | [], q, h => by cases h
  | (_, k) :: l, q, h => by
    unfold xkeep at h
    cases hb : Nat.ble (xget L k).1 8 with
    | true =>
      rw [hb] at h
      rcases List.mem_cons.mp h with h | h
      · rw [h]; exact xget_mem (Nat.le_of_ble_eq_true hb)
      · exact xkeep_mem l q h
    | false => rw [hb] at h; exact xkeep_mem l q h
theorem xls_at {Z : XA} {ls : Array Slot} {nL : Nat} {L : XL} (h : lv_has ls nL (xls Z L)) {k : Nat} (hk : (xget L k).1 ≤ 8) : ls[k]? = some (.val (xv Z (xget L k))) :=
  h.2.2 (k, xv Z (xget L k)) (List.mem_map.mpr ⟨(k, xget L k), xget_mem hk, rfl⟩)
