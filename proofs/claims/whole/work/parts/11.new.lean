/-! SOUNDNESS 7: lengths, new cells, copies, texts -/
theorem xzr_ne {H : XH} {o o' : Int} (h : ¬ o' = o) : xzr H o o' = H o' := by
  funext i
  unfold xzr
  rw [if_neg h]
theorem xzr_eq (H : XH) (o : Int) : xzr H o o = fun _ => 0 := by
  funext i
  unfold xzr
  rw [if_pos rfl]
theorem xzo_ne {t : List Nat} {H : XH} {o o' : Int} (h : ¬ o' = o) : xzo t H o o' = H o' := by
  funext i
  unfold xzo
  rw [if_neg h]
theorem xzo_eq (t : List Nat) (H : XH) (o : Int) (k : Nat) : xzo t H o o k = bif Nat.beq (t.getD k 9) 3 then -1 else 0 := by
  unfold xzo
  rw [if_pos rfl]
  rfl
theorem xokh_push {K : List XK} {H H' : XH} {kd : XK} (hok : xokh K H) (hH : ∀ i : Nat, i < K.length → H' i = H i) (hk : xokc ((K.length : Int) + 1) kd (H' K.length)) : xokh (K ++ [kd]) H' := by
  intro i hi
  rw [List.length_append, List.length_singleton] at hi ⊢
  by_cases hl : i < K.length
  · have e1 : (K ++ [kd]).getD i (9, 0, []) = K.getD i (9, 0, []) := by
      rw [List.getD_eq_getElem?_getD, List.getElem?_append_left hl, ← List.getD_eq_getElem?_getD]
    rw [e1, hH i hl]
    exact xokc_mono (by omega) (hok i hl)
  · have hi2 : i = K.length := by omega
    subst hi2
    have e1 : (K ++ [kd]).getD K.length (9, 0, []) = kd := by simp [List.getD_eq_getElem?_getD]
    rw [e1]
    exact hk
section XS
variable {p : Program} {l : Launch} {e : Env} {R : Room} {s : State} {m : MethodId} {args : Array Value} {below : List Frame} {meth : Method} {c : Code} {Z : State → Prop}
variable {cc : ByteArray} {nL : Nat} {N0 : Nat × (Nat → Nat)} {D : va_G} {dA : Nat → ClassId} {z : (Nat → Nat) × (Nat → Nat) × Nat × Value} {A : Nat → Prop} {C : XC} {Q : XQ} {X : Int × (Int → Int)}
/-- what is held stays held when a cell comes -/
theorem xls_ag {n : Nat} {ad ad' : Nat → Nat} (h : xags n ad ad') {L : XL} (hL : ∀ q ∈ L, xokv n q.2) : xls (ad', z) L = xls (ad, z) L := List.map_congr_left fun q hq => by rw [xv_ag h (hL q hq)]
theorem xst_ag {n : Nat} {ad ad' : Nat → Nat} (h : xags n ad ad') {S : List XV} (hS : ∀ v ∈ S, xokv n v) : S.map (xv (ad', z)) = S.map (xv (ad, z)) := List.map_congr_left fun v hv => xv_ag h (hS v hv)
theorem xs_alen (hx : p.tables.exec = Jvm.exec) (hb : c.code = cc) {pc n : Nat} {L : XL} {S : List XV} {K : XW} {H : XH} (hpc : xrp pc = pc) (hK : va_K D vwCl (xtys dA) s) (hX : va_X z.2.2.1 X.1.toNat (fun j => Int32.ofInt (X.2 j)) s s.heap ∧ z.2.2.1 < s.heap.size ∧ ¬ A z.2.2.1) (hX1 : 0 ≤ X.1 ∧ X.1 ≤ 100000) (hT : ∀ k : Nat, k < 2 → va_T .byte (z.2.1 k) (xSL.getD k []).length (fun j => .int ((xbyt k).getD j 0)) A s s.heap) (hd : decode cc pc = .ok (.arraylength, 1)) (hn : xrp n = pc + 1)
    (h : xres C (XPP p l e R s m args below meth c Z nL N0 D dA z A) Q (xalen xSL n X L S K H)) : XPP p l e R s m args below meth c Z nL N0 D dA z A (pc, L, S, K, H) := by
  match S, h with
  | [], h => exact h.elim
  | (v, a) :: r, h0 =>
  unfold xalen at h0
  dsimp only at h0
  cases hv : Nat.beq v 2 with
  | true =>
    rw [hv] at h0
    obtain ⟨h1, h2⟩ := h0
    cases Nat.eq_of_beq_eq_true hv
    refine XPP.inn hpc fun ad ls Hp locs cells slots hr => ?_
    obtain ⟨ha, hr2⟩ := xok_1 hr.2.2.1
    obtain ⟨j, mm, rs, rfl, hj, hkd, hlen⟩ := xty_inv rfl (show xTy K a < 9 by omega)
    have hws := xws_get (dA := dA) (ad := ad) (H := H) hj
    have okk := hr.2.2.2.1 j hj
    rw [hkd] at hws okk
    have h11 := h1.1
    have h12 := h1.2
    rw [hlen] at h2
    generalize xTy K (j : Int) = t at h11 h12 hws okk
    match t, h11, h12, hws, okk with
    | 1, _, _, hws, okk =>
      refine va_alen hx hb hK hr.2.2.2.2.1 j 0 hws rfl (v := Int32.ofInt mm) Int32.ofInt_eq_ofNat.symm hd ?_
      exact XPP.go h2 hn (hr.st (xok_cons (xok_i (by have := okk.1; unfold xI; dsimp only at this; omega)) hr2))
    | 2, _, _, hws, okk =>
      refine va_alen hx hb hK hr.2.2.2.2.1 j 1 hws rfl (v := Int32.ofInt mm) Int32.ofInt_eq_ofNat.symm hd ?_
      exact XPP.go h2 hn (hr.st (xok_cons (xok_i (by have := okk.1; unfold xI; dsimp only at this; omega)) hr2))
    | 3, _, _, hws, okk =>
      refine va_alen hx hb hK hr.2.2.2.2.1 j 2 hws rfl (v := Int32.ofInt mm) Int32.ofInt_eq_ofNat.symm hd ?_
      exact XPP.go h2 hn (hr.st (xok_cons (xok_i (by have := okk.1; unfold xI; dsimp only at this; omega)) hr2))
    | 4, _, _, hws, okk =>
      refine va_alen hx hb hK hr.2.2.2.2.1 j 3 hws rfl (v := Int32.ofInt mm) Int32.ofInt_eq_ofNat.symm hd ?_
      exact XPP.go h2 hn (hr.st (xok_cons (xok_i (by have := okk.1; unfold xI; dsimp only at this; omega)) hr2))
    | 5, _, _, hws, okk =>
      refine va_alen hx hb hK hr.2.2.2.2.1 j 4 hws rfl (v := Int32.ofInt mm) Int32.ofInt_eq_ofNat.symm hd ?_
      exact XPP.go h2 hn (hr.st (xok_cons (xok_i (by have := okk.1; unfold xI; dsimp only at this; omega)) hr2))
  | false =>
    rw [hv] at h0
    cases hv4 : Nat.beq v 4 with
    | true =>
      rw [hv4] at h0
      cases Nat.eq_of_beq_eq_true hv4
      refine XPP.inn hpc fun ad ls Hp locs cells slots hr => ?_
      obtain ⟨ha, hr2⟩ := xok_1 hr.2.2.1
      refine va_slen hx hb hX.1 hX.2.1 hX.2.2 hr.2.2.2.2.2.2.1 hd ?_
      have k := XPP.go h0 hn (hr.st (xok_cons (xok_i (by unfold xI; omega)) hr2))
      rw [← Int32.ofInt_eq_ofNat, show ((X.1.toNat : Nat) : Int) = X.1 by omega]
      exact k
    | false =>
      rw [hv4] at h0
      cases hv5 : Nat.beq v 5 with
      | false => rw [hv5] at h0; exact h0.elim
      | true =>
      rw [hv5] at h0
      cases Nat.eq_of_beq_eq_true hv5
      refine XPP.inn hpc fun ad ls Hp locs cells slots hr => ?_
      obtain ⟨ha, hr2⟩ := xok_1 hr.2.2.1
      have hk2 := ha.2.2.2 (Or.inr rfl)
      dsimp only at hk2
      have hsm : ∀ k, k < 2 → (xSL.getD k []).length < 100 := by decide +kernel
      refine va_tlen hx hb (hT a.toNat hk2) hr.2.2.2.2.2.2.1 Int32.ofInt_eq_ofNat.symm hd ?_
      exact XPP.go h0 hn (hr.st (xok_cons (xok_i (by have := hsm _ hk2; unfold xI; omega)) hr2))
/-- new T[n] -/
theorem xs_newa (hx : p.tables.exec = Jvm.exec) (hb : c.code = cc) {pc n : Nat} {L : XL} {S : List XV} {K : XW} {H : XH} (hpc : xrp pc = pc) (hA : ∀ q, s.heap.size ≤ q → A q) {t : Nat} {at' : ArrayType} (harr : (Cond.arrayClass (newarray.typeOf at')).before args s = true) (hat : (t = 1 ∧ at' = .int) ∨ (t = 2 ∧ at' = .long) ∨ (t = 3 ∧ at' = .byte) ∨ (t = 4 ∧ at' = .boolean) ∨ (t = 5 ∧ at' = .char)) (hK : va_K D vwCl (xtys dA) s) (hd : decode cc pc = .ok (.newarray at', 2)) (hn : xrp n = pc + 2)
    (h : xres C (XPP p l e R s m args below meth c Z nL N0 D dA z A) Q (xnewa t n L S K H)) : XPP p l e R s m args below meth c Z nL N0 D dA z A (pc, L, S, K, H) := by
  obtain ⟨x, r, rfl, h1, h2⟩ := xu1_inv h
  refine XPP.inn hpc fun ad ls Hp locs cells slots hr => ?_
  obtain ⟨hx0, hr2⟩ := xok_1 hr.2.2.1
  have hxI := hx0.1 rfl
  dsimp only at hxI
  obtain ⟨h0, h5, hc1, hs1⟩ := h1
  have hcl := xw_clamp h0 hxI
  obtain ⟨ok0, ok1, ok2, ok3, hP, hD, hS, hcc, hss, hg0, hn0⟩ := hr
  have hq1 : cells + 1 ≤ R.cells := by omega
  have hq2 : slots + x.toNat ≤ R.slots := by omega
  -- the cell, by its kind
  have main : ∀ (kk : ∀ (q : Nat) (H1 : Heap), va_P D vwCl (xws dA ad K.1 H ++ [(q, xce dA (fun j => if j = K.1.length then q else ad j) (t, x.toNat, []) (fun _ => 0))]) H1 → va_D A (xws dA ad K.1 H ++ [(q, xce dA (fun j => if j = K.1.length then q else ad j) (t, x.toNat, []) (fun _ => 0))]) → va_S A s.heap H1 locs → W p l e R s m args below meth c H1 locs (cells + 1) (slots + x.toNat) Z (F0 m (pc + 2) ls (.ref q :: r.map (xv (ad, z))))), W p l e R s m args below meth c Hp locs cells slots Z (F0 m pc ls (.int (Int32.ofInt x) :: r.map (xv (ad, z)))) := by
    intro kk
    have hids : ∀ (ty : FieldType) (cA : ClassId) (k : Nat), (xtys dA)[k]? = some (dA (k + 1), ty) → (ty = .int ∨ ty = .long ∨ ty = .byte ∨ ty = .boolean ∨ ty = .char) → s.vm.findClass ("[" ++ ty.toString) = some cA → cA = dA (k + 1) := by
      intro ty cA k hk hty hf
      have hra := (hK.2 k _ hk).2
      have e : s.vm.findClass ("[" ++ ty.toString) = some (dA (k + 1)) := by
        rcases hty with rfl | rfl | rfl | rfl | rfl <;> exact hra
      exact Option.some.inj (hf.symm.trans e)
    rcases hat with ⟨rfl, rfl⟩ | ⟨rfl, rfl⟩ | ⟨rfl, rfl⟩ | ⟨rfl, rfl⟩ | ⟨rfl, rfl⟩
    · refine va_newa hx hb harr (ty := .int) rfl hK hP hD hS hA (N' := x.toNat) (a0 := (x.toNat, .inl fun _ => Int32.ofInt 0)) (fun cA => rfl) (xw_nneg h0 hxI) hcl (by show x.toNat * 4 ≤ _; omega) hq1 hq2 hd fun q cA H1 k1 k2 k3 k4 => ?_
      have e := hids .int cA 0 rfl (by simp) (by have := (k1.2 5 (cA, .int) rfl).2; exact this)
      rw [e] at k2 k3
      exact kk q H1 k2 k3 k4
    · refine va_newa hx hb harr (ty := .long) rfl hK hP hD hS hA (N' := x.toNat) (a0 := (x.toNat, .inr (.inl fun _ => Int64.ofInt 0))) (fun cA => rfl) (xw_nneg h0 hxI) hcl (by show x.toNat * 8 ≤ _; omega) hq1 hq2 hd fun q cA H1 k1 k2 k3 k4 => ?_
      have e := hids .long cA 1 rfl (by simp) (by have := (k1.2 5 (cA, .long) rfl).2; exact this)
      rw [e] at k2 k3
      exact kk q H1 k2 k3 k4
    · refine va_newa hx hb harr (ty := .byte) rfl hK hP hD hS hA (N' := x.toNat) (a0 := (x.toNat, .inl fun _ => Int32.ofInt 0)) (fun cA => rfl) (xw_nneg h0 hxI) hcl (by show x.toNat * 1 ≤ _; omega) hq1 hq2 hd fun q cA H1 k1 k2 k3 k4 => ?_
      have e := hids .byte cA 2 rfl (by simp) (by have := (k1.2 5 (cA, .byte) rfl).2; exact this)
      rw [e] at k2 k3
      exact kk q H1 k2 k3 k4
    · refine va_newa hx hb harr (ty := .boolean) rfl hK hP hD hS hA (N' := x.toNat) (a0 := (x.toNat, .inl fun _ => Int32.ofInt 0)) (fun cA => rfl) (xw_nneg h0 hxI) hcl (by show x.toNat * 1 ≤ _; omega) hq1 hq2 hd fun q cA H1 k1 k2 k3 k4 => ?_
      have e := hids .boolean cA 3 rfl (by simp) (by have := (k1.2 5 (cA, .boolean) rfl).2; exact this)
      rw [e] at k2 k3
      exact kk q H1 k2 k3 k4
    · refine va_newa hx hb harr (ty := .char) rfl hK hP hD hS hA (N' := x.toNat) (a0 := (x.toNat, .inl fun _ => Int32.ofInt 0)) (fun cA => rfl) (xw_nneg h0 hxI) hcl (by show x.toNat * 2 ≤ _; omega) hq1 hq2 hd fun q cA H1 k1 k2 k3 k4 => ?_
      have e := hids .char cA 4 rfl (by simp) (by have := (k1.2 5 (cA, .char) rfl).2; exact this)
      rw [e] at k2 k3
      exact kk q H1 k2 k3 k4
  refine main fun q H1 g1 g2 g3 => ?_
  have hag : xags K.1.length ad (fun j => if j = K.1.length then q else ad j) := fun i hi => if_neg (by omega)
  have hH : ∀ i : Nat, i < K.1.length → xzr H (K.1.length : Int) i = H i := fun i hi => xzr_ne (by omega)
  have es := xws_push (dA := dA) (ad := ad) (q := q) ok3 hH (kd := (t, x.toNat, [])) (e := xce dA (fun j => if j = K.1.length then q else ad j) (t, x.toNat, []) (fun _ => 0)) (by rw [xzr_eq])
  rw [es] at g1 g2
  have hok : xokc ((K.1.length : Int) + 1) (t, x.toNat, []) (xzr H (K.1.length : Int) K.1.length) := by
    rw [xzr_eq]
    rcases hat with ⟨rfl, rfl⟩ | ⟨rfl, rfl⟩ | ⟨rfl, rfl⟩ | ⟨rfl, rfl⟩ | ⟨rfl, rfl⟩
    · exact ⟨by dsimp only; omega, fun j _ => xw_0⟩
    · exact ⟨by dsimp only; omega, fun j _ => by unfold xJ; dsimp only; omega⟩
    · exact ⟨by dsimp only; omega, fun j _ => by dsimp only; omega⟩
    · exact ⟨by dsimp only; omega, fun j _ => by dsimp only; omega⟩
    · exact ⟨by dsimp only; omega, fun j _ => by dsimp only; omega⟩
  have hle : (K.1.length : Int) ≤ ((K.1 ++ [(t, x.toNat, [])]).length : Nat) := by rw [List.length_append, List.length_singleton]; omega
  have hle1 : (K.1.length : Int) + 1 ≤ ((K.1 ++ [(t, x.toNat, [])]).length : Nat) := by rw [List.length_append, List.length_singleton]; omega
  have k := XPP.go (cells := cells + 1) (slots := slots + x.toNat) (ad := fun j => if j = K.1.length then q else ad j) h2 hn ⟨(xls_ag hag ok1) ▸ ok0, fun v hv => xokv_mono hle (ok1 v hv), xok_cons (xok_r (Int.lt_of_lt_of_le (by omega : (K.1.length : Int) < (K.1.length : Int) + 1) hle1)) (fun v hv => xokv_mono hle (hr2 v hv)), xokh_push ok3 hH hok, g1, g2, g3, by dsimp only; omega, by dsimp only; omega, fun i hi => (hag i (Nat.lt_of_lt_of_le hi hn0)).trans (hg0 i hi), by dsimp only; omega⟩
  rw [List.map_cons, xst_ag hag hr2] at k
  have ev : xv (fun j => if j = K.1.length then q else ad j, z) (2, (K.1.length : Int)) = .ref q := by
    show Value.ref (if K.1.length = K.1.length then q else ad K.1.length) = _
    rw [if_pos rfl]
  rw [ev] at k
  exact k
/-- new C -/
theorem xs_new (hx : p.tables.exec = Jvm.exec) (hb : c.code = cc) {pc n : Nat} {L : XL} {S : List XV} {K : XW} {H : XH} (hpc : xrp pc = pc) (hA : ∀ q, s.heap.size ≤ q → A q) {Ts : List Jvm.Cond} (hts : ∀ w ∈ Ts, w.before args s = true) {own Cn : String} {T : u_T} {N ci idx : Nat} (hown : s.vm.findClass own = some m.cls) (hin : ∀ w ∈ u_ws Cn T N, w ∈ Ts) (hc : vwCl[ci]? = some (Cn, T, N)) (hN : (xTT.getD ci []).length = N) (hci : ci < 13) (ty0 : Nat → FieldType) (hty : ∀ k, k < N → parseFieldDescriptor (T k).2.2.1 = some (ty0 k)) (hcl : (Cond.classLink own idx Cn).before args s = true) (hinst : (Cond.instantiable Cn N).before args s = true) (hini : (Cond.initialized Cn).before args s = true)
    (hsl : ∀ k, k < N → ((xsl xTT ci k = 0 → ty0 k = .int) ∧ (xsl xTT ci k = 1 → ty0 k = .boolean) ∧ (xsl xTT ci k = 2 ∨ xsl xTT ci k = 3 → (ty0 k).isReference = true)) ∧ (xsl xTT ci k = 0 ∨ xsl xTT ci k = 1 ∨ xsl xTT ci k = 2 ∨ xsl xTT ci k = 3)) (hK : va_K D vwCl (xtys dA) s) (hd : decode cc pc = .ok (.new idx, 3)) (hn : xrp n = pc + 3)
    (h : xres C (XPP p l e R s m args below meth c Z nL N0 D dA z A) Q (xnew xTT n ci L S K H)) : XPP p l e R s m args below meth c Z nL N0 D dA z A (pc, L, S, K, H) := by
  subst hN
  obtain ⟨⟨hc1, hs1⟩, h2⟩ := h
  refine XPP.inn hpc fun ad ls Hp locs cells slots hr => ?_
  obtain ⟨ok0, ok1, ok2, ok3, hP, hD, hS, hcc, hss, hg0, hn0⟩ := hr
  refine va_new hx hb hts hin ty0 hty hown hcl hinst hini hK hP hD hS hA hc (fs := (List.range (xTT.getD ci []).length).map fun k => xfv ad (xsl xTT ci k) ((List.replicate (xTT.getD ci []).length (-1)).getD k (-1)) (bif Nat.beq (xsl xTT ci k) 3 then -1 else 0)) (fun j hj => ?_) (by omega) (by omega) hd fun q H1 g1 g2 g3 => ?_
  · unfold vp_V
    rw [List.getD_eq_getElem?_getD, List.getElem?_map, List.getElem?_range hj]
    show _ = xfv ad (xsl xTT ci j) ((List.replicate (xTT.getD ci []).length (-1)).getD j (-1)) (bif Nat.beq (xsl xTT ci j) 3 then -1 else 0)
    have hm1 : (List.replicate (xTT.getD ci []).length (-1 : Int)).getD j (-1) = -1 := by
      rw [List.getD_eq_getElem?_getD, List.getElem?_replicate_of_lt hj]
      rfl
    rw [hm1]
    obtain ⟨⟨a0, a1, a2⟩, a3⟩ := hsl j hj
    rcases a3 with e | e | e | e
    · rw [e, a0 e]; rfl
    · rw [e, a1 e]; rfl
    · have := a2 (Or.inl e)
      rw [e]
      generalize ty0 j = ty at this
      cases ty <;> first | rfl | cases this
    · have := a2 (Or.inr e)
      rw [e]
      generalize ty0 j = ty at this
      cases ty <;> first | rfl | cases this
  · have hag : xags K.1.length ad (fun j => if j = K.1.length then q else ad j) := fun i hi => if_neg (by omega)
    have hH : ∀ i : Nat, i < K.1.length → xzo (xTT.getD ci []) H (K.1.length : Int) i = H i := fun i hi => xzo_ne (by omega)
    have es := xws_push (dA := dA) (ad := ad) (q := q) ok3 hH (kd := (0, ci, List.replicate (xTT.getD ci []).length (-1))) (e := .inr (ci, (List.range (xTT.getD ci []).length).map fun k => xfv ad (xsl xTT ci k) ((List.replicate (xTT.getD ci []).length (-1)).getD k (-1)) (bif Nat.beq (xsl xTT ci k) 3 then -1 else 0))) (by
      refine congrArg (fun l => (Sum.inr (ci, l) : va_E)) (List.map_congr_left fun k hk => ?_)
      have hk := List.mem_range.mp hk
      have hm1 : (List.replicate (xTT.getD ci []).length (-1 : Int)).getD k (-1) = -1 := by
        rw [List.getD_eq_getElem?_getD, List.getElem?_replicate_of_lt hk]
        rfl
      dsimp only
      rw [hm1, xzo_eq]
      show xfv ad (xsl xTT ci k) (-1) _ = xfv _ (xsl xTT ci k) (-1) (bif Nat.beq (xsl xTT ci k) 3 then -1 else 0)
      generalize xsl xTT ci k = t
      match t with
      | 0 => rfl
      | 1 => rfl
      | 2 => rfl
      | 3 => rfl
      | t + 4 => rfl)
    rw [es] at g1 g2
    have hok : xokc ((K.1.length : Int) + 1) (0, ci, List.replicate (xTT.getD ci []).length (-1)) (xzo (xTT.getD ci []) H (K.1.length : Int) K.1.length) := by
      refine ⟨hci, fun r hr => by rw [List.eq_of_mem_replicate hr]; omega, by simp, fun k hk => ?_⟩
      rw [xzo_eq]
      show (xsl xTT ci k = 0 → xI (bif Nat.beq (xsl xTT ci k) 3 then -1 else 0)) ∧ (xsl xTT ci k = 1 → 0 ≤ (bif Nat.beq (xsl xTT ci k) 3 then (-1 : Int) else 0) ∧ (bif Nat.beq (xsl xTT ci k) 3 then (-1 : Int) else 0) ≤ 1) ∧ (xsl xTT ci k = 3 → (bif Nat.beq (xsl xTT ci k) 3 then (-1 : Int) else 0) < _)
      refine ⟨fun e => by rw [e]; exact xw_0, fun e => by rw [e]; decide, fun e => by rw [e]; show (-1 : Int) < _; omega⟩
    have hle : (K.1.length : Int) ≤ ((K.1 ++ [(0, ci, List.replicate (xTT.getD ci []).length (-1))]).length : Nat) := by rw [List.length_append, List.length_singleton]; omega
    have hle1 : (K.1.length : Int) + 1 ≤ ((K.1 ++ [(0, ci, List.replicate (xTT.getD ci []).length (-1))]).length : Nat) := by rw [List.length_append, List.length_singleton]; omega
    have k := XPP.go (cells := cells + 1) (slots := slots + (xTT.getD ci []).length) (ad := fun j => if j = K.1.length then q else ad j) h2 hn ⟨(xls_ag hag ok1) ▸ ok0, fun v hv => xokv_mono hle (ok1 v hv), xok_cons (xok_r (Int.lt_of_lt_of_le (by omega : (K.1.length : Int) < (K.1.length : Int) + 1) hle1)) (fun v hv => xokv_mono hle (ok2 v hv)), xokh_push ok3 hH hok, g1, g2, g3, by dsimp only; omega, by dsimp only; omega, fun i hi => (hag i (Nat.lt_of_lt_of_le hi hn0)).trans (hg0 i hi), by dsimp only; omega⟩
    rw [List.map_cons, xst_ag hag ok2] at k
    have ev : xv (fun j => if j = K.1.length then q else ad j, z) (2, (K.1.length : Int)) = .ref q := by
      show Value.ref (if K.1.length = K.1.length then q else ad K.1.length) = _
      rw [if_pos rfl]
    rw [ev] at k
    exact k
end XS
