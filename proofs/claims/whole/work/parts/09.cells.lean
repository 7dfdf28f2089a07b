/-! SOUNDNESS 5: fields, arrays, new cells -/
section XS
variable {p : Program} {l : Launch} {e : Env} {R : Room} {s : State} {m : MethodId} {args : Array Value} {below : List Frame} {meth : Method} {c : Code} {Z : State → Prop}
variable {cc : ByteArray} {nL : Nat} {N0 : Nat × (Nat → Nat)} {D : va_G} {dA : Nat → ClassId} {z : (Nat → Nat) × (Nat → Nat) × Nat × Value} {A : Nat → Prop} {C : XC} {Q : XQ}
theorem xs_getf (hx : p.tables.exec = Jvm.exec) (hb : c.code = cc) {pc n : Nat} {L : XL} {S : List XV} {K : XW} {H : XH} (hpc : xrp pc = pc) {Ts : List Jvm.Cond} (hts : ∀ w ∈ Ts, w.before args s = true) {own Cn : String} {T : u_T} {N ci k idx : Nat} {tl : List (Int × Nat)} (hown : s.vm.findClass own = some m.cls) (hin : ∀ w ∈ u_ws Cn T N, w ∈ Ts) (hc : vwCl[ci]? = some (Cn, T, N)) (hN : (xTT.getD ci []).length = N) (hci : ci < 13) (hk : k < N) (hlink : (Cond.fieldLink own idx (T k).1 (T k).2.1 (T k).2.2.1).before args s = true) (hK : va_K D vwCl (xtys dA) s) (hd : decode cc pc = .ok (.getfield idx, 3)) (hn : xrp n = pc + 3)
    (h : xres C (XPP p l e R s m args below meth c Z nL N0 D dA z A) Q (xgf xTT n ci k tl L S K H)) : XPP p l e R s m args below meth c Z nL N0 D dA z A (pc, L, S, K, H) := by
  match S, h with
  | [], h => exact h.elim
  | (u, o) :: r, h0 =>
  unfold xgf at h0
  dsimp only at h0
  cases hu : Nat.beq u 2 with
  | false =>
    rw [hu] at h0
    cases h3 : (Nat.beq u 3 && Nat.beq ci 100) with
    | false => rw [h3] at h0; exact h0.elim
    | true => have := Nat.eq_of_beq_eq_true (Bool.and_eq_true_iff.mp h3).2; omega
  | true =>
  rw [hu] at h0
  cases hcl : Nat.beq (xCls K o) ci with
  | false => rw [hcl] at h0; exact h0.elim
  | true =>
  rw [hcl] at h0
  have h := h0
  dsimp only [cond_true] at h
  clear h0
  cases Nat.eq_of_beq_eq_true hu
  obtain ⟨i, rs, rfl, hi, hkd⟩ := xcls_inv (Nat.eq_of_beq_eq_true hcl) (by omega)
  refine XPP.inn hpc fun ad ls Hp locs cells slots hr => ?_
  obtain ⟨hv0, hr2⟩ := xok_1 hr.2.2.1
  have hoki := hr.2.2.2.1 i hi
  have hws := xws_get (dA := dA) (ad := ad) (H := H) hi
  rw [hkd] at hws hoki
  obtain ⟨-, ok1, ok2, ok3⟩ := hoki
  have ok3 := ok3 k (by rw [hN]; exact hk)
  subst hN
  have hfs : ((List.range (xTT.getD ci []).length).map fun k => xfv ad (xsl xTT ci k) (rs.getD k (-1)) (H i k))[k]? = some (xfv ad (xsl xTT ci k) (rs.getD k (-1)) (H i k)) := by
    rw [List.getElem?_map, List.getElem?_range hk]
    rfl
  refine va_get hx hb hts hin hown hK hr.2.2.2.2.1 i hws hc k hk hlink (fun _ h => h) hfs hd ?_
  have hrr : rs.getD k (-1) < K.1.length := by
    rw [List.getD_eq_getElem?_getD]
    cases hq : rs[k]? with
    | none => show (-1 : Int) < _; omega
    | some v => exact ok1 v (List.mem_of_getElem? hq)
  have hrf : xRf K (i : Int) k = rs.getD k (-1) := by
    show (K.1.getD i (9, 0, [])).2.2.getD k (-1) = _
    rw [hkd]
  generalize xsl xTT ci k = t at h ok3
  match t, h with
  | 0, h => exact XPP.go h hn (hr.st (xok_cons (xok_i (ok3.1 rfl)) hr2))
  | 1, h => exact XPP.go h hn (hr.st (xok_cons (xok_i (by have := ok3.2.1 rfl; unfold xI; omega)) hr2))
  | 2, h =>
    rw [hrf] at h
    exact XPP.go h hn (hr.st (xok_cons (xok_r hrr) hr2))
  | 3, h =>
    match tl, h with
    | [], h => exact h.elim
    | (_, e) :: _, h =>
      obtain ⟨h1, h2⟩ := h
      have k2 := XPP.go h2 hn (hr.st (xok_cons (xok_r (by rw [← h1]; exact ok3.2.2 rfl)) hr2))
      rw [← h1] at k2
      exact k2
  | t + 4, h => exact h.elim
theorem xs_putf (hx : p.tables.exec = Jvm.exec) (hb : c.code = cc) {pc n : Nat} {L : XL} {S : List XV} {K : XW} {H : XH} (hpc : xrp pc = pc) {Ts : List Jvm.Cond} (hts : ∀ w ∈ Ts, w.before args s = true) {own Cn : String} {T : u_T} {N ci k idx : Nat} (hown : s.vm.findClass own = some m.cls) (hin : ∀ w ∈ u_ws Cn T N, w ∈ Ts) (hc : vwCl[ci]? = some (Cn, T, N)) (hN : (xTT.getD ci []).length = N) (hci : ci < 13) (hk : k < N) (ty0 : Nat → FieldType) (hty : ∀ k, k < N → parseFieldDescriptor (T k).2.2.1 = some (ty0 k)) (hnm : ∀ a, a < N → ∀ b, b < N → a ≠ b → (T a).2.1 ≠ (T b).2.1)
    (hlink : (Cond.fieldLink own idx (T k).1 (T k).2.1 (T k).2.2.1).before args s = true) (hfin : (T k).2.2.2 = true → meth.name = "<init>" ∧ (T k).1 = own) (hsl : (xsl xTT ci k = 0 → ty0 k = .int) ∧ (xsl xTT ci k = 1 → ty0 k = .boolean) ∧ (xsl xTT ci k = 2 ∨ xsl xTT ci k = 3 → (ty0 k).isReference = true)) (hK : va_K D vwCl (xtys dA) s) (hd : decode cc pc = .ok (.putfield idx, 3)) (hn : xrp n = pc + 3)
    (h : xres C (XPP p l e R s m args below meth c Z nL N0 D dA z A) Q (xpf xTT n ci k L S K H)) : XPP p l e R s m args below meth c Z nL N0 D dA z A (pc, L, S, K, H) := by
  match S, h with
  | [], h => exact h.elim
  | [_], h => exact h.elim
  | (t, x) :: (u, o) :: r, h0 =>
  obtain ⟨hb1, h⟩ := xbif_inv (o := (match xsl xTT ci k with
        | 0 => bif Nat.beq t 0 then xgo (n, L, r, K, xup H o k x) else xno
        | 1 => bif Nat.beq t 0 then xck (0 ≤ x ∧ x ≤ 1) (n, L, r, K, xup H o k x) else xno
        | 2 => bif Nat.beq t 2 then xgo (n, L, r, (K.1.set o.toNat (0, ci, (xkd K o).2.2.set k x), K.2), H) else xno
        | 3 => bif Nat.beq t 2 then xgo (n, L, r, K, xup H o k x) else xno
        | _ => xno)) h0
  clear h0
  obtain ⟨hu, hcl⟩ := Bool.and_eq_true_iff.mp hb1
  cases Nat.eq_of_beq_eq_true hu
  obtain ⟨i, rs, rfl, hi, hkd⟩ := xcls_inv (Nat.eq_of_beq_eq_true hcl) (by omega)
  refine XPP.inn hpc fun ad ls Hp locs cells slots hr => ?_
  obtain ⟨hv0, hr1⟩ := xok_1 hr.2.2.1
  obtain ⟨ho0, hr2⟩ := xok_1 hr1
  have hoki := hr.2.2.2.1 i hi
  have hws := xws_get (dA := dA) (ad := ad) (H := H) hi
  rw [hkd] at hws hoki
  obtain ⟨hc13, ok1, ok2, ok3⟩ := hoki
  subst hN
  -- the machine's own step, for any value of the field's type
  have put : ∀ v : Value, narrow (ty0 k) v = v → fits (ty0 k) v = true → (∀ (H1 : Heap) (locs1 : List Loc), va_P D vwCl ((xws dA ad K.1 H).set i (ad i, .inr (ci, ((List.range (xTT.getD ci []).length).map fun k => xfv ad (xsl xTT ci k) (rs.getD k (-1)) (H i k)).set k v))) H1 → va_D A ((xws dA ad K.1 H).set i (ad i, .inr (ci, ((List.range (xTT.getD ci []).length).map fun k => xfv ad (xsl xTT ci k) (rs.getD k (-1)) (H i k)).set k v))) → va_S A s.heap H1 locs1 → W p l e R s m args below meth c H1 locs1 cells slots Z (F0 m (pc + 3) ls (r.map (xv (ad, z))))) → W p l e R s m args below meth c Hp locs cells slots Z (F0 m pc ls (v :: .ref (ad i) :: r.map (xv (ad, z)))) := by
    intro v hv1 hv2 kk
    by_cases hf : (T k).2.2.2 = true
    · exact va_putF hx hb hts hin ty0 hty hnm hown hK hr.2.2.2.2.1 hr.2.2.2.2.2.1 hr.2.2.2.2.2.2.1 i hws hc k hk hlink (fun _ h => h) hf (hfin hf).1 (hfin hf).2 (hty k hk) hv1 hv2 (by simpa using hk) hd kk
    · exact va_put hx hb hts hin ty0 hty hnm hown hK hr.2.2.2.2.1 hr.2.2.2.2.2.1 hr.2.2.2.2.2.2.1 i hws hc k hk hlink (fun _ h => h) (by simpa using hf) (hty k hk) hv1 hv2 (by simpa using hk) hd kk
  -- a value that lies in H
  have num : ∀ v : Value, narrow (ty0 k) v = v → fits (ty0 k) v = true → (xsl xTT ci k = 0 → xI x) → (xsl xTT ci k = 1 → 0 ≤ x ∧ x ≤ 1) → (xsl xTT ci k = 3 → x < K.1.length) → xfv ad (xsl xTT ci k) (rs.getD k (-1)) x = v → XPP p l e R s m args below meth c Z nL N0 D dA z A (n, L, r, K, xup H i k x) → W p l e R s m args below meth c Hp locs cells slots Z (F0 m pc ls (v :: .ref (ad i) :: r.map (xv (ad, z)))) := by
    intro v hv1 hv2 hx1 hx2 hx3 hv h
    refine put v hv1 hv2 fun H1 locs1 g1 g2 g3 => ?_
    have es : (xws dA ad K.1 H).set i (ad i, .inr (ci, ((List.range (xTT.getD ci []).length).map fun k => xfv ad (xsl xTT ci k) (rs.getD k (-1)) (H i k)).set k v)) = xws dA ad K.1 (xup H i k x) := by
      refine xws_set rfl ?_ fun j hj hji => ?_
      · rw [hkd]
        refine congrArg (fun l => (Sum.inr (ci, l) : va_E)) (xfs_set hk ?_ fun j hj hjk => ?_)
        · rw [xup_eq, if_pos rfl]; exact hv
        · rw [xup_eq, if_neg (by omega)]
      · rw [xup_ne (by omega)]
    rw [es] at g1 g2
    refine XPP.go h hn ⟨hr.1, hr.2.1, hr2, fun j hj => ?_, g1, g2, g3, hr.2.2.2.2.2.2.2⟩
    by_cases hji : j = i
    · subst hji
      rw [hkd]
      refine ⟨hc13, ok1, ok2, fun k' hk' => ?_⟩
      rw [xup_eq]
      by_cases hkk : (k' : Int) = k
      · have : k' = k := by omega
        subst this
        rw [if_pos rfl]
        exact ⟨hx1, hx2, hx3⟩
      · rw [if_neg hkk]
        exact ok3 k' hk'
    · have q := hr.2.2.2.1 j hj
      rw [show xup H (i : Int) k x (j : Int) = H j from xup_ne (by omega)]
      exact q
  generalize hsk : xsl xTT ci k = sk at h hsl num
  match sk, h with
  | 0, h =>
    obtain ⟨ht, hh⟩ := xbif_inv (o := xgo (n, L, r, K, xup H i k x)) h
    clear h
    cases Nat.eq_of_beq_eq_true ht
    exact num (.int (Int32.ofInt x)) (by rw [hsl.1 rfl]; rfl) (by rw [hsl.1 rfl]; rfl) (fun _ => hv0.1 rfl) (fun q => by cases q) (fun q => by cases q) rfl hh
  | 1, h =>
    obtain ⟨ht, h1, h2⟩ := xbif_inv (o := xck (0 ≤ x ∧ x ≤ 1) (n, L, r, K, xup H i k x)) h
    cases Nat.eq_of_beq_eq_true ht
    exact num (.int (Int32.ofInt x)) (by rw [hsl.2.1 rfl]; exact (xw_narZ h1).1) (by rw [hsl.2.1 rfl]; exact (xw_narZ h1).2) (fun q => by cases q) (fun _ => h1) (fun q => by cases q) rfl h2
  | 2, h =>
    obtain ⟨ht, hh⟩ := xbif_inv (o := xgo (n, L, r, (K.1.set (i : Int).toNat (0, ci, (xkd K i).2.2.set k x), K.2), H)) h
    clear h
    cases Nat.eq_of_beq_eq_true ht
    have hxl := hv0.2.2.1 rfl
    dsimp only at hxl
    have hrf : narrow (ty0 k) (xrf ad x) = xrf ad x ∧ fits (ty0 k) (xrf ad x) = true := by
      have := hsl.2.2 (Or.inl rfl)
      generalize ty0 k = ty at this
      cases ty <;> cases x <;> first | exact ⟨rfl, rfl⟩ | cases this
    refine put (xrf ad x) hrf.1 hrf.2 fun H1 locs1 g1 g2 g3 => ?_
    have hkd2 : (xkd K (i : Int)).2.2 = rs := by show (K.1.getD i (9, 0, [])).2.2 = _; rw [hkd]
    have hti : (i : Int).toNat = i := by simp
    rw [hkd2, hti] at hh
    have hgs : ∀ j, j ≠ i → (K.1.set i (0, ci, rs.set k x)).getD j (9, 0, []) = K.1.getD j (9, 0, []) := fun j hj => by
      rw [List.getD_eq_getElem?_getD, List.getElem?_set_ne (Ne.symm hj), ← List.getD_eq_getElem?_getD]
    have hgi : (K.1.set i (0, ci, rs.set k x)).getD i (9, 0, []) = (0, ci, rs.set k x) := by
      rw [List.getD_eq_getElem?_getD, List.getElem?_set_self hi]
      rfl
    have hks : k < rs.length := by rw [ok2]; exact hk
    have es : (xws dA ad K.1 H).set i (ad i, .inr (ci, ((List.range (xTT.getD ci []).length).map fun k => xfv ad (xsl xTT ci k) (rs.getD k (-1)) (H i k)).set k (xrf ad x))) = xws dA ad (K.1.set i (0, ci, rs.set k x)) H := by
      refine xws_set (by simp) ?_ fun j hj hji => ?_
      · rw [hgi]
        refine congrArg (fun l => (Sum.inr (ci, l) : va_E)) (xfs_set hk ?_ fun j hj hjk => ?_)
        · rw [hsk]
          show xrf ad ((rs.set k x).getD k (-1)) = _
          rw [List.getD_eq_getElem?_getD, List.getElem?_set_self hks]
          rfl
        · rw [List.getD_eq_getElem?_getD, List.getElem?_set_ne (Ne.symm hjk), ← List.getD_eq_getElem?_getD]
      · rw [hgs j hji]
    rw [es] at g1 g2
    have hlen : (K.1.set i (0, ci, rs.set k x)).length = K.1.length := by simp
    refine XPP.go hh hn ⟨hr.1, by dsimp only; rw [hlen]; exact hr.2.1, by dsimp only; rw [hlen]; exact hr2, fun j hj => ?_, g1, g2, g3, hr.2.2.2.2.2.2.2.1, hr.2.2.2.2.2.2.2.2.1, hr.2.2.2.2.2.2.2.2.2.1, by dsimp only; rw [hlen]; exact hr.2.2.2.2.2.2.2.2.2.2⟩
    dsimp only at hj ⊢
    rw [hlen] at hj ⊢
    by_cases hji : j = i
    · subst hji
      rw [hgi]
      refine ⟨hc13, fun q hq => ?_, by rw [List.length_set]; exact ok2, ok3⟩
      rcases List.mem_or_eq_of_mem_set hq with hq | hq
      · exact ok1 q hq
      · rw [hq]; exact hxl
    · rw [hgs j hji]
      exact hr.2.2.2.1 j hj
  | 3, h =>
    obtain ⟨ht, hh⟩ := xbif_inv (o := xgo (n, L, r, K, xup H i k x)) h
    clear h
    cases Nat.eq_of_beq_eq_true ht
    have hxl := hv0.2.2.1 rfl
    dsimp only at hxl
    have hrf : narrow (ty0 k) (xrf ad x) = xrf ad x ∧ fits (ty0 k) (xrf ad x) = true := by
      have := hsl.2.2 (Or.inr rfl)
      generalize ty0 k = ty at this
      cases ty <;> cases x <;> first | exact ⟨rfl, rfl⟩ | cases this
    exact num (xrf ad x) hrf.1 hrf.2 (fun q => by cases q) (fun q => by cases q) (fun _ => hxl) rfl hh
  | sk + 4, h => exact h.elim
end XS
