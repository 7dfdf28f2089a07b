/-! SOUNDNESS 6: arrays, new cells -/
theorem xlnB_inv {K : XW} {a i : Int} (h0 : 0 ≤ i) (h : i < xLnB K a) : ∃ (j m : Nat) (rs : List Int), a = (j : Int) ∧ j < K.1.length ∧ (K.1.getD j (9, 0, []) = (3, m, rs) ∧ xTy K a = 3 ∨ K.1.getD j (9, 0, []) = (4, m, rs) ∧ xTy K a = 4) ∧ i < m := by
  unfold xLnB at h
  cases h3 : Nat.beq (xTy K a) 3 with
  | true =>
    have e := Nat.eq_of_beq_eq_true h3
    obtain ⟨j, m, rs, h1, h2, h4, h5⟩ := xty_inv e (by omega)
    rw [h3] at h
    exact ⟨j, m, rs, h1, h2, Or.inl ⟨h4, e⟩, by rw [← h5]; exact h⟩
  | false =>
    cases h4 : Nat.beq (xTy K a) 4 with
    | true =>
      have e := Nat.eq_of_beq_eq_true h4
      obtain ⟨j, m, rs, h1, h2, h5, h6⟩ := xty_inv e (by omega)
      rw [h3, h4] at h
      exact ⟨j, m, rs, h1, h2, Or.inr ⟨h5, e⟩, by rw [← h6]; exact h⟩
    | false => rw [h3, h4] at h; exact absurd h (by simp; omega)
/-- an array's cell changed in one place -/
theorem xokh_up {K : List XK} {H : XH} {j t mm : Nat} {rs : List Int} {i x : Int} (hok : xokh K H) (hj : j < K.length) (hkd : K.getD j (9, 0, []) = (t, mm, rs)) (ht : 1 ≤ t ∧ t ≤ 5) (hx : (t = 1 → xI x) ∧ (t = 2 → xJ x) ∧ (t = 3 → -128 ≤ x ∧ x ≤ 127) ∧ (t = 4 → 0 ≤ x ∧ x ≤ 1) ∧ (t = 5 → 0 ≤ x ∧ x ≤ 65535)) : xokh K (xup H j i x) := by
  intro k hk
  by_cases hkj : k = j
  · subst hkj
    have q := hok k hk
    rw [hkd] at q ⊢
    obtain ⟨h1, h2⟩ := ht
    match t, h1, h2, q, hx with
    | 1, _, _, q, hx => exact ⟨q.1, fun j' hj' => by rw [xup_eq]; split; exact hx.1 rfl; exact q.2 j' hj'⟩
    | 2, _, _, q, hx => exact ⟨q.1, fun j' hj' => by rw [xup_eq]; split; exact hx.2.1 rfl; exact q.2 j' hj'⟩
    | 3, _, _, q, hx => exact ⟨q.1, fun j' hj' => by rw [xup_eq]; split; exact hx.2.2.1 rfl; exact q.2 j' hj'⟩
    | 4, _, _, q, hx => exact ⟨q.1, fun j' hj' => by rw [xup_eq]; split; exact hx.2.2.2.1 rfl; exact q.2 j' hj'⟩
    | 5, _, _, q, hx => exact ⟨q.1, fun j' hj' => by rw [xup_eq]; split; exact hx.2.2.2.2 rfl; exact q.2 j' hj'⟩
  · rw [show xup H (j : Int) i x (k : Int) = H k from xup_ne (by omega)]
    exact hok k hk
theorem xws_ai {dA : Nat → ClassId} {ad : Nat → Nat} {K : List XK} {H : XH} {j t mm : Nat} {rs : List Int} {i x : Int} (hkd : K.getD j (9, 0, []) = (t, mm, rs)) (ht : t = 1 ∨ t = 3 ∨ t = 4 ∨ t = 5) : (xws dA ad K H).set j (ad j, .inl (dA t, mm, .inl fun q : Nat => Int32.ofInt (if (q : Int) = i then x else H j q))) = xws dA ad K (xup H j i x) := by
  refine xws_set rfl ?_ fun q hq hqj => by rw [xup_ne (by omega)]
  rw [hkd, show xup H (j : Int) i x (j : Int) = fun q : Int => if q = i then x else H j q from funext fun q => xup_eq H j i x q]
  rcases ht with rfl | rfl | rfl | rfl <;> rfl
theorem xws_al {dA : Nat → ClassId} {ad : Nat → Nat} {K : List XK} {H : XH} {j mm : Nat} {rs : List Int} {i x : Int} (hkd : K.getD j (9, 0, []) = (2, mm, rs)) : (xws dA ad K H).set j (ad j, .inl (dA 2, mm, .inr (.inl fun q : Nat => Int64.ofInt (if (q : Int) = i then x else H j q)))) = xws dA ad K (xup H j i x) := by
  refine xws_set rfl ?_ fun q hq hqj => by rw [xup_ne (by omega)]
  rw [hkd, show xup H (j : Int) i x (j : Int) = fun q : Int => if q = i then x else H j q from funext fun q => xup_eq H j i x q]
  rfl
section XS
variable {p : Program} {l : Launch} {e : Env} {R : Room} {s : State} {m : MethodId} {args : Array Value} {below : List Frame} {meth : Method} {c : Code} {Z : State → Prop}
variable {cc : ByteArray} {nL : Nat} {N0 : Nat × (Nat → Nat)} {D : va_G} {dA : Nat → ClassId} {z : (Nat → Nat) × (Nat → Nat) × Nat × Value} {A : Nat → Prop} {C : XC} {Q : XQ} {X : Int × (Int → Int)}
theorem xs_iaload (hx : p.tables.exec = Jvm.exec) (hb : c.code = cc) {pc n : Nat} {L : XL} {S : List XV} {K : XW} {H : XH} (hpc : xrp pc = pc) (hK : va_K D vwCl (xtys dA) s) (hX : va_X z.2.2.1 X.1.toNat (fun j => Int32.ofInt (X.2 j)) s s.heap ∧ z.2.2.1 < s.heap.size ∧ ¬ A z.2.2.1) (hX2 : ∀ i, 0 ≤ i → i < X.1 → xI (X.2 i)) (hd : decode cc pc = .ok (.iaload, 1)) (hn : xrp n = pc + 1) (h : xres C (XPP p l e R s m args below meth c Z nL N0 D dA z A) Q (xald 1 0 n X L S K H)) : XPP p l e R s m args below meth c Z nL N0 D dA z A (pc, L, S, K, H) := by
  match S, h with
  | [], h => exact h.elim
  | [_], h => exact h.elim
  | (u, i) :: (v, a) :: r, h0 =>
  unfold xald at h0
  dsimp only at h0
  cases hu : Nat.beq u 0 with
  | false => rw [hu] at h0; exact h0.elim
  | true =>
  rw [hu] at h0
  cases Nat.eq_of_beq_eq_true hu
  cases hv : Nat.beq v 2 with
  | true =>
    rw [hv] at h0
    obtain ⟨h1, h2⟩ := h0
    cases Nat.eq_of_beq_eq_true hv
    obtain ⟨j, mm, rs, rfl, hj, hkd, him⟩ := xln_inv h1.1 h1.2 (by omega)
    refine XPP.inn hpc fun ad ls Hp locs cells slots hr => ?_
    obtain ⟨hi, hr1⟩ := xok_1 hr.2.2.1
    obtain ⟨ha, hr2⟩ := xok_1 hr1
    have hws := xws_get (dA := dA) (ad := ad) (H := H) hj
    have okk := hr.2.2.2.1 j hj
    rw [hkd] at hws okk
    have ei : ((i.toNat : Nat) : Int) = i := by omega
    have hlt : i.toNat < mm := by omega
    have okv := okk.2 i.toNat hlt
    rw [ei] at okv
    refine va_iald hx hb hK hr.2.2.2.2.1 j 0 hws rfl (xw_in h1.1 him (hi.1 rfl)) hd ?_
    have k := XPP.go h2 hn (hr.st (xok_cons (xok_i okv) hr2))
    rw [xw_clamp h1.1 (hi.1 rfl), ei]
    exact k
  | false =>
    rw [hv] at h0
    cases hv4 : (Nat.beq v 4 && Nat.beq 1 1) with
    | false => rw [hv4] at h0; exact h0.elim
    | true =>
    rw [hv4] at h0
    obtain ⟨h1, h2⟩ := h0
    cases Nat.eq_of_beq_eq_true (Bool.and_eq_true_iff.mp hv4).1
    refine XPP.inn hpc fun ad ls Hp locs cells slots hr => ?_
    obtain ⟨hi, hr1⟩ := xok_1 hr.2.2.1
    obtain ⟨ha, hr2⟩ := xok_1 hr1
    refine va_sld hx hb hX.1 hX.2.1 hX.2.2 hr.2.2.2.2.2.2.1 (xw_in h1.1 (by omega) (hi.1 rfl)) hd ?_
    have k := XPP.go h2 hn (hr.st (xok_cons (xok_i (hX2 i h1.1 h1.2)) hr2))
    rw [xw_clamp h1.1 (hi.1 rfl), show ((i.toNat : Nat) : Int) = i by omega]
    exact k
theorem xs_laload (hx : p.tables.exec = Jvm.exec) (hb : c.code = cc) {pc n : Nat} {L : XL} {S : List XV} {K : XW} {H : XH} (hpc : xrp pc = pc) (hK : va_K D vwCl (xtys dA) s)  (hd : decode cc pc = .ok (.laload, 1)) (hn : xrp n = pc + 1) (h : xres C (XPP p l e R s m args below meth c Z nL N0 D dA z A) Q (xald 2 1 n X L S K H)) : XPP p l e R s m args below meth c Z nL N0 D dA z A (pc, L, S, K, H) := by
  match S, h with
  | [], h => exact h.elim
  | [_], h => exact h.elim
  | (u, i) :: (v, a) :: r, h0 =>
  unfold xald at h0
  dsimp only at h0
  cases hu : Nat.beq u 0 with
  | false => rw [hu] at h0; exact h0.elim
  | true =>
  rw [hu] at h0
  cases Nat.eq_of_beq_eq_true hu
  cases hv : Nat.beq v 2 with
  | true =>
    rw [hv] at h0
    obtain ⟨h1, h2⟩ := h0
    cases Nat.eq_of_beq_eq_true hv
    obtain ⟨j, mm, rs, rfl, hj, hkd, him⟩ := xln_inv h1.1 h1.2 (by omega)
    refine XPP.inn hpc fun ad ls Hp locs cells slots hr => ?_
    obtain ⟨hi, hr1⟩ := xok_1 hr.2.2.1
    obtain ⟨ha, hr2⟩ := xok_1 hr1
    have hws := xws_get (dA := dA) (ad := ad) (H := H) hj
    have okk := hr.2.2.2.1 j hj
    rw [hkd] at hws okk
    have ei : ((i.toNat : Nat) : Int) = i := by omega
    have hlt : i.toNat < mm := by omega
    have okv := okk.2 i.toNat hlt
    rw [ei] at okv
    refine va_lald hx hb hK hr.2.2.2.2.1 j 1 hws rfl (xw_in h1.1 him (hi.1 rfl)) hd ?_
    have k := XPP.go h2 hn (hr.st (xok_cons (xok_l okv) hr2))
    rw [xw_clamp h1.1 (hi.1 rfl), ei]
    exact k
  | false =>
    rw [hv] at h0
    cases hv4 : (Nat.beq v 4 && Nat.beq 2 1) with
    | false => rw [hv4] at h0; exact h0.elim
    | true => cases (Bool.and_eq_true_iff.mp hv4).2
theorem xs_caload (hx : p.tables.exec = Jvm.exec) (hb : c.code = cc) {pc n : Nat} {L : XL} {S : List XV} {K : XW} {H : XH} (hpc : xrp pc = pc) (hK : va_K D vwCl (xtys dA) s)  (hd : decode cc pc = .ok (.caload, 1)) (hn : xrp n = pc + 1) (h : xres C (XPP p l e R s m args below meth c Z nL N0 D dA z A) Q (xald 5 0 n X L S K H)) : XPP p l e R s m args below meth c Z nL N0 D dA z A (pc, L, S, K, H) := by
  match S, h with
  | [], h => exact h.elim
  | [_], h => exact h.elim
  | (u, i) :: (v, a) :: r, h0 =>
  unfold xald at h0
  dsimp only at h0
  cases hu : Nat.beq u 0 with
  | false => rw [hu] at h0; exact h0.elim
  | true =>
  rw [hu] at h0
  cases Nat.eq_of_beq_eq_true hu
  cases hv : Nat.beq v 2 with
  | true =>
    rw [hv] at h0
    obtain ⟨h1, h2⟩ := h0
    cases Nat.eq_of_beq_eq_true hv
    obtain ⟨j, mm, rs, rfl, hj, hkd, him⟩ := xln_inv h1.1 h1.2 (by omega)
    refine XPP.inn hpc fun ad ls Hp locs cells slots hr => ?_
    obtain ⟨hi, hr1⟩ := xok_1 hr.2.2.1
    obtain ⟨ha, hr2⟩ := xok_1 hr1
    have hws := xws_get (dA := dA) (ad := ad) (H := H) hj
    have okk := hr.2.2.2.1 j hj
    rw [hkd] at hws okk
    have ei : ((i.toNat : Nat) : Int) = i := by omega
    have hlt : i.toNat < mm := by omega
    have okv := okk.2 i.toNat hlt
    rw [ei] at okv
    refine va_cald hx hb hK hr.2.2.2.2.1 j 4 hws rfl (xw_in h1.1 him (hi.1 rfl)) hd ?_
    have k := XPP.go h2 hn (hr.st (xok_cons (xok_i (by unfold xI; omega)) hr2))
    rw [xw_clamp h1.1 (hi.1 rfl), ei]
    exact k
  | false =>
    rw [hv] at h0
    cases hv4 : (Nat.beq v 4 && Nat.beq 5 1) with
    | false => rw [hv4] at h0; exact h0.elim
    | true => cases (Bool.and_eq_true_iff.mp hv4).2
theorem xs_baload (hx : p.tables.exec = Jvm.exec) (hb : c.code = cc) {pc n : Nat} {L : XL} {S : List XV} {K : XW} {H : XH} (hpc : xrp pc = pc) (hK : va_K D vwCl (xtys dA) s) (hT : ∀ k : Nat, k < 2 → va_T .byte (z.2.1 k) (xSL.getD k []).length (fun j => .int ((xbyt k).getD j 0)) A s s.heap) (hd : decode cc pc = .ok (.baload, 1)) (hn : xrp n = pc + 1) (h : xres C (XPP p l e R s m args below meth c Z nL N0 D dA z A) Q (xbald xSL n L S K H)) : XPP p l e R s m args below meth c Z nL N0 D dA z A (pc, L, S, K, H) := by
  match S, h with
  | [], h => exact h.elim
  | [_], h => exact h.elim
  | (u, i) :: (v, a) :: r, h0 =>
  unfold xbald at h0
  dsimp only at h0
  cases hu : Nat.beq u 0 with
  | false => rw [hu] at h0; exact h0.elim
  | true =>
  rw [hu] at h0
  cases Nat.eq_of_beq_eq_true hu
  cases hv : Nat.beq v 2 with
  | true =>
    rw [hv] at h0
    obtain ⟨h1, h2⟩ := h0
    cases Nat.eq_of_beq_eq_true hv
    obtain ⟨j, mm, rs, rfl, hj, hkd, him⟩ := xlnB_inv h1.1 h1.2
    refine XPP.inn hpc fun ad ls Hp locs cells slots hr => ?_
    obtain ⟨hi, hr1⟩ := xok_1 hr.2.2.1
    obtain ⟨ha, hr2⟩ := xok_1 hr1
    have hws := xws_get (dA := dA) (ad := ad) (H := H) hj
    have okk := hr.2.2.2.1 j hj
    have ei : ((i.toNat : Nat) : Int) = i := by omega
    rcases hkd with ⟨hkd, -⟩ | ⟨hkd, -⟩
    · rw [hkd] at hws okk
      have hlt : i.toNat < mm := by omega
      have okv := okk.2 i.toNat hlt
      rw [ei] at okv
      refine va_bald hx hb hK hr.2.2.2.2.1 j 2 hws rfl (xw_in h1.1 him (hi.1 rfl)) hd ?_
      have k := XPP.go h2 hn (hr.st (xok_cons (xok_i (by unfold xI; omega)) hr2))
      rw [xw_clamp h1.1 (hi.1 rfl), ei]
      exact k
    · rw [hkd] at hws okk
      have hlt : i.toNat < mm := by omega
      have okv := okk.2 i.toNat hlt
      rw [ei] at okv
      refine va_zald hx hb hK hr.2.2.2.2.1 j 3 hws rfl (xw_in h1.1 him (hi.1 rfl)) hd ?_
      have k := XPP.go h2 hn (hr.st (xok_cons (xok_i (by unfold xI; omega)) hr2))
      rw [xw_clamp h1.1 (hi.1 rfl), ei]
      exact k
  | false =>
    rw [hv] at h0
    cases hv5 : Nat.beq v 5 with
    | false => rw [hv5] at h0; exact h0.elim
    | true =>
    rw [hv5] at h0
    obtain ⟨h1, h2⟩ := h0
    cases Nat.eq_of_beq_eq_true hv5
    refine XPP.inn hpc fun ad ls Hp locs cells slots hr => ?_
    obtain ⟨hi, hr1⟩ := xok_1 hr.2.2.1
    obtain ⟨ha, hr2⟩ := xok_1 hr1
    have hk2 := ha.2.2.2 (Or.inr rfl)
    dsimp only at hk2
    obtain ⟨cell, g1, g2, g3, g4, g5, g6, g7⟩ := (hT a.toNat hk2).kept hr.2.2.2.2.2.2.1.2.1
    have hil : i.toNat < (xSL.getD a.toNat []).length := by omega
    have hby : (xbyt a.toNat).getD i.toNat 0 = Int32.ofInt ((xSL.getD a.toNat []).getD i.toNat 0) := by
      unfold xbyt
      generalize xSL.getD a.toNat [] = bs at hil
      rw [List.getD_eq_getElem?_getD, List.getElem?_map, List.getD_eq_getElem?_getD, List.getElem?_eq_getElem hil]
      rfl
    have hrg : xI ((xSL.getD a.toNat []).getD i.toNat 0) := by
      have hall : ∀ k, k < 2 → ∀ w ∈ xSL.getD k [], 0 ≤ w ∧ w ≤ 127 := by decide +kernel
      rw [List.getD_eq_getElem?_getD, List.getElem?_eq_getElem hil]
      have := hall _ hk2 _ (List.getElem_mem hil)
      unfold xI
      show -2147483648 ≤ (xSL.getD a.toNat [])[i.toNat] ∧ (xSL.getD a.toNat [])[i.toNat] ≤ 2147483647
      omega
    have hcl := xw_clamp h1.1 (hi.1 rfl)
    refine W.bald (v := .int (Int32.ofInt ((xSL.getD a.toNat []).getD i.toNat 0))) hx hb g1 g2 g3 (fun q => ?_) (by rw [hcl, g6 _ hil]; show some (Value.int ((xbyt a.toNat).getD i.toNat 0)) = _; rw [hby]) rfl rfl hd ?_
    · rcases q with q | q
      · exact xw_nneg h1.1 (hi.1 rfl) q
      · rw [hcl] at q; omega
    · exact XPP.go h2 hn (hr.st (xok_cons (xok_i hrg) hr2))
theorem xs_iastore (hx : p.tables.exec = Jvm.exec) (hb : c.code = cc) {pc n : Nat} {L : XL} {S : List XV} {K : XW} {H : XH} (hpc : xrp pc = pc) (hK : va_K D vwCl (xtys dA) s) (hd : decode cc pc = .ok (.iastore, 1)) (hn : xrp n = pc + 1) (h : xres C (XPP p l e R s m args below meth c Z nL N0 D dA z A) Q (xast 1 0 n L S K H)) : XPP p l e R s m args below meth c Z nL N0 D dA z A (pc, L, S, K, H) := by
  match S, h with
  | [], h => exact h.elim
  | [_], h => exact h.elim
  | [_, _], h => exact h.elim
  | (w, x) :: (u, i) :: (v, a) :: r, h0 =>
  obtain ⟨hb1, h1, h2⟩ := xbif_inv (o := xck (0 ≤ i ∧ i < xLn K a 1) (n, L, r, K, xup H a i x)) h0
  clear h0
  obtain ⟨hw, hb2⟩ := Bool.and_eq_true_iff.mp hb1
  obtain ⟨hu, hv⟩ := Bool.and_eq_true_iff.mp hb2
  cases Nat.eq_of_beq_eq_true hw
  cases Nat.eq_of_beq_eq_true hu
  cases Nat.eq_of_beq_eq_true hv
  have h1i := h1
  obtain ⟨j, mm, rs, rfl, hj, hkd, him⟩ := xln_inv h1i.1 h1i.2 (by omega)
  refine XPP.inn hpc fun ad ls Hp locs cells slots hr => ?_
  obtain ⟨hxx, hr0⟩ := xok_1 hr.2.2.1
  obtain ⟨hi, hr1⟩ := xok_1 hr0
  obtain ⟨ha, hr2⟩ := xok_1 hr1
  have hws := xws_get (dA := dA) (ad := ad) (H := H) hj
  rw [hkd] at hws
  have hcl := xw_clamp h1i.1 (hi.1 rfl)
  refine va_iast hx hb hK hr.2.2.2.2.1 hr.2.2.2.2.2.1 hr.2.2.2.2.2.2.1 j 0 hws rfl (xw_in h1i.1 him (hi.1 rfl)) hd fun H1 locs1 g1 g2 g3 => ?_
  rw [hcl, xupd_fun h1i.1] at g1 g2
  have es := xws_ai (dA := dA) (ad := ad) (H := H) (i := i) (x := x) hkd (by omega)
  have g1 := es ▸ g1
  have g2 := es ▸ g2
  exact XPP.go h2 hn ⟨hr.1, hr.2.1, hr2, xokh_up hr.2.2.2.1 hj hkd (by omega) ⟨fun _ => hxx.1 rfl, fun q => by omega, fun q => by omega, fun q => by omega, fun q => by omega⟩, g1, g2, g3, hr.2.2.2.2.2.2.2⟩
theorem xs_lastore (hx : p.tables.exec = Jvm.exec) (hb : c.code = cc) {pc n : Nat} {L : XL} {S : List XV} {K : XW} {H : XH} (hpc : xrp pc = pc) (hK : va_K D vwCl (xtys dA) s) (hd : decode cc pc = .ok (.lastore, 1)) (hn : xrp n = pc + 1) (h : xres C (XPP p l e R s m args below meth c Z nL N0 D dA z A) Q (xast 2 1 n L S K H)) : XPP p l e R s m args below meth c Z nL N0 D dA z A (pc, L, S, K, H) := by
  match S, h with
  | [], h => exact h.elim
  | [_], h => exact h.elim
  | [_, _], h => exact h.elim
  | (w, x) :: (u, i) :: (v, a) :: r, h0 =>
  obtain ⟨hb1, h1, h2⟩ := xbif_inv (o := xck (0 ≤ i ∧ i < xLn K a 2) (n, L, r, K, xup H a i x)) h0
  clear h0
  obtain ⟨hw, hb2⟩ := Bool.and_eq_true_iff.mp hb1
  obtain ⟨hu, hv⟩ := Bool.and_eq_true_iff.mp hb2
  cases Nat.eq_of_beq_eq_true hw
  cases Nat.eq_of_beq_eq_true hu
  cases Nat.eq_of_beq_eq_true hv
  have h1i := h1
  obtain ⟨j, mm, rs, rfl, hj, hkd, him⟩ := xln_inv h1i.1 h1i.2 (by omega)
  refine XPP.inn hpc fun ad ls Hp locs cells slots hr => ?_
  obtain ⟨hxx, hr0⟩ := xok_1 hr.2.2.1
  obtain ⟨hi, hr1⟩ := xok_1 hr0
  obtain ⟨ha, hr2⟩ := xok_1 hr1
  have hws := xws_get (dA := dA) (ad := ad) (H := H) hj
  rw [hkd] at hws
  have hcl := xw_clamp h1i.1 (hi.1 rfl)
  refine va_last hx hb hK hr.2.2.2.2.1 hr.2.2.2.2.2.1 hr.2.2.2.2.2.2.1 j 1 hws rfl (xw_in h1i.1 him (hi.1 rfl)) hd fun H1 locs1 g1 g2 g3 => ?_
  rw [hcl, xupdL_fun h1i.1] at g1 g2
  have es := xws_al (dA := dA) (ad := ad) (H := H) (i := i) (x := x) hkd
  have g1 := es ▸ g1
  have g2 := es ▸ g2
  exact XPP.go h2 hn ⟨hr.1, hr.2.1, hr2, xokh_up hr.2.2.2.1 hj hkd (by omega) ⟨fun q => by omega, fun _ => hxx.2.1 rfl, fun q => by omega, fun q => by omega, fun q => by omega⟩, g1, g2, g3, hr.2.2.2.2.2.2.2⟩
theorem xs_castore (hx : p.tables.exec = Jvm.exec) (hb : c.code = cc) {pc n : Nat} {L : XL} {S : List XV} {K : XW} {H : XH} (hpc : xrp pc = pc) (hK : va_K D vwCl (xtys dA) s) (hd : decode cc pc = .ok (.castore, 1)) (hn : xrp n = pc + 1) (h : xres C (XPP p l e R s m args below meth c Z nL N0 D dA z A) Q (xast 5 0 n L S K H)) : XPP p l e R s m args below meth c Z nL N0 D dA z A (pc, L, S, K, H) := by
  match S, h with
  | [], h => exact h.elim
  | [_], h => exact h.elim
  | [_, _], h => exact h.elim
  | (w, x) :: (u, i) :: (v, a) :: r, h0 =>
  obtain ⟨hb1, h1, h2⟩ := xbif_inv (o := xck ((0 ≤ i ∧ i < xLn K a 5) ∧ 0 ≤ x ∧ x ≤ 65535) (n, L, r, K, xup H a i x)) h0
  clear h0
  obtain ⟨hw, hb2⟩ := Bool.and_eq_true_iff.mp hb1
  obtain ⟨hu, hv⟩ := Bool.and_eq_true_iff.mp hb2
  cases Nat.eq_of_beq_eq_true hw
  cases Nat.eq_of_beq_eq_true hu
  cases Nat.eq_of_beq_eq_true hv
  have h1i := h1.1
  obtain ⟨j, mm, rs, rfl, hj, hkd, him⟩ := xln_inv h1i.1 h1i.2 (by omega)
  refine XPP.inn hpc fun ad ls Hp locs cells slots hr => ?_
  obtain ⟨hxx, hr0⟩ := xok_1 hr.2.2.1
  obtain ⟨hi, hr1⟩ := xok_1 hr0
  obtain ⟨ha, hr2⟩ := xok_1 hr1
  have hws := xws_get (dA := dA) (ad := ad) (H := H) hj
  rw [hkd] at hws
  have hcl := xw_clamp h1i.1 (hi.1 rfl)
  refine va_cast hx hb hK hr.2.2.2.2.1 hr.2.2.2.2.2.1 hr.2.2.2.2.2.2.1 j 4 hws rfl (xw_in h1i.1 him (hi.1 rfl)) hd fun H1 locs1 g1 g2 g3 => ?_
  rw [xw_narV (xw_narC h1.2).1] at g1 g2
  rw [hcl, xupd_fun h1i.1] at g1 g2
  have es := xws_ai (dA := dA) (ad := ad) (H := H) (i := i) (x := x) hkd (by omega)
  have g1 := es ▸ g1
  have g2 := es ▸ g2
  exact XPP.go h2 hn ⟨hr.1, hr.2.1, hr2, xokh_up hr.2.2.2.1 hj hkd (by omega) ⟨fun q => by omega, fun q => by omega, fun q => by omega, fun q => by omega, fun _ => h1.2⟩, g1, g2, g3, hr.2.2.2.2.2.2.2⟩
theorem xs_bastore (hx : p.tables.exec = Jvm.exec) (hb : c.code = cc) {pc n : Nat} {L : XL} {S : List XV} {K : XW} {H : XH} (hpc : xrp pc = pc) (hK : va_K D vwCl (xtys dA) s) (hd : decode cc pc = .ok (.bastore, 1)) (hn : xrp n = pc + 1) (h : xres C (XPP p l e R s m args below meth c Z nL N0 D dA z A) Q (xast 3 0 n L S K H)) : XPP p l e R s m args below meth c Z nL N0 D dA z A (pc, L, S, K, H) := by
  match S, h with
  | [], h => exact h.elim
  | [_], h => exact h.elim
  | [_, _], h => exact h.elim
  | (w, x) :: (u, i) :: (v, a) :: r, h0 =>
  obtain ⟨hb1, h1, h2⟩ := xbif_inv (o := xck ((0 ≤ i ∧ i < xLnB K a) ∧ xfB (xTy K a) x) (n, L, r, K, xup H a i x)) h0
  clear h0
  obtain ⟨hw, hb2⟩ := Bool.and_eq_true_iff.mp hb1
  obtain ⟨hu, hv⟩ := Bool.and_eq_true_iff.mp hb2
  cases Nat.eq_of_beq_eq_true hw
  cases Nat.eq_of_beq_eq_true hu
  cases Nat.eq_of_beq_eq_true hv
  obtain ⟨⟨h10, h11⟩, h12⟩ := h1
  obtain ⟨j, mm, rs, rfl, hj, hkd, him⟩ := xlnB_inv h10 h11
  refine XPP.inn hpc fun ad ls Hp locs cells slots hr => ?_
  obtain ⟨hxx, hr0⟩ := xok_1 hr.2.2.1
  obtain ⟨hi, hr1⟩ := xok_1 hr0
  obtain ⟨ha, hr2⟩ := xok_1 hr1
  have hws := xws_get (dA := dA) (ad := ad) (H := H) hj
  have hcl := xw_clamp h10 (hi.1 rfl)
  rcases hkd with ⟨hkd, hty⟩ | ⟨hkd, hty⟩
  · have hxb := h12.1 hty
    rw [hkd] at hws
    refine va_bast hx hb hK hr.2.2.2.2.1 hr.2.2.2.2.2.1 hr.2.2.2.2.2.2.1 j 2 hws rfl (xw_in h10 him (hi.1 rfl)) hd fun H1 locs1 g1 g2 g3 => ?_
    rw [xw_narV (xw_narB hxb).1, hcl, xupd_fun h10] at g1 g2
    have es := xws_ai (dA := dA) (ad := ad) (H := H) (i := i) (x := x) hkd (by omega)
    have g1 := es ▸ g1
    have g2 := es ▸ g2
    exact XPP.go h2 hn ⟨hr.1, hr.2.1, hr2, xokh_up hr.2.2.2.1 hj hkd (by omega) ⟨fun q => by omega, fun q => by omega, fun _ => hxb, fun q => by omega, fun q => by omega⟩, g1, g2, g3, hr.2.2.2.2.2.2.2⟩
  · have hxb := h12.2 hty
    rw [hkd] at hws
    refine va_zast hx hb hK hr.2.2.2.2.1 hr.2.2.2.2.2.1 hr.2.2.2.2.2.2.1 j 3 hws rfl (xw_in h10 him (hi.1 rfl)) hd fun H1 locs1 g1 g2 g3 => ?_
    rw [xw_narV (xw_narZ hxb).1, hcl, xupd_fun h10] at g1 g2
    have es := xws_ai (dA := dA) (ad := ad) (H := H) (i := i) (x := x) hkd (by omega)
    have g1 := es ▸ g1
    have g2 := es ▸ g2
    exact XPP.go h2 hn ⟨hr.1, hr.2.1, hr2, xokh_up hr.2.2.2.1 hj hkd (by omega) ⟨fun q => by omega, fun q => by omega, fun q => by omega, fun _ => hxb, fun q => by omega⟩, g1, g2, g3, hr.2.2.2.2.2.2.2⟩
end XS
