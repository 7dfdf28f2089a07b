/-! SOUNDNESS 8: copies of rows, Object's own constructor, a text's fields -/
section XS
variable {p : Program} {l : Launch} {e : Env} {R : Room} {s : State} {m : MethodId} {args : Array Value} {below : List Frame} {meth : Method} {c : Code} {Z : State → Prop}
variable {cc : ByteArray} {nL : Nat} {N0 : Nat × (Nat → Nat)} {D : va_G} {dA : Nat → ClassId} {z : (Nat → Nat) × (Nat → Nat) × Nat × Value} {A : Nat → Prop} {C : XC} {Q : XQ} {X : Int × (Int → Int)}
theorem xroom_le {ad : Nat → Nat} (hz : z.2.2.2.category = 1) {S : List XV} (h : xroom S = true) : ((S.map (xv (ad, z))).map fun v => v.category).sum ≤ 8 := by
  have h1 := Nat.le_of_ble_eq_true h
  have h2 : ((S.map (xv (ad, z))).map fun v => v.category).sum = (S.map xcat).foldr Nat.add 0 := by
    rw [List.map_map]
    rw [show (fun v : Value => v.category) ∘ xv (ad, z) = xcat from funext fun v => xv_cat (Z := (ad, z)) hz v]
    rfl
  omega
theorem xs_acp (hx : p.tables.exec = Jvm.exec) (hb : c.code = cc) (hml : c.maxLocals = nL) {pc n : Nat} {L : XL} {S : List XV} {K : XW} {H : XH} (hpc : xrp pc = pc) (hz : z.2.2.2.category = 1) {own : String} {idx : Nat} (hown : s.vm.findClass own = some m.cls) (hlink : (Cond.methodLink own idx arraycopyName).before args s = true) (hnat : (Cond.native arraycopyName).before args s = true) (hstat : (Cond.static arraycopyName).before args s = true) (hini : (Cond.initialized "java/lang/System").before args s = true) (hR : 1 ≤ R.frames ∧ 40 ≤ R.locals) (hK : va_K D vwCl (xtys dA) s) (hd : decode cc pc = .ok (.invokestatic idx, 3)) (hn : xrp n = pc + 3)
    (h : xres C (XPP p l e R s m args below meth c Z nL N0 D dA z A) Q (xacp n L S K H)) : XPP p l e R s m args below meth c Z nL N0 D dA z A (pc, L, S, K, H) := by
  match S, h with
  | [], h => exact h.elim
  | [_], h => exact h.elim
  | [_, _], h => exact h.elim
  | [_, _, _], h => exact h.elim
  | [_, _, _, _], h => exact h.elim
  | (t1, x) :: (t2, dp) :: (t3, d) :: (t4, sp) :: (t5, a) :: r, h0 =>
  obtain ⟨hb1, ⟨ha1, hd1, h1, h2, h3, h4, h5⟩, h6⟩ := xbif_inv (o := xck (xTy K a = 1 ∧ xTy K d = 1 ∧ 0 ≤ sp ∧ 0 ≤ dp ∧ 0 ≤ x ∧ sp + x ≤ xLen K a ∧ dp + x ≤ xLen K d) (n, L, r, K, xcpy H a d sp dp x)) h0
  clear h0
  simp only [Bool.and_eq_true] at hb1
  obtain ⟨b1, b2, b3, b4, b5, b6⟩ := hb1
  cases Nat.eq_of_beq_eq_true b1
  cases Nat.eq_of_beq_eq_true b2
  cases Nat.eq_of_beq_eq_true b3
  cases Nat.eq_of_beq_eq_true b4
  cases Nat.eq_of_beq_eq_true b5
  refine XPP.inn hpc fun ad ls Hp locs cells slots hr => ?_
  obtain ⟨ok1, hr1⟩ := xok_1 hr.2.2.1
  obtain ⟨ok2, hr2⟩ := xok_1 hr1
  obtain ⟨ok3, hr3⟩ := xok_1 hr2
  obtain ⟨ok4, hr4⟩ := xok_1 hr3
  obtain ⟨ok5, hr5⟩ := xok_1 hr4
  obtain ⟨ja, ma, ra, rfl, hja, hka, hla⟩ := xty_inv ha1 (by omega)
  obtain ⟨jd, md, rd, rfl, hjd, hkd, hld⟩ := xty_inv hd1 (by omega)
  rw [hla] at h4
  rw [hld] at h5
  have hwa := xws_get (dA := dA) (ad := ad) (H := H) hja
  have hwd := xws_get (dA := dA) (ad := ad) (H := H) hjd
  have oka := hr.2.2.2.1 ja hja
  have okd := hr.2.2.2.1 jd hjd
  rw [hka] at hwa oka
  rw [hkd] at hwd okd
  have cs := xw_clamp h1 (ok4.1 rfl)
  have cd := xw_clamp h2 (ok2.1 rfl)
  have cx := xw_clamp h3 (ok1.1 rfl)
  refine va_copyi hx hb (by rw [hml]; exact hr.1.1.symm) hown hlink hnat hstat hini hK hr.2.2.2.2.1 hr.2.2.2.2.2.1 hr.2.2.2.2.2.2.1 ja jd 0 0 hwa hwd rfl rfl rfl (xw_nneg h1 (ok4.1 rfl)) (xw_nneg h2 (ok2.1 rfl)) (xw_nneg h3 (ok1.1 rfl)) (by rw [cs, cx]; show sp.toNat + x.toNat ≤ ma; omega) (by rw [cd, cx]; show dp.toNat + x.toNat ≤ md; omega) (fun _ _ => rfl) hR.1 ?_ hd fun H1 locs1 g1 g2 g3 => ?_
  · have q := xroom_le (ad := ad) hz b6
    have q2 : nativeFrameWords "java/lang/System" "arraycopy" 5 ≤ 20 := by decide +kernel
    omega
  · have es : (xws dA ad K.1 H).set jd (ad jd, .inl (dA 1, md, .inl (va_cpy (fun j : Nat => Int32.ofInt (H ja j)) (fun j : Nat => Int32.ofInt (H jd j)) sp.toNat dp.toNat x.toNat))) = xws dA ad K.1 (xcpy H ja jd sp dp x) := by
      refine xws_set rfl ?_ fun q hq hqj => ?_
      · rw [hkd]
        refine congrArg (fun f => (Sum.inl (dA 1, md, Sum.inl f) : va_E)) (funext fun k => ?_)
        unfold va_cpy xcpy
        by_cases hk : dp ≤ (k : Int) ∧ (k : Int) < dp + x
        · rw [if_pos (show dp.toNat ≤ k ∧ k < dp.toNat + x.toNat by omega), if_pos ⟨rfl, hk⟩]
          show Int32.ofInt (H ja ((sp.toNat + (k - dp.toNat) : Nat) : Int)) = _
          rw [show (((sp.toNat + (k - dp.toNat) : Nat)) : Int) = sp + ((k : Int) - dp) by omega]
        · rw [if_neg (show ¬ (dp.toNat ≤ k ∧ k < dp.toNat + x.toNat) by omega), if_neg (fun q => hk q.2)]
      · rw [show xcpy H (ja : Int) (jd : Int) sp dp x (q : Int) = H q from funext fun k => by unfold xcpy; rw [if_neg (fun w => by omega)]]
    rw [cs, cd, cx] at g1 g2
    have g1 := es ▸ g1
    have g2 := es ▸ g2
    refine XPP.go h6 hn ⟨hr.1, hr.2.1, hr5, fun q hq => ?_, g1, g2, g3, hr.2.2.2.2.2.2.2⟩
    by_cases hqj : q = jd
    · subst hqj
      rw [hkd]
      refine ⟨okd.1, fun j hj => ?_⟩
      unfold xcpy
      by_cases hk : dp ≤ (j : Int) ∧ (j : Int) < dp + x
      · rw [if_pos ⟨rfl, hk⟩]
        have hlt : (sp + ((j : Int) - dp)).toNat < ma := by omega
        have := oka.2 (sp + ((j : Int) - dp)).toNat hlt
        rw [show (((sp + ((j : Int) - dp)).toNat : Nat) : Int) = sp + ((j : Int) - dp) by omega] at this
        exact this
      · rw [if_neg (fun w => hk w.2)]
        exact okd.2 j hj
    · have e : xcpy H (ja : Int) (jd : Int) sp dp x (q : Int) = H q := funext fun k => by unfold xcpy; rw [if_neg (fun w => by omega)]
      rw [e]
      exact hr.2.2.2.1 q hq
theorem xs_objInit (hx : p.tables.exec = Jvm.exec) (hb : c.code = cc) (hml : c.maxLocals = nL) {pc n : Nat} {L : XL} {r : List XV} {o : Int} {K : XW} {H : XH} (hpc : xrp pc = pc) {own : String} {idx : Nat} (hown : s.vm.findClass own = some m.cls) (hlink : (Cond.methodLink own idx Lib.objectInit).before args s = true) (hinst : (Cond.instanceMethod Lib.objectInit).before args s = true) (hcode : (Cond.code Lib.objectInit ⟨#[0xb1]⟩ 1 none).before args s = true) (hz : z.2.2.2.category = 1) (hr8 : xroom r = true) (ho : 0 ≤ o) (hR : 1 ≤ R.frames ∧ 40 ≤ R.locals) (hd : decode cc pc = .ok (.invokespecial idx, 3)) (hn : xrp n = pc + 3)
    (h : XPP p l e R s m args below meth c Z nL N0 D dA z A (n, L, r, K, H)) : XPP p l e R s m args below meth c Z nL N0 D dA z A (pc, L, (2, o) :: r, K, H) := by
  refine XPP.inn hpc fun ad ls Hp locs cells slots hr => ?_
  obtain ⟨ok1, hr1⟩ := xok_1 hr.2.2.1
  obtain ⟨k, rfl⟩ : ∃ k : Nat, o = k := ⟨o.toNat, by omega⟩
  refine W.objInit hx hb hown hlink hinst hcode rfl (by rw [hml]; exact hr.1.1) (a := ad k) rfl hd hR.1 ?_ ?_
  · have := xroom_le (ad := ad) hz hr8
    have h2 := lv_room (m := m) (pc := pc) (ls := ls) (rest := (xv (ad, z) (2, (k : Int))) :: r.map (xv (ad, z))) this
    show 2 * (F0 m pc ls _).monitorRoom + _ + 12 ≤ R.locals
    exact Nat.le_trans (Nat.add_le_add_right h2 12) (by omega)
  · exact XPP.go h hn (hr.st hr1)
theorem xs_getfS (hx : p.tables.exec = Jvm.exec) (hb : c.code = cc) {pc n : Nat} {L : XL} {S : List XV} {K : XW} {H : XH} (hpc : xrp pc = pc) {k idx : Nat} {tl : List (Int × Nat)} (hown : s.vm.findClass "java/lang/String" = some m.cls) (hlink : (k = 0 ∧ (Cond.fieldLink "java/lang/String" idx "java/lang/String" "coder" "B").before args s = true) ∨ (k = 1 ∧ (Cond.fieldLink "java/lang/String" idx "java/lang/String" "value" "[B").before args s = true)) (hS : vk_S 2 [87, 11] [xbyt 0, xbyt 1] z.1 z.2.1 A s s.heap) (hd : decode cc pc = .ok (.getfield idx, 3)) (hn : xrp n = pc + 3)
    (h : xres C (XPP p l e R s m args below meth c Z nL N0 D dA z A) Q (xgf xTT n 100 k tl L S K H)) : XPP p l e R s m args below meth c Z nL N0 D dA z A (pc, L, S, K, H) := by
  match S, h with
  | [], h => exact h.elim
  | (u, o) :: r, h0 =>
  unfold xgf at h0
  dsimp only at h0
  cases hu : Nat.beq u 2 with
  | true =>
    rw [hu] at h0
    cases hcl : Nat.beq (xCls K o) 100 with
    | false => rw [hcl] at h0; exact h0.elim
    | true =>
      rw [hcl] at h0
      have e9 : xsl xTT 100 k = 9 := by
        unfold xsl
        rw [show xTT.getD 100 [] = [] from by decide +kernel]
        rfl
      rw [e9] at h0
      exact h0.elim
  | false =>
    rw [hu] at h0
    cases h3 : (Nat.beq u 3 && Nat.beq 100 100) with
    | false => rw [h3] at h0; exact h0.elim
    | true =>
    rw [h3] at h0
    have h := h0
    clear h0
    dsimp only [cond_true] at h
    cases Nat.eq_of_beq_eq_true (Bool.and_eq_true_iff.mp h3).1
    refine XPP.inn hpc fun ad ls Hp locs cells slots hr => ?_
    obtain ⟨ok1, hr1⟩ := xok_1 hr.2.2.1
    have hk2 := ok1.2.2.2 (Or.inl rfl)
    dsimp only at hk2
    obtain ⟨-, g2, g3, -⟩ := hS.1 o.toNat hk2
    rcases hlink with ⟨rfl, hl⟩ | ⟨rfl, hl⟩
    · refine vk_getf hx hb g2 hr.2.2.2.2.2.2.1 hown hl (fun _ h => h) hd ?_
      exact XPP.go (S := (0, 0) :: r) h hn (hr.st (xok_cons (xok_i xw_0) hr1))
    · refine vk_getf hx hb g3 hr.2.2.2.2.2.2.1 hown hl (fun _ h => h) hd ?_
      exact XPP.go (S := (5, o) :: r) h hn (hr.st (xok_cons ⟨fun e => (by cases e), fun e => (by cases e), fun e => (by cases e), fun _ => hk2⟩ hr1))
end XS
