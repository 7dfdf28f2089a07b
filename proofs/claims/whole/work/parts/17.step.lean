/-! SOUNDNESS 12: a step, a body, a method -/
theorem xlen1 {own : String} {init : Bool} {nL : Nat} {cc : ByteArray} {pc n r1 r2 : Nat} {tl : List (Int × Nat)} {b : Bool} {ins : Instr} {k : Nat} (h : (Nat.blt pc 100000 && (decide (decode cc pc = .ok (ins, k)) && (Nat.beq (xrp n) (pc + k) && b))) = true) : xrp pc = pc ∧ decode cc pc = .ok (ins, k) ∧ xrp n = pc + k ∧ b = true := by
  obtain ⟨h1, h2⟩ := xk1 h
  obtain ⟨h3, h4⟩ := xk1 h2
  obtain ⟨h5, h6⟩ := xk1 h4
  exact ⟨xrp_lt (Nat.le_of_ble_eq_true h1), of_decide_eq_true h3, Nat.eq_of_beq_eq_true h5, h6⟩
theorem xi8 : ∀ c : Int, (-128 ≤ c ∧ c ≤ 127) → (Int8.ofInt c).toInt32 = Int32.ofInt c := by
  intro c h
  apply Int32.toInt_inj.mp
  rw [Int8.toInt_toInt32, Int8.toInt_ofInt_of_le (by omega) (by omega), xw_I (by unfold xI; omega)]
theorem xi16 : ∀ c : Int, (-32768 ≤ c ∧ c ≤ 32767) → (Int16.ofInt c).toInt32 = Int32.ofInt c := by
  intro c h
  apply Int32.toInt_inj.mp
  rw [Int16.toInt_toInt32, Int16.toInt_ofInt_of_le (by omega) (by omega), xw_I (by unfold xI; omega)]
section XS
variable {p : Program} {l : Launch} {e : Env} {R : Room} {s : State} {m : MethodId} {args : Array Value} {below : List Frame} {meth : Method} {c : Code} {Z : State → Prop}
variable {cc : ByteArray} {nL : Nat} {N0 : Nat × (Nat → Nat)} {D : va_G} {dA : Nat → ClassId} {z : (Nat → Nat) × (Nat → Nat) × Nat × Value} {A : Nat → Prop} {C : XC} {Q : XQ} {X : Int × (Int → Int)}
theorem xstr {s : State} (hXF : XF D dA z X A s s.heap) : ∀ k : Nat, k < 2 → va_T .byte (z.2.1 k) (xSL.getD k []).length (fun j => .int ((xbyt k).getD j 0)) A s s.heap := by
  intro k hk
  have h := (hXF.2.2.2.1.1.1 k hk).2.2.2
  have e0 : (xSL.getD 0 []).length = 87 := by decide +kernel
  have e1 : (xSL.getD 1 []).length = 11 := by decide +kernel
  rcases (show k = 0 ∨ k = 1 by omega) with rfl | rfl
  · rw [e0]
    exact h
  · rw [e1]
    exact h
theorem xstep {own : String} {init : Bool} (Cx : XCx p R s m args meth c cc nL own init D dA z X A) (hcode : ∀ y, y < 265 → Jvm.Cond.code (xNm y).1 (xNm y).2.1 (xNm y).2.2.1 (xNm y).2.2.2.1 ∈ wsG) (hC : XCall l R C D dA z X) {rt : Nat}
    (hR0 : ∀ (pc : Nat) (L : XL) (x : Int) (K : XW) (H : XH), xrp pc = pc → decode cc pc = .ok (.ireturn, 1) → ¬ rt = 1 → ¬ rt = 2 → xfR rt x → Q x K H → XPP p l e R s m args below meth c Z nL N0 D dA z A (pc, L, [(0, x)], K, H))
    (hR1 : ∀ (pc : Nat) (L : XL) (x : Int) (K : XW) (H : XH), xrp pc = pc → decode cc pc = .ok (.lreturn, 1) → rt = 1 → Q x K H → XPP p l e R s m args below meth c Z nL N0 D dA z A (pc, L, [(1, x)], K, H))
    (hR2 : ∀ (pc : Nat) (L : XL) (K : XW) (H : XH), xrp pc = pc → decode cc pc = .ok (.return_, 1) → rt = 2 → Q 0 K H → XPP p l e R s m args below meth c Z nL N0 D dA z A (pc, L, [], K, H))
    {pc : Nat} {i : XI} (hck : xchk own init nL cc pc i = true) {L : XL} {S : List XV} {K : XW} {H : XH}
    (h : xres C (XPP p l e R s m args below meth c Z nL N0 D dA z A) Q (xop (X, xTT, xSL, xMI) rt pc i L S K H)) : XPP p l e R s m args below meth c Z nL N0 D dA z A (pc, L, S, K, H) := by
  obtain ⟨ins, n, r1, r2, tl⟩ := i
  have Cx0 := Cx
  obtain ⟨hx, hb, hml, hown, hts, hXF, hA, hX, hinit, hR, hzq⟩ := Cx
  have hz : z.2.2.2.category = 1 := hXF.2.2.2.2.2.2
  have hK := hXF.1
  cases ins
  case iadd =>
    obtain ⟨hpc, hd, hn, hw⟩ := xlen1 (own := own) (init := init) (nL := nL) (r1 := r1) (r2 := r2) (tl := tl) hck
    exact xs_iadd hx hb hpc hd hn h
  case isub =>
    obtain ⟨hpc, hd, hn, hw⟩ := xlen1 (own := own) (init := init) (nL := nL) (r1 := r1) (r2 := r2) (tl := tl) hck
    exact xs_isub hx hb hpc hd hn h
  case imul =>
    obtain ⟨hpc, hd, hn, hw⟩ := xlen1 (own := own) (init := init) (nL := nL) (r1 := r1) (r2 := r2) (tl := tl) hck
    exact xs_imul hx hb hpc hd hn h
  case idiv =>
    obtain ⟨hpc, hd, hn, hw⟩ := xlen1 (own := own) (init := init) (nL := nL) (r1 := r1) (r2 := r2) (tl := tl) hck
    exact xs_idiv hx hb hpc hd hn h
  case irem =>
    obtain ⟨hpc, hd, hn, hw⟩ := xlen1 (own := own) (init := init) (nL := nL) (r1 := r1) (r2 := r2) (tl := tl) hck
    exact xs_irem hx hb hpc hd hn h
  case ineg =>
    obtain ⟨hpc, hd, hn, hw⟩ := xlen1 (own := own) (init := init) (nL := nL) (r1 := r1) (r2 := r2) (tl := tl) hck
    exact xs_ineg hx hb hpc hd hn h
  case iand =>
    obtain ⟨hpc, hd, hn, hw⟩ := xlen1 (own := own) (init := init) (nL := nL) (r1 := r1) (r2 := r2) (tl := tl) hck
    exact xs_iand hx hb hpc hd hn h
  case ior =>
    obtain ⟨hpc, hd, hn, hw⟩ := xlen1 (own := own) (init := init) (nL := nL) (r1 := r1) (r2 := r2) (tl := tl) hck
    exact xs_ior hx hb hpc hd hn h
  case ixor =>
    obtain ⟨hpc, hd, hn, hw⟩ := xlen1 (own := own) (init := init) (nL := nL) (r1 := r1) (r2 := r2) (tl := tl) hck
    exact xs_ixor hx hb hpc hd hn h
  case ishl =>
    obtain ⟨hpc, hd, hn, hw⟩ := xlen1 (own := own) (init := init) (nL := nL) (r1 := r1) (r2 := r2) (tl := tl) hck
    exact xs_ishl hx hb hpc hd hn h
  case ishr =>
    obtain ⟨hpc, hd, hn, hw⟩ := xlen1 (own := own) (init := init) (nL := nL) (r1 := r1) (r2 := r2) (tl := tl) hck
    exact xs_ishr hx hb hpc hd hn h
  case ladd =>
    obtain ⟨hpc, hd, hn, hw⟩ := xlen1 (own := own) (init := init) (nL := nL) (r1 := r1) (r2 := r2) (tl := tl) hck
    exact xs_ladd hx hb hpc hd hn h
  case lsub =>
    obtain ⟨hpc, hd, hn, hw⟩ := xlen1 (own := own) (init := init) (nL := nL) (r1 := r1) (r2 := r2) (tl := tl) hck
    exact xs_lsub hx hb hpc hd hn h
  case lmul =>
    obtain ⟨hpc, hd, hn, hw⟩ := xlen1 (own := own) (init := init) (nL := nL) (r1 := r1) (r2 := r2) (tl := tl) hck
    exact xs_lmul hx hb hpc hd hn h
  case ldiv =>
    obtain ⟨hpc, hd, hn, hw⟩ := xlen1 (own := own) (init := init) (nL := nL) (r1 := r1) (r2 := r2) (tl := tl) hck
    exact xs_ldiv hx hb hpc hd hn h
  case lneg =>
    obtain ⟨hpc, hd, hn, hw⟩ := xlen1 (own := own) (init := init) (nL := nL) (r1 := r1) (r2 := r2) (tl := tl) hck
    exact xs_lneg hx hb hpc hd hn h
  case land =>
    obtain ⟨hpc, hd, hn, hw⟩ := xlen1 (own := own) (init := init) (nL := nL) (r1 := r1) (r2 := r2) (tl := tl) hck
    exact xs_land hx hb hpc hd hn h
  case lor =>
    obtain ⟨hpc, hd, hn, hw⟩ := xlen1 (own := own) (init := init) (nL := nL) (r1 := r1) (r2 := r2) (tl := tl) hck
    exact xs_lor hx hb hpc hd hn h
  case lshl =>
    obtain ⟨hpc, hd, hn, hw⟩ := xlen1 (own := own) (init := init) (nL := nL) (r1 := r1) (r2 := r2) (tl := tl) hck
    exact xs_lshl hx hb hpc hd hn h
  case lushr =>
    obtain ⟨hpc, hd, hn, hw⟩ := xlen1 (own := own) (init := init) (nL := nL) (r1 := r1) (r2 := r2) (tl := tl) hck
    exact xs_lushr hx hb hpc hd hn h
  case lcmp =>
    obtain ⟨hpc, hd, hn, hw⟩ := xlen1 (own := own) (init := init) (nL := nL) (r1 := r1) (r2 := r2) (tl := tl) hck
    exact xs_lcmp hx hb hpc hd hn h
  case i2l =>
    obtain ⟨hpc, hd, hn, hw⟩ := xlen1 (own := own) (init := init) (nL := nL) (r1 := r1) (r2 := r2) (tl := tl) hck
    exact xs_i2l hx hb hpc hd hn h
  case l2i =>
    obtain ⟨hpc, hd, hn, hw⟩ := xlen1 (own := own) (init := init) (nL := nL) (r1 := r1) (r2 := r2) (tl := tl) hck
    exact xs_l2i hx hb hpc hd hn h
  case i2b =>
    obtain ⟨hpc, hd, hn, hw⟩ := xlen1 (own := own) (init := init) (nL := nL) (r1 := r1) (r2 := r2) (tl := tl) hck
    exact xs_i2b hx hb hpc hd hn h
  case i2c =>
    obtain ⟨hpc, hd, hn, hw⟩ := xlen1 (own := own) (init := init) (nL := nL) (r1 := r1) (r2 := r2) (tl := tl) hck
    exact xs_i2c hx hb hpc hd hn h
  case aconst_null =>
    obtain ⟨hpc, hd, hn, hw⟩ := xlen1 (own := own) (init := init) (nL := nL) (r1 := r1) (r2 := r2) (tl := tl) hck
    exact xs_null hx hb hpc hd hn h
  case iconst v =>
    obtain ⟨hpc, hd, hn, hw⟩ := xlen1 (own := own) (init := init) (nL := nL) (r1 := r1) (r2 := r2) (tl := tl) hck
    have hv := of_decide_eq_true hw
    exact xs_iconst hx hb hpc hd hn hv h
  case bipush v =>
    obtain ⟨hpc, hd, hn, hw⟩ := xlen1 (own := own) (init := init) (nL := nL) (r1 := r1) (r2 := r2) (tl := tl) hck
    have hv := of_decide_eq_true hw
    exact xs_bipush hx hb hpc hd hn (by unfold xI; omega) (xi8 v hv) h
  case sipush v =>
    obtain ⟨hpc, hd, hn, hw⟩ := xlen1 (own := own) (init := init) (nL := nL) (r1 := r1) (r2 := r2) (tl := tl) hck
    have hv := of_decide_eq_true hw
    exact xs_sipush hx hb hpc hd hn (by unfold xI; omega) (xi16 v hv) h
  case lconst v =>
    obtain ⟨hpc, hd, hn, hw⟩ := xlen1 (own := own) (init := init) (nL := nL) (r1 := r1) (r2 := r2) (tl := tl) hck
    exact xs_lconst hx hb hpc hd hn h
  case iload k =>
    obtain ⟨hpc, hd, hn, hw⟩ := xlen1 (own := own) (init := init) (nL := nL) (r1 := r1) (r2 := r2) (tl := tl) hck
    exact xs_iload hx hb hpc hd hn h
  case iload_n k =>
    obtain ⟨hpc, hd, hn, hw⟩ := xlen1 (own := own) (init := init) (nL := nL) (r1 := r1) (r2 := r2) (tl := tl) hck
    exact xs_iload_n hx hb hpc hd hn h
  case lload k =>
    obtain ⟨hpc, hd, hn, hw⟩ := xlen1 (own := own) (init := init) (nL := nL) (r1 := r1) (r2 := r2) (tl := tl) hck
    exact xs_lload hx hb hpc hd hn h
  case lload_n k =>
    obtain ⟨hpc, hd, hn, hw⟩ := xlen1 (own := own) (init := init) (nL := nL) (r1 := r1) (r2 := r2) (tl := tl) hck
    exact xs_lload_n hx hb hpc hd hn h
  case aload k =>
    obtain ⟨hpc, hd, hn, hw⟩ := xlen1 (own := own) (init := init) (nL := nL) (r1 := r1) (r2 := r2) (tl := tl) hck
    exact xs_aload hx hb hpc hzq hd hn h
  case aload_n k =>
    obtain ⟨hpc, hd, hn, hw⟩ := xlen1 (own := own) (init := init) (nL := nL) (r1 := r1) (r2 := r2) (tl := tl) hck
    exact xs_aload_n hx hb hpc hzq hd hn h
  case istore k =>
    obtain ⟨hpc, hd, hn, hw⟩ := xlen1 (own := own) (init := init) (nL := nL) (r1 := r1) (r2 := r2) (tl := tl) hck
    exact xs_istore hx hb hpc hz (Nat.le_of_ble_eq_true hw) hd hn h
  case istore_n k =>
    obtain ⟨hpc, hd, hn, hw⟩ := xlen1 (own := own) (init := init) (nL := nL) (r1 := r1) (r2 := r2) (tl := tl) hck
    exact xs_istore_n hx hb hpc hz (Nat.le_of_ble_eq_true hw) hd hn h
  case astore k =>
    obtain ⟨hpc, hd, hn, hw⟩ := xlen1 (own := own) (init := init) (nL := nL) (r1 := r1) (r2 := r2) (tl := tl) hck
    exact xs_astore hx hb hpc hz (Nat.le_of_ble_eq_true hw) hd hn h
  case astore_n k =>
    obtain ⟨hpc, hd, hn, hw⟩ := xlen1 (own := own) (init := init) (nL := nL) (r1 := r1) (r2 := r2) (tl := tl) hck
    exact xs_astore_n hx hb hpc hz (Nat.le_of_ble_eq_true hw) hd hn h
  case lstore k =>
    obtain ⟨hpc, hd, hn, hw⟩ := xlen1 (own := own) (init := init) (nL := nL) (r1 := r1) (r2 := r2) (tl := tl) hck
    exact xs_lstore hx hb hpc hz (Nat.le_of_ble_eq_true hw) hd hn h
  case lstore_n k =>
    obtain ⟨hpc, hd, hn, hw⟩ := xlen1 (own := own) (init := init) (nL := nL) (r1 := r1) (r2 := r2) (tl := tl) hck
    exact xs_lstore_n hx hb hpc hz (Nat.le_of_ble_eq_true hw) hd hn h
  case iinc k v =>
    obtain ⟨hpc, hd, hn, hw⟩ := xlen1 (own := own) (init := init) (nL := nL) (r1 := r1) (r2 := r2) (tl := tl) hck
    exact xs_iinc hx hb hpc hz (Nat.le_of_ble_eq_true hw) hd hn h
  case dup =>
    obtain ⟨hpc, hd, hn, hw⟩ := xlen1 (own := own) (init := init) (nL := nL) (r1 := r1) (r2 := r2) (tl := tl) hck
    exact xs_dup hx hb hpc hz hd hn h
  case dup2 =>
    obtain ⟨hpc, hd, hn, hw⟩ := xlen1 (own := own) (init := init) (nL := nL) (r1 := r1) (r2 := r2) (tl := tl) hck
    exact xs_dup2 hx hb hpc hz hd hn h
  case pop =>
    obtain ⟨hpc, hd, hn, hw⟩ := xlen1 (own := own) (init := init) (nL := nL) (r1 := r1) (r2 := r2) (tl := tl) hck
    exact xs_pop hx hb hpc hz hd hn h
  case ifCond cnd off =>
    obtain ⟨hpc, hd, hn, hw⟩ := xlen1 (own := own) (init := init) (nL := nL) (r1 := r1) (r2 := r2) (tl := tl) hck
    have ht := of_decide_eq_true hw
    cases cnd
    case eq => exact xs_if_eq hx hb hpc hd hn ht h
    case ne => exact xs_if_ne hx hb hpc hd hn ht h
    case lt => exact xs_if_lt hx hb hpc hd hn ht h
    case ge => exact xs_if_ge hx hb hpc hd hn ht h
    case gt => exact xs_if_gt hx hb hpc hd hn ht h
    case le => exact xs_if_le hx hb hpc hd hn ht h
  case if_icmp cnd off =>
    obtain ⟨hpc, hd, hn, hw⟩ := xlen1 (own := own) (init := init) (nL := nL) (r1 := r1) (r2 := r2) (tl := tl) hck
    have ht := of_decide_eq_true hw
    cases cnd
    case eq => exact xs_icmp_eq hx hb hpc hd hn ht h
    case ne => exact xs_icmp_ne hx hb hpc hd hn ht h
    case lt => exact xs_icmp_lt hx hb hpc hd hn ht h
    case ge => exact xs_icmp_ge hx hb hpc hd hn ht h
    case gt => exact xs_icmp_gt hx hb hpc hd hn ht h
    case le => exact xs_icmp_le hx hb hpc hd hn ht h
  case goto off =>
    obtain ⟨hpc, hd, hn, hw⟩ := xlen1 (own := own) (init := init) (nL := nL) (r1 := r1) (r2 := r2) (tl := tl) hck
    exact xs_goto (n := n) hx hb hpc hd (of_decide_eq_true hw) h
  case ifnull off =>
    obtain ⟨hpc, hd, hn, hw⟩ := xlen1 (own := own) (init := init) (nL := nL) (r1 := r1) (r2 := r2) (tl := tl) hck
    exact xs_ifnull hx hb hpc hd hn (of_decide_eq_true hw) h
  case nop =>
    obtain ⟨h1, h2⟩ := xk1 hck
    obtain ⟨h3, h4⟩ := xk1 h2
    have h1 := Nat.le_of_ble_eq_true h1
    have h3 := Nat.eq_of_beq_eq_true h3
    have h4 : n < 100000 := Nat.le_of_ble_eq_true h4
    refine xs_nop hx hb (xrp_lt h4) ?_ h
    unfold xrp
    rw [if_neg (by omega)]
    exact h3.symm
  case tableswitch df lo hi offs =>
    obtain ⟨h1, h2⟩ := xk1 hck
    have hpc := xrp_lt (Nat.le_of_ble_eq_true h1)
    obtain ⟨h3, h4⟩ := xk1 h2
    obtain ⟨h5, h6⟩ := xk1 h4
    obtain ⟨h7, h8⟩ := xk1 h6
    obtain ⟨h9, h10⟩ := xk1 h8
    have hd : ∃ ln, decode cc pc = .ok (.tableswitch df lo hi offs, ln) := by
      generalize decode cc pc = d at h3
      match d, h3 with
      | .ok (i', ln), h3 => exact ⟨ln, by rw [of_decide_eq_true h3]⟩
      | .error _, h3 => cases h3
    obtain ⟨ln, hd⟩ := hd
    refine xs_table (n := n) hx hb hpc hd (Nat.eq_of_beq_eq_true h7) (of_decide_eq_true h9) (fun j k r hj => ?_) (of_decide_eq_true h5) h
    have q := List.all_eq_true.mp h10 j (List.mem_range.mpr (List.getElem?_eq_some_iff.mp hj).1)
    rw [hj] at q
    cases ho : offs[j]? with
    | none => rw [ho] at q; cases q
    | some oo =>
      rw [ho] at q
      exact ⟨oo, rfl, of_decide_eq_true (xk1 q).1, of_decide_eq_true (xk1 q).2⟩
  case lookupswitch df ps =>
    obtain ⟨h1, h2⟩ := xk1 hck
    have hpc := xrp_lt (Nat.le_of_ble_eq_true h1)
    obtain ⟨h3, h4⟩ := xk1 h2
    obtain ⟨h5, h6⟩ := xk1 h4
    obtain ⟨h7, h8⟩ := xk1 h6
    have hd : ∃ ln, decode cc pc = .ok (.lookupswitch df ps, ln) := by
      generalize decode cc pc = d at h3
      match d, h3 with
      | .ok (i', ln), h3 => exact ⟨ln, by rw [of_decide_eq_true h3]⟩
      | .error _, h3 => cases h3
    obtain ⟨ln, hd⟩ := hd
    exact xs_lookup (n := n) hx hb hpc hd h7 h8 (of_decide_eq_true h5) h
  case ldc idx =>
    obtain ⟨hpc, hd, hn, hw⟩ := xlen1 (own := own) (init := init) (nL := nL) (r1 := r1) (r2 := r2) (tl := tl) hck
    match tl, hw, h with
    | [], _, h => exact h.elim
    | (v, q) :: tl, hw, h =>
      cases hr : Nat.beq r1 0 with
      | true =>
        have h' : XPP p l e R s m args below meth c Z nL N0 D dA z A (n, L, (0, v) :: S, K, H) := by
          have h2 : xres C (XPP p l e R s m args below meth c Z nL N0 D dA z A) Q (bif Nat.beq r1 0 then xgo (n, L, (0, v) :: S, K, H) else xgo (n, L, (3, (q : Int)) :: S, K, H)) := h
          rw [hr] at h2
          exact h2
        dsimp only at hw
        rw [hr] at hw
        obtain ⟨w1, w2⟩ := xk1 hw
        exact xs_ldcI hx hb hpc hown (hts _ (xat_in w1)) (by have := of_decide_eq_true w2; exact this) hd hn h'
      | false =>
        have h' : XPP p l e R s m args below meth c Z nL N0 D dA z A (n, L, (3, (q : Int)) :: S, K, H) := by
          have h2 : xres C (XPP p l e R s m args below meth c Z nL N0 D dA z A) Q (bif Nat.beq r1 0 then xgo (n, L, (0, v) :: S, K, H) else xgo (n, L, (3, (q : Int)) :: S, K, H)) := h
          rw [hr] at h2
          exact h2
        dsimp only at hw
        rw [hr] at hw
        obtain ⟨w1, w2⟩ := xk1 hw
        have eo := of_decide_eq_true w1
        rw [eo] at hown
        rcases Bool.or_eq_true_iff.mp w2 with q2 | q2
        · obtain ⟨a1, a2⟩ := xk1 q2
          cases Nat.eq_of_beq_eq_true a1
          cases Nat.eq_of_beq_eq_true a2
          exact xs_ldcS hx hb hpc hown (by omega) hXF.2.2.2.1.2.1 hd hn h'
        · obtain ⟨a1, a2⟩ := xk1 q2
          cases Nat.eq_of_beq_eq_true a1
          cases Nat.eq_of_beq_eq_true a2
          exact xs_ldcS hx hb hpc hown (by omega) hXF.2.2.2.1.2.2 hd hn h'
  case ldc_w idx =>
    obtain ⟨hpc, hd, hn, hw⟩ := xlen1 (own := own) (init := init) (nL := nL) (r1 := r1) (r2 := r2) (tl := tl) hck
    match tl, hw, h with
    | [], _, h => exact h.elim
    | (v, q) :: tl, hw, h =>
      obtain ⟨w1, w2⟩ := xk1 hw
      exact xs_ldcwI hx hb hpc hown (hts _ (xat_in w1)) (by have := of_decide_eq_true w2; exact this) hd hn h
  case ldc2_w idx =>
    obtain ⟨hpc, hd, hn, hw⟩ := xlen1 (own := own) (init := init) (nL := nL) (r1 := r1) (r2 := r2) (tl := tl) hck
    match tl, hw, h with
    | [], _, h => exact h.elim
    | (v, q) :: tl, hw, h =>
      obtain ⟨w1, w2⟩ := xk1 hw
      exact xs_ldc2 hx hb hpc hown (hts _ (xat_in w1)) (by have := of_decide_eq_true w2; exact this) hd hn h
  case getstatic idx =>
    obtain ⟨hpc, hd, hn, hw⟩ := xlen1 (own := own) (init := init) (nL := nL) (r1 := r1) (r2 := r2) (tl := tl) hck
    match tl, hw, h with
    | [], _, h => exact h.elim
    | (v, q) :: tl, hw, h =>
      cases hr : Nat.beq r1 0 with
      | true =>
        have h' : XPP p l e R s m args below meth c Z nL N0 D dA z A (n, L, (0, v) :: S, K, H) := by
          have h2 : xres C (XPP p l e R s m args below meth c Z nL N0 D dA z A) Q (bif Nat.beq r1 0 then xgo (n, L, (0, v) :: S, K, H) else xgo (n, L, (7, 0) :: S, K, H)) := h
          rw [hr] at h2
          exact h2
        dsimp only at hw
        rw [hr] at hw
        obtain ⟨w1, w2⟩ := xk1 hw
        cases of_decide_eq_true w2
        exact xs_gets hx hb hpc hown (hts _ (xat_in w1)) hXF.2.2.2.2.1 (w := (0, 1)) (fun _ => rfl) (fun _ => xok_i (by unfold xI; omega)) hd hn h'
      | false =>
        have h' : XPP p l e R s m args below meth c Z nL N0 D dA z A (n, L, (7, 0) :: S, K, H) := by
          have h2 : xres C (XPP p l e R s m args below meth c Z nL N0 D dA z A) Q (bif Nat.beq r1 0 then xgo (n, L, (0, v) :: S, K, H) else xgo (n, L, (7, 0) :: S, K, H)) := h
          rw [hr] at h2
          exact h2
        dsimp only at hw
        rw [hr] at hw
        exact xs_gets hx hb hpc hown (hts _ (xat_in hw)) hXF.2.2.2.2.2.1 (w := (7, 0)) (fun _ => rfl) (fun _ => ⟨fun e => (by cases e), fun e => (by cases e), fun e => (by cases e), fun e => (by rcases e with e | e <;> cases e)⟩) hd hn h'
  case getfield idx =>
    obtain ⟨hpc, hd, hn, hw⟩ := xlen1 (own := own) (init := init) (nL := nL) (r1 := r1) (r2 := r2) (tl := tl) hck
    match tl, hw, h with
    | [], hw, _ => cases hw
    | (row, x) :: tl, hw, h =>
      dsimp only at hw
      cases hr : Nat.beq r1 100 with
      | true =>
        rw [hr] at hw
        cases Nat.eq_of_beq_eq_true hr
        obtain ⟨w1, w2⟩ := xk1 hw
        have eo := of_decide_eq_true w1
        rw [eo] at hown
        refine xs_getfS (tl := (row, x) :: tl) hx hb hpc hown (idx := idx) ?_ hXF.2.2.2.1.1 hd hn h
        rcases Bool.or_eq_true_iff.mp w2 with q | q
        · obtain ⟨a1, a2⟩ := xk1 q
          rw [eo] at a2
          exact Or.inl ⟨Nat.eq_of_beq_eq_true a1, hts _ (xat_in a2)⟩
        · obtain ⟨a1, a2⟩ := xk1 q
          rw [eo] at a2
          exact Or.inr ⟨Nat.eq_of_beq_eq_true a1, hts _ (xat_in a2)⟩
      | false =>
        rw [hr] at hw
        dsimp only [cond_false] at hw
        cases hf : xFL[row.toNat]? with
        | none => rw [hf] at hw; cases hw
        | some f =>
          rw [hf] at hw
          obtain ⟨q1, o1, i1, ci, k⟩ := f
          have hfr := List.all_eq_true.mp xFL_ok _ (List.mem_of_getElem? hf)
          obtain ⟨f1, f2⟩ := xk1 hfr
          obtain ⟨f3, f4⟩ := xk1 f2
          have g3 := of_decide_eq_true f3
          have g4 := of_decide_eq_true f4
          dsimp only at f1 g3 g4
          clear hfr f2 f3 f4
          simp only [Bool.and_eq_true, decide_eq_true_eq] at hw
          obtain ⟨w1, w2, w3, w4⟩ := hw
          subst w1
          cases Nat.eq_of_beq_eq_true w2
          cases Nat.eq_of_beq_eq_true w3
          cases Nat.eq_of_beq_eq_true w4
          obtain ⟨ty0, c1, c2, c3, c4, c5, c6, c7, c8⟩ := xcl_ok _ g3
          exact xs_getf (tl := (row, x) :: tl) hx hb hpc hts hown c3 c1 c2 g3 g4 (hts _ (xat_in f1)) hK hd hn h
  case putfield idx =>
    obtain ⟨hpc, hd, hn, hw⟩ := xlen1 (own := own) (init := init) (nL := nL) (r1 := r1) (r2 := r2) (tl := tl) hck
    match tl, hw, h with
    | [], hw, _ => cases hw
    | (row, x) :: tl, hw, h =>
      dsimp only at hw
      cases hf : xFL[row.toNat]? with
      | none => rw [hf] at hw; cases hw
      | some f =>
        rw [hf] at hw
        obtain ⟨q1, o1, i1, ci, k⟩ := f
        have hfr := List.all_eq_true.mp xFL_ok _ (List.mem_of_getElem? hf)
        obtain ⟨f1, f2⟩ := xk1 hfr
        obtain ⟨f3, f4⟩ := xk1 f2
        have g3 := of_decide_eq_true f3
        have g4 := of_decide_eq_true f4
        dsimp only at f1 g3 g4
        clear hfr f2 f3 f4
        simp only [Bool.and_eq_true, decide_eq_true_eq] at hw
        obtain ⟨w1, w2, w3, w4, w5⟩ := hw
        subst w1
        cases Nat.eq_of_beq_eq_true w2
        cases Nat.eq_of_beq_eq_true w3
        cases Nat.eq_of_beq_eq_true w4
        obtain ⟨ty0, c1, c2, c3, c4, c5, c6, c7, c8⟩ := xcl_ok _ g3
        refine xs_putf hx hb hpc hts hown c3 c1 c2 g3 g4 ty0 c4 c5 (hts _ (xat_in f1)) (fun hf2 => ?_) (c6 _ g4).1 hK hd hn h
        rw [hf2] at w5
        simp only [Bool.not_true, Bool.false_or, Bool.and_eq_true, decide_eq_true_eq] at w5
        exact ⟨hinit w5.1, w5.2⟩
  case iaload =>
    obtain ⟨hpc, hd, hn, hw⟩ := xlen1 (own := own) (init := init) (nL := nL) (r1 := r1) (r2 := r2) (tl := tl) hck
    exact xs_iaload (X := X) hx hb hpc hK hXF.2.2.1 hX.2.2 hd hn h
  case laload =>
    obtain ⟨hpc, hd, hn, hw⟩ := xlen1 (own := own) (init := init) (nL := nL) (r1 := r1) (r2 := r2) (tl := tl) hck
    exact xs_laload (X := X) hx hb hpc hK hd hn h
  case caload =>
    obtain ⟨hpc, hd, hn, hw⟩ := xlen1 (own := own) (init := init) (nL := nL) (r1 := r1) (r2 := r2) (tl := tl) hck
    exact xs_caload (X := X) hx hb hpc hK hd hn h
  case baload =>
    obtain ⟨hpc, hd, hn, hw⟩ := xlen1 (own := own) (init := init) (nL := nL) (r1 := r1) (r2 := r2) (tl := tl) hck
    exact xs_baload hx hb hpc hK (xstr hXF) hd hn h
  case iastore =>
    obtain ⟨hpc, hd, hn, hw⟩ := xlen1 (own := own) (init := init) (nL := nL) (r1 := r1) (r2 := r2) (tl := tl) hck
    exact xs_iastore hx hb hpc hK hd hn h
  case lastore =>
    obtain ⟨hpc, hd, hn, hw⟩ := xlen1 (own := own) (init := init) (nL := nL) (r1 := r1) (r2 := r2) (tl := tl) hck
    exact xs_lastore hx hb hpc hK hd hn h
  case castore =>
    obtain ⟨hpc, hd, hn, hw⟩ := xlen1 (own := own) (init := init) (nL := nL) (r1 := r1) (r2 := r2) (tl := tl) hck
    exact xs_castore hx hb hpc hK hd hn h
  case bastore =>
    obtain ⟨hpc, hd, hn, hw⟩ := xlen1 (own := own) (init := init) (nL := nL) (r1 := r1) (r2 := r2) (tl := tl) hck
    exact xs_bastore hx hb hpc hK hd hn h
  case arraylength =>
    obtain ⟨hpc, hd, hn, hw⟩ := xlen1 (own := own) (init := init) (nL := nL) (r1 := r1) (r2 := r2) (tl := tl) hck
    exact xs_alen (X := X) hx hb hpc hK hXF.2.2.1 ⟨hX.1, hX.2.1⟩ (xstr hXF) hd hn h
  case newarray t =>
    obtain ⟨hpc, hd, hn, hw⟩ := xlen1 (own := own) (init := init) (nL := nL) (r1 := r1) (r2 := r2) (tl := tl) hck
    cases t
    case int => exact xs_newa (at' := .int) hx hb hpc hA (show (Cond.arrayClass (newarray.typeOf .int)).before args s = true from hts _ (xarr_ok .int (by simp))) (Or.inl ⟨Nat.eq_of_beq_eq_true hw, rfl⟩) hK hd hn h
    case long => exact xs_newa (at' := .long) hx hb hpc hA (show (Cond.arrayClass (newarray.typeOf .long)).before args s = true from hts _ (xarr_ok .long (by simp))) (Or.inr (Or.inl ⟨Nat.eq_of_beq_eq_true hw, rfl⟩)) hK hd hn h
    case byte => exact xs_newa (at' := .byte) hx hb hpc hA (show (Cond.arrayClass (newarray.typeOf .byte)).before args s = true from hts _ (xarr_ok .byte (by simp))) (Or.inr (Or.inr (Or.inl ⟨Nat.eq_of_beq_eq_true hw, rfl⟩))) hK hd hn h
    case boolean => exact xs_newa (at' := .boolean) hx hb hpc hA (show (Cond.arrayClass (newarray.typeOf .boolean)).before args s = true from hts _ (xarr_ok .boolean (by simp))) (Or.inr (Or.inr (Or.inr (Or.inl ⟨Nat.eq_of_beq_eq_true hw, rfl⟩)))) hK hd hn h
    case char => exact xs_newa (at' := .char) hx hb hpc hA (show (Cond.arrayClass (newarray.typeOf .char)).before args s = true from hts _ (xarr_ok .char (by simp))) (Or.inr (Or.inr (Or.inr (Or.inr ⟨Nat.eq_of_beq_eq_true hw, rfl⟩)))) hK hd hn h
    all_goals cases hw
  case new idx =>
    obtain ⟨hpc, hd, hn, hw⟩ := xlen1 (own := own) (init := init) (nL := nL) (r1 := r1) (r2 := r2) (tl := tl) hck
    match tl, hw with
    | [], hw => cases hw
    | (q, x) :: tl, hw =>
      obtain ⟨w1, w2⟩ := xk1 hw
      have h13 : r1 < 13 := Nat.le_of_ble_eq_true w1
      obtain ⟨ty0, c1, c2, c3, c4, c5, c6, c7, c8⟩ := xcl_ok _ h13
      exact xs_new hx hb hpc hA hts hown c3 c1 c2 h13 ty0 c4 (hts _ (xat_in w2)) (hts _ c7) (hts _ c8) c6 hK hd hn h
  case invokevirtual idx =>
    obtain ⟨hpc, hd, hn, hw⟩ := xlen1 (own := own) (init := init) (nL := nL) (r1 := r1) (r2 := r2) (tl := tl) hck
    exact xs_inv Cx0 hcode hC hpc (Or.inl ⟨rfl, hd⟩) hn hw h
  case invokestatic idx =>
    obtain ⟨hpc, hd, hn, hw⟩ := xlen1 (own := own) (init := init) (nL := nL) (r1 := r1) (r2 := r2) (tl := tl) hck
    exact xs_inv Cx0 hcode hC hpc (Or.inr (Or.inl ⟨rfl, hd⟩)) hn hw h
  case invokespecial idx =>
    obtain ⟨hpc, hd, hn, hw⟩ := xlen1 (own := own) (init := init) (nL := nL) (r1 := r1) (r2 := r2) (tl := tl) hck
    exact xs_inv Cx0 hcode hC hpc (Or.inr (Or.inr ⟨rfl, hd⟩)) hn hw h
  case ireturn =>
    obtain ⟨hpc, hd, hn, hw⟩ := xlen1 (own := own) (init := init) (nL := nL) (r1 := r1) (r2 := r2) (tl := tl) hck
    match S, h with
    | [], h => exact h.elim
    | [(u, x)], h =>
      obtain ⟨b1, b2⟩ := xbif_inv (o := xrt (xfR rt x) x K H) h
      obtain ⟨b3, b4⟩ := xk1 b1
      cases Nat.eq_of_beq_eq_true b3
      have b4 : (!(Nat.beq rt 1) && !(Nat.beq rt 2)) = true := b4
      obtain ⟨b5, b6⟩ := xk1 b4
      refine hR0 pc L x K H hpc hd (fun q => ?_) (fun q => ?_) b2.1 b2.2
      · subst q; cases b5
      · subst q; cases b6
    | _ :: _ :: _, h => exact h.elim
  case lreturn =>
    obtain ⟨hpc, hd, hn, hw⟩ := xlen1 (own := own) (init := init) (nL := nL) (r1 := r1) (r2 := r2) (tl := tl) hck
    match S, h with
    | [], h => exact h.elim
    | [(u, x)], h =>
      obtain ⟨b1, b2⟩ := xbif_inv (o := xrt (xfR rt x) x K H) h
      obtain ⟨b3, b4⟩ := xk1 b1
      cases Nat.eq_of_beq_eq_true b3
      have b4 : Nat.beq rt 1 = true := b4
      exact hR1 pc L x K H hpc hd (Nat.eq_of_beq_eq_true b4) b2.2
    | _ :: _ :: _, h => exact h.elim
  case return_ =>
    obtain ⟨hpc, hd, hn, hw⟩ := xlen1 (own := own) (init := init) (nL := nL) (r1 := r1) (r2 := r2) (tl := tl) hck
    match S, h with
    | [], h =>
      obtain ⟨b1, b2⟩ := xbif_inv (o := xrt True 0 K H) h
      exact hR2 pc L K H hpc hd (Nat.eq_of_beq_eq_true b1) b2.2
    | _ :: _, h => exact h.elim
  all_goals exact h.elim
end XS
