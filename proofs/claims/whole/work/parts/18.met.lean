/-! SOUNDNESS 13: a method's contract, by the depth of its calls -/
theorem xMet_of {l : Launch} {y : MethodName} {ws ws' : List Jvm.Cond} {rm : Room} {Pc : Array Value → State → Prop} {Qc : Array Value → State → Outcome → State → Prop} {mc ms : Nat} {free : Addr → Prop} {cc : ByteArray} {maxL : Nat} {ret : Option FieldType} (hy : plainFor y = true) (hw : ws = Jvm.Cond.code y cc maxL ret :: ws')
    (body : ∀ p e s m args below meth c s₁, BodyLoose p l y (headSpec ws rm) cc maxL ret e s m args below meth c s₁ → c.maxLocals = maxL → Pc args s → W p l e (headSpec ws rm).room s m args below meth c s.heap [] 0 0 (MQ below Qc args s mc ms free) (entryFrame m args maxL)) : Met l y ws rm Pc Qc mc ms free := by
  refine MetFree.of_bodySF (code := cc) (maxLocals := maxL) (ret := ret) hy (fun args s m h hn => ?_) (fun p e s m args below meth c s₁ B hml hP _ => ?_)
  · obtain ⟨meth, c, h1, h2, h3, h4, h5, h6, -, -⟩ := Cond.code_spec hn (atoms_spec (ws := ws) h _ (by rw [hw]; exact List.mem_cons_self))
    exact ⟨meth, c, h1, h2, h3, h4, h5, h6⟩
  · obtain ⟨t, a1, o, b1, b2, b3⟩ := body p e s m args below meth c s₁ B hml hP s₁ (by rw [B.state]; rfl) (Stand.of_body B)
    exact ⟨t, o, a1, b1, b2, b3⟩
theorem xent_ls {Z : XA} (hz : Z.2.2.2.2.category = 1) : ∀ (a : List XV) (i : Nat), lv_args i (a.map (xv Z)) = xls Z (xent i a)
  | [], _ => rfl
  | v :: a, i => by
    show (i, xv Z v) :: lv_args (if (xv Z v).category = 2 then i + 2 else i + 1) (a.map (xv Z)) = (i, xv Z v) :: xls Z (xent (i + xcat v) a)
    rw [← xent_ls hz a, xv_cat hz]
    congr 2
    unfold xcat
    cases Nat.beq v.1 1 <;> rfl
theorem xent_ok {n : Int} : ∀ (a : List XV) (i : Nat), (∀ v ∈ a, xokv n v) → ∀ q ∈ xent i a, xokv n q.2
  | [], _, _, q, h => by cases h
  | v :: a, i, ha, q, h => by
    rcases List.mem_cons.mp h with e | e
    · rw [e]; exact ha v List.mem_cons_self
    · exact xent_ok a _ (fun w hw => ha w (List.mem_cons_of_mem _ hw)) q e
theorem xent_sl {Z : XA} (hz : Z.2.2.2.2.category = 1) : ∀ (a : List XV), (lg_sl (a.map (xv Z))).length = xsumc a
  | [] => rfl
  | v :: a => by
    have ih := xent_sl hz a
    unfold lg_sl at ih ⊢
    rw [List.map_cons, List.flatMap_cons, List.length_append, ih, xv_cat hz]
    show _ = xcat v + xsumc a
    unfold xcat
    cases Nat.beq v.1 1 <;> rfl
theorem xsnd {p : Program} {l : Launch} {e : Env} {R : Room} {s : State} {m : MethodId} {args : Array Value} {below : List Frame} {meth : Method} {c : Code} {Z : State → Prop} {cc : ByteArray} {nL : Nat} {N0 : Nat × (Nat → Nat)} {D : va_G} {dA : Nat → ClassId} {z : (Nat → Nat) × (Nat → Nat) × Nat × Value} {A : Nat → Prop} {C : XC} {Q : XQ} {X : Int × (Int → Int)} {own : String} {init : Bool} (Cx : XCx p R s m args meth c cc nL own init D dA z X A) (hcode : ∀ y, y < 265 → Jvm.Cond.code (xNm y).1 (xNm y).2.1 (xNm y).2.2.1 (xNm y).2.2.2.1 ∈ wsG) (hC : XCall l R C D dA z X) {rt : Nat}
    (hR0 : ∀ (pc : Nat) (L : XL) (x : Int) (K : XW) (H : XH), xrp pc = pc → decode cc pc = .ok (.ireturn, 1) → ¬ rt = 1 → ¬ rt = 2 → xfR rt x → Q x K H → XPP p l e R s m args below meth c Z nL N0 D dA z A (pc, L, [(0, x)], K, H))
    (hR1 : ∀ (pc : Nat) (L : XL) (x : Int) (K : XW) (H : XH), xrp pc = pc → decode cc pc = .ok (.lreturn, 1) → rt = 1 → Q x K H → XPP p l e R s m args below meth c Z nL N0 D dA z A (pc, L, [(1, x)], K, H))
    (hR2 : ∀ (pc : Nat) (L : XL) (K : XW) (H : XH), xrp pc = pc → decode cc pc = .ok (.return_, 1) → rt = 2 → Q 0 K H → XPP p l e R s m args below meth c Z nL N0 D dA z A (pc, L, [], K, H))
    {cd : Nat → XI} (hck : ∀ pc, xchk own init nL cc pc (cd pc) = true) {g : XG} (h : xWB (X, xTT, xSL, xMI) C cd rt Q g) : XPP p l e R s m args below meth c Z nL N0 D dA z A g :=
  h _ fun g hg => by
    obtain ⟨pc, L, S, K, H⟩ := g
    exact xstep Cx hcode hC hR0 hR1 hR2 (hck pc) hg
theorem xQc_i {t : Nat} {Q : XQ} {D : va_G} {dA : Nat → ClassId} {n0 : Nat} {ad : Nat → Nat} {A : Nat → Prop} (h1 : ¬ t = 1) (h2 : ¬ t = 2) : xQc t Q D dA n0 ad A = va_Qi (S := XU) (fun r u => ∃ x, r = Int32.ofInt x ∧ xI x ∧ xU Q n0 ad x u) (xB D dA A) A := by
  match t, h1, h2 with
  | 0, _, _ => rfl
  | 1, h1, _ => exact absurd rfl h1
  | 2, _, h2 => exact absurd rfl h2
  | t + 3, _, _ => rfl
theorem xrp_e : xrp 100000 = 0 := by
  unfold xrp
  rw [if_neg (by omega)]
set_option maxHeartbeats 2000000 in
theorem xmet (hcode : ∀ y, y < 265 → Jvm.Cond.code (xNm y).1 (xNm y).2.1 (xNm y).2.2.1 (xNm y).2.2.2.1 ∈ wsG) (hbody : ∀ y, y < 265 → ∀ pc, xchk (xNm y).1.cls (decide ((xNm y).1.name = "<init>")) (xNm y).2.2.1 (xNm y).2.1 pc ((xMC y).1 pc) = true) (hmax : ∀ y, y < 265 → (xMC y).2.2 = (xNm y).2.2.1) (l : Launch) (D : va_G) (dA : Nat → ClassId) (z : (Nat → Nat) × (Nat → Nat) × Nat × Value) (X : Int × (Int → Int)) (hX : 0 ≤ X.1 ∧ X.1 ≤ 100000 ∧ ∀ i, 0 ≤ i → i < X.1 → xI (X.2 i)) (hzq : ∃ q, z.2.2.2 = .null ∨ z.2.2.2 = .ref q) :
    ∀ (d : Nat) (y : Nat) (a : List XV) (K : XW) (H : XH) (Q : XQ) (ad : Nat → Nat) (sz : Nat), xWM (X, xTT, xSL, xMI) xMC d y a K H Q → y < 265 → (∀ v ∈ a, xokv K.1.length v) → xokh K.1 H →
      Met l (xNm y).1 (xwsM y) { frames := d, cells := K.2.1, slots := K.2.2, locals := 48 * d } (xPc a K.1 H D dA z X ad sz) (xQc (xMC y).2.1 Q D dA K.1.length ad (va_A (xws dA ad K.1 H) sz)) K.2.1 K.2.2 (va_A (xws dA ad K.1 H) sz)
  | 0, y, a, K, H, Q, ad, sz, h, _, _, _ => h.elim
  | d + 1, y, a, K, H, Q, ad, sz, h, hy, ha, hok => by
    obtain ⟨hsum, h⟩ := h
    have hsum := Nat.le_of_ble_eq_true hsum
    rw [hmax y hy] at hsum
    obtain ⟨my1, my2, my3, my4, my5, my6, my7, my8, my9, my10, my11, my12⟩ := xMth hy
    refine xMet_of (cc := (xNm y).2.1) (maxL := (xNm y).2.2.1) (ret := (xNm y).2.2.2.1) (ws' := wsG) my3 rfl ?_
    intro p e s m args below meth c s₁ B hml hv
    obtain ⟨rfl, hsz, hXF, hP, hD0⟩ := hv
    have hx := B.exec
    have hb := B.bytes
    have hr := B.returns
    have hts0 := atoms_spec (ws := xwsM y) B.pre
    have hts : ∀ w ∈ wsG, w.before ((a.map (xv (ad, z))).toArray) s = true := fun w hw => hts0 w (List.mem_cons_of_mem _ hw)
    have hown : s.vm.findClass (xNm y).1.cls = some m.cls := findClass_of_methodNamed B.named
    have hnm : meth.name = (xNm y).1.name := (name_of_methodNamed B.named B.method).1
    have hlocks := B.notSynchronized
    have hz : z.2.2.2.category = 1 := hXF.2.2.2.2.2.2
    subst hsz
    have hD := hD0.self (sz := s.heap.size)
    generalize hAe : va_A (xws dA ad K.1 H) s.heap.size = A at hD hXF ⊢
    have hA : ∀ q : Nat, s.heap.size ≤ q → A q := fun q h => by rw [← hAe]; exact Or.inr h
    have hC : XCall l { frames := d + 1, cells := K.2.1, slots := K.2.2, locals := 48 * (d + 1) } (xWM (X, xTT, xSL, xMI) xMC d) D dA z X := by
      intro y' a' K' H' Q' ad' sz' h' hy' ha' hok'
      exact ⟨{ frames := d, cells := K'.2.1, slots := K'.2.2, locals := 48 * d }, rfl, rfl, Nat.le_refl _, by show 48 + 48 * d ≤ 48 * (d + 1); omega, xmet hcode hbody hmax l D dA z X hX hzq d y' a' K' H' Q' ad' sz' h' hy' ha' hok'⟩
    have Cx : XCx p { frames := d + 1, cells := K.2.1, slots := K.2.2, locals := 48 * (d + 1) } s m ((a.map (xv (ad, z))).toArray) meth c (xNm y).2.1 (xNm y).2.2.1 (xNm y).1.cls (decide ((xNm y).1.name = "<init>")) D dA z X A :=
      ⟨hx, hb, hml, hown, hts, hXF, hA, hX, fun q => hnm.trans (of_decide_eq_true q), ⟨by show 1 ≤ d + 1; omega, by show 40 ≤ 48 * (d + 1); omega⟩, hzq⟩
    have post : ∀ (x : Int) (K' : XW) (H' : XH) (ad' : Nat → Nat), Q x K' H' → xags K.1.length ad ad' → xokh K'.1 H' → K.1.length ≤ K'.1.length → xU Q K.1.length ad x (ad', K', H') := fun x K' H' ad' h1 h2 h3 h4 => ⟨h1, h2, h3, h4⟩
    have S := xsnd (p := p) (l := l) (e := e) (below := below) (Z := MQ below (xQc (xMC y).2.1 Q D dA K.1.length ad A) ((a.map (xv (ad, z))).toArray) s K.2.1 K.2.2 A) (N0 := (K.1.length, ad)) Cx hcode hC (rt := (xMC y).2.1) (Q := Q)
      (fun pc L x K' H' hpc hd h1 h2 hf hq => by
        refine XPP.inn hpc fun ad' ls Hp locs cells slots hr' => ?_
        obtain ⟨ok0, ok1, ok2, ok3, hP', hD', hS', hcc, hss, hg0, hn0⟩ := hr'
        have hxI := (ok2 _ List.mem_cons_self).1 rfl
        dsimp only at hxI
        refine W.widen (k := K.2.1) (n := K.2.2) (by have : cells + K'.2.1 = K.2.1 := hcc; omega) (by have : slots + K'.2.2 = K.2.2 := hss; omega) ?_
        have hnar : ∃ ty, meth.sig.returnType = some ty ∧ narrow ty (.int (Int32.ofInt x)) = .int (Int32.ofInt x) := by
          rw [hr]
          generalize (xMC y).2.1 = t at my6 my9 my10 my11 my12 h1 h2 hf
          match t, h1, h2, hf with
          | 0, _, _, _ => exact ⟨.int, my6 rfl, rfl⟩
          | 1, h1, _, _ => exact absurd rfl h1
          | 2, _, h2, _ => exact absurd rfl h2
          | 3, _, _, hf => exact ⟨.boolean, my9 rfl, (xw_narZ hf).1⟩
          | 4, _, _, hf => exact ⟨.byte, my10 rfl, (xw_narB hf).1⟩
          | 5, _, _, hf => exact ⟨.char, my11 rfl, (xw_narC hf).1⟩
          | t + 6, _, _, _ => omega
        obtain ⟨ty, hty, hn⟩ := hnar
        refine W.zret (v := Int32.ofInt x) hx hb hty hn (fun t ht hW => ?_) hS'.2.2 hd hlocks
        rw [xQc_i h1 h2]
        have hq2 : xB D dA A (ad', K', H') t := ⟨by rw [ht]; exact hP', hD'⟩
        exact ⟨⟨Int32.ofInt x, (ad', K', H'), rfl, ⟨x, rfl, hxI, post x K' H' ad' hq hg0 ok3 hn0⟩, hq2⟩, hS'.F ht⟩)
      (fun pc L x K' H' hpc hd h1 hq => by
        refine XPP.inn hpc fun ad' ls Hp locs cells slots hr' => ?_
        obtain ⟨ok0, ok1, ok2, ok3, hP', hD', hS', hcc, hss, hg0, hn0⟩ := hr'
        have hxI := (ok2 _ List.mem_cons_self).2.1 rfl
        dsimp only at hxI
        refine W.widen (k := K.2.1) (n := K.2.2) (by have : cells + K'.2.1 = K.2.1 := hcc; omega) (by have : slots + K'.2.2 = K.2.2 := hss; omega) ?_
        refine W.lret (v := Int64.ofInt x) hx hb (hr.trans (my7 h1)) (fun t ht hW => ?_) hS'.2.2 hd hlocks
        have hq2 : xB D dA A (ad', K', H') t := ⟨by rw [ht]; exact hP', hD'⟩
        rw [h1]
        exact ⟨⟨Int64.ofInt x, (ad', K', H'), rfl, ⟨x, rfl, hxI, post x K' H' ad' hq hg0 ok3 hn0⟩, hq2⟩, hS'.F ht⟩)
      (fun pc L K' H' hpc hd h1 hq => by
        refine XPP.inn hpc fun ad' ls Hp locs cells slots hr' => ?_
        obtain ⟨ok0, ok1, ok2, ok3, hP', hD', hS', hcc, hss, hg0, hn0⟩ := hr'
        refine W.widen (k := K.2.1) (n := K.2.2) (by have : cells + K'.2.1 = K.2.1 := hcc; omega) (by have : slots + K'.2.2 = K.2.2 := hss; omega) ?_
        refine W.vret hx hb (hr.trans (my8 h1)) (fun t ht hW => ?_) hS'.2.2 hd hlocks
        have hq2 : xB D dA A (ad', K', H') t := ⟨by rw [ht]; exact hP', hD'⟩
        rw [h1]
        exact ⟨⟨(ad', K', H'), rfl, post 0 K' H' ad' hq hg0 ok3 hn0, hq2⟩, hS'.F ht⟩)
      (hbody y hy) h
    rw [lg_entry_eq]
    have hl := lv_entry (a.map (xv (ad, z))) (n := (xNm y).2.2.1) (by rw [xent_sl (Z := (ad, z)) hz]; exact hsum)
    rw [xent_ls (Z := (ad, z)) hz] at hl
    have k := S ad _ s.heap [] 0 0 ⟨hl, xent_ok a 0 ha, fun v hv => (by cases hv), hok, hP, hD, va_S.rf, by show 0 + K.2.1 = K.2.1; omega, by show 0 + K.2.2 = K.2.2; omega, fun _ _ => rfl, Nat.le_refl _⟩
    dsimp only at k
    rw [xrp_e] at k
    exact k
