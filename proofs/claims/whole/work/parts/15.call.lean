/-! SOUNDNESS 10: calls -/
def xwsM (y : Nat) : List Jvm.Cond := Jvm.Cond.code (xNm y).1 (xNm y).2.1 (xNm y).2.2.1 (xNm y).2.2.2.1 :: wsG
theorem xwsG_good : GoodIn wsG wsG := fun w hw => ⟨hw, good_of_word (List.mem_filter.mp hw).2⟩
theorem xwsM_good {y : Nat} (h : Jvm.Cond.code (xNm y).1 (xNm y).2.1 (xNm y).2.2.1 (xNm y).2.2.2.1 ∈ wsG) : GoodIn wsG (xwsM y) := fun w hw => by
  rcases List.mem_cons.mp hw with e | e
  · rw [e]; exact xwsG_good _ h
  · exact xwsG_good w e
abbrev XU : Type := (Nat → Nat) × XW × XH
def xU (Q : XQ) (n0 : Nat) (ad : Nat → Nat) (x : Int) (u : XU) : Prop := Q x u.2.1 u.2.2 ∧ xags n0 ad u.1 ∧ xokh u.2.1.1 u.2.2 ∧ n0 ≤ u.2.1.1.length
def xB (D : va_G) (dA : Nat → ClassId) (A : Nat → Prop) (u : XU) (t : State) : Prop := va_P D vwCl (xws dA u.1 u.2.1.1 u.2.2) t.heap ∧ va_D A (xws dA u.1 u.2.1.1 u.2.2)
def xQc (rt : Nat) (Q : XQ) (D : va_G) (dA : Nat → ClassId) (n0 : Nat) (ad : Nat → Nat) (A : Nat → Prop) : Array Value → State → Outcome → State → Prop := match rt with
  | 1 => va_Ql (S := XU) (fun r u => ∃ x, r = Int64.ofInt x ∧ xJ x ∧ xU Q n0 ad x u) (xB D dA A) A
  | 2 => va_Qv (S := XU) (fun u => xU Q n0 ad 0 u) (xB D dA A) A
  | _ => va_Qi (S := XU) (fun r u => ∃ x, r = Int32.ofInt x ∧ xI x ∧ xU Q n0 ad x u) (xB D dA A) A
def xPc (a : List XV) (K : List XK) (H : XH) (D : va_G) (dA : Nat → ClassId) (z : (Nat → Nat) × (Nat → Nat) × Nat × Value) (X : Int × (Int → Int)) (ad : Nat → Nat) (sz : Nat) : Array Value → State → Prop :=
  va_Pc (a.map (xv (ad, z))) (fun U => U.heap.size = sz ∧ XF D dA z X (va_A (xws dA ad K H) sz) U U.heap ∧ va_P D vwCl (xws dA ad K H) U.heap ∧ va_D (fun _ => True) (xws dA ad K H))
def XCall (l : Launch) (R : Room) (C : XC) (D : va_G) (dA : Nat → ClassId) (z : (Nat → Nat) × (Nat → Nat) × Nat × Value) (X : Int × (Int → Int)) : Prop :=
  ∀ (y : Nat) (a : List XV) (K : XW) (H : XH) (Q : XQ) (ad : Nat → Nat) (sz : Nat), C y a K H Q → y < 265 → (∀ v ∈ a, xokv K.1.length v) → xokh K.1 H →
    ∃ rm : Room, rm.cells = K.2.1 ∧ rm.slots = K.2.2 ∧ rm.frames + 1 ≤ R.frames ∧ 48 + rm.locals ≤ R.locals ∧ Met l (xNm y).1 (xwsM y) rm (xPc a K.1 H D dA z X ad sz) (xQc (xMC y).2.1 Q D dA K.1.length ad (va_A (xws dA ad K.1 H) sz)) K.2.1 K.2.2 (va_A (xws dA ad K.1 H) sz)
theorem xPc_blind {a : List XV} {K : List XK} {H : XH} {D : va_G} {dA : Nat → ClassId} {z : (Nat → Nat) × (Nat → Nat) × Nat × Value} {X : Int × (Int → Int)} {ad : Nat → Nat} {sz : Nat} : FrameBlind (xPc a K H D dA z X ad sz) := by
  intro v U g mk h
  obtain ⟨h1, h2, h3, h4, h5⟩ := h
  exact ⟨h1, h2, h3.to (U := U.calling g mk v) (Vm.Alike.refl U.vm) (fun q => xnest_same (u := U) (U := U.calling g mk v) rfl q) (fun _ _ _ _ q => vk_R.same (u := U) (U := U.calling g mk v) rfl q) (Nat.le_refl _) (fun _ _ _ => rfl) (fun _ q => q), h4, h5⟩
theorem xMth {y : Nat} (hy : y < 265) : (xNm y).1.cls ≠ "java/lang/invoke/MethodHandle" ∧ (xNm y).1.cls ≠ "java/lang/invoke/VarHandle" ∧ plainFor (xNm y).1 = true ∧ (xNm y).2.2.1 ≤ 25 ∧ (xMI y).1 = (xMC y).2.1 ∧ ((xMC y).2.1 = 0 → (xNm y).2.2.2.1 = some .int) ∧ ((xMC y).2.1 = 1 → (xNm y).2.2.2.1 = some .long) ∧ ((xMC y).2.1 = 2 → (xNm y).2.2.2.1 = none) ∧ ((xMC y).2.1 = 3 → (xNm y).2.2.2.1 = some .boolean) ∧ ((xMC y).2.1 = 4 → (xNm y).2.2.2.1 = some .byte) ∧ ((xMC y).2.1 = 5 → (xNm y).2.2.2.1 = some .char) ∧ (xMC y).2.1 ≤ 5 := by
  have h := xmth_ok y hy
  unfold xmthb at h
  simp only [Bool.and_eq_true, decide_eq_true_eq] at h
  obtain ⟨h1, h2, h3, h4, h5, h6⟩ := h
  refine ⟨h1, h2, h3, Nat.le_of_ble_eq_true h4, Nat.eq_of_beq_eq_true h5, ?_⟩
  generalize (xMC y).2.1 = t at h6
  generalize (xNm y).2.2.2.1 = r at h6
  match t, h6 with
  | 0, h6 => exact ⟨fun _ => of_decide_eq_true h6, fun e => by omega, fun e => by omega, fun e => by omega, fun e => by omega, fun e => by omega, by omega⟩
  | 1, h6 => exact ⟨fun e => by omega, fun _ => of_decide_eq_true h6, fun e => by omega, fun e => by omega, fun e => by omega, fun e => by omega, by omega⟩
  | 2, h6 => exact ⟨fun e => by omega, fun e => by omega, fun _ => of_decide_eq_true h6, fun e => by omega, fun e => by omega, fun e => by omega, by omega⟩
  | 3, h6 => exact ⟨fun e => by omega, fun e => by omega, fun e => by omega, fun _ => of_decide_eq_true h6, fun e => by omega, fun e => by omega, by omega⟩
  | 4, h6 => exact ⟨fun e => by omega, fun e => by omega, fun e => by omega, fun e => by omega, fun _ => of_decide_eq_true h6, fun e => by omega, by omega⟩
  | 5, h6 => exact ⟨fun e => by omega, fun e => by omega, fun e => by omega, fun e => by omega, fun e => by omega, fun _ => of_decide_eq_true h6, by omega⟩
  | t + 6, h6 => cases h6
section XS
variable {p : Program} {l : Launch} {e : Env} {R : Room} {s : State} {m : MethodId} {args : Array Value} {below : List Frame} {meth : Method} {c : Code} {Z : State → Prop}
variable {cc : ByteArray} {nL : Nat} {N0 : Nat × (Nat → Nat)} {D : va_G} {dA : Nat → ClassId} {z : (Nat → Nat) × (Nat → Nat) × Nat × Value} {A : Nat → Prop} {C : XC} {Q : XQ} {X : Int × (Int → Int)}
/-- behind a call -/
theorem xs_back {pc n rt : Nat} {L : XL} {rest : List XV} {K : XW} {H : XH} {ad : Nat → Nat} {ls : Array Slot} {Hp : Heap} {locs : List Loc} {cells slots mc ms : Nat} {st0 : List Value} {av : Array Value} (hn : xrp n = pc + 3) (hA : ∀ q, s.heap.size ≤ q → A q) (hmc : mc ≤ K.2.1 ∧ ms ≤ K.2.2)
    (ok0 : lv_has ls nL (xls (ad, z) L)) (ok1 : ∀ q ∈ L, xokv K.1.length q.2) (ok2 : ∀ v ∈ rest, xokv K.1.length v) (hD : va_D A (xws dA ad K.1 H)) (hS : va_S A s.heap Hp locs) (hcc : cells + K.2.1 = R.cells) (hss : slots + K.2.2 = R.slots) (hg0 : xags N0.1 N0.2 ad) (hn0 : N0.1 ≤ K.1.length)
    (hrun : va_Run p l e R s m args below meth c Hp locs cells slots mc ms (F0 m pc ls st0) (rest.map (xv (ad, z))) (xQc rt (fun r K' H' => XPP p l e R s m args below meth c Z nL N0 D dA z A (n, L, xpush rt r rest, (K'.1, K.2.1 - mc, K.2.2 - ms), H')) D dA K.1.length ad (va_A (xws dA ad K.1 H) Hp.size) av) (va_A (xws dA ad K.1 H) Hp.size)) : W p l e R s m args below meth c Hp locs cells slots Z (F0 m pc ls st0) := by
  have hF : ∀ q, va_A (xws dA ad K.1 H) Hp.size q → A q := by
    intro q h
    rcases h with ⟨k, e, h⟩ | h
    · exact hD.2 k _ h
    · exact hA q (Nat.le_trans hS.1 h)
  have fin : ∀ (x : Int) (w : Option XV) (u : XU) (t : State) (H1 : Heap) (locs1 : List Loc), t.heap = H1 → xU (fun r K' H' => XPP p l e R s m args below meth c Z nL N0 D dA z A (n, L, xpush rt r rest, (K'.1, K.2.1 - mc, K.2.2 - ms), H')) K.1.length ad x u → (xpush rt x rest = w.toList ++ rest) → (∀ v ∈ w, ∀ k, xokv k v) → xB D dA (va_A (xws dA ad K.1 H) Hp.size) u t → va_S A s.heap H1 locs1 → W p l e R s m args below meth c H1 locs1 (cells + mc) (slots + ms) Z (F0 m (pc + 3) ls ((w.toList.map (xv (u.1, z))) ++ rest.map (xv (ad, z)))) := by
    intro x w u t H1 locs1 ht hu hw hwok hB hS1
    obtain ⟨hq, hag, hok, hle⟩ := hu
    obtain ⟨b1, b2⟩ := hB
    rw [ht] at b1
    have hle2 : (K.1.length : Int) ≤ (u.2.1.1.length : Int) := by omega
    rw [hw] at hq
    have k := XPP.go (ad := u.1) (Hp := H1) (locs := locs1) (ls := ls) (cells := cells + mc) (slots := slots + ms) hq hn ⟨(xls_ag hag ok1) ▸ ok0, fun v hv => xokv_mono hle2 (ok1 v hv), fun v hv => by
      rcases List.mem_append.mp hv with h | h
      · exact hwok v (by simpa using h) _
      · exact xokv_mono hle2 (ok2 v h), hok, b1, b2.weaken (fun _ q _ h => hF q.1 h), hS1, by dsimp only; omega, by dsimp only; omega, fun i hi => (hag i (Nat.lt_of_lt_of_le hi hn0)).trans (hg0 i hi), Nat.le_trans hn0 hle⟩
    rw [List.map_append, xst_ag hag ok2] at k
    exact k
  unfold xQc at hrun
  split at hrun
  · refine va_calll hrun hS (fun q _ h => hF q h) hF (fun r u t H1 locs1 ht hvm hw hB hz1 hk1 hS1 => ?_)
    obtain ⟨x, rfl, hx, hu⟩ := hw
    exact fin x (some (1, x)) u t H1 locs1 ht hu rfl (fun v hv k => by cases hv; exact xok_l hx) hB hS1
  · refine va_callv hrun hS (fun q _ h => hF q h) hF (fun u t H1 locs1 ht hvm hu hB hz1 hk1 hS1 => ?_)
    exact fin 0 none u t H1 locs1 ht hu rfl (fun v hv k => by cases hv) hB hS1
  · next h1 h2 =>
    refine va_calli hrun hS (fun q _ h => hF q h) hF (fun r u t H1 locs1 ht hvm hw hB hz1 hk1 hS1 => ?_)
    obtain ⟨x, rfl, hx, hu⟩ := hw
    refine fin x (some (0, x)) u t H1 locs1 ht hu ?_ (fun v hv k => by cases hv; exact xok_i hx) hB hS1
    match rt, h1, h2 with
    | 0, _, _ => rfl
    | 1, h1, _ => exact absurd rfl h1
    | 2, _, h2 => exact absurd rfl h2
    | rt + 3, _, _ => rfl
/-- a call by name: what the row of the call says, and the callee's contract -/
theorem xs_call (hx : p.tables.exec = Jvm.exec) (hb : c.code = cc) (hml : c.maxLocals = nL) {pc n : Nat} {L : XL} {S : List XV} {K : XW} {H : XH} (hpc : xrp pc = pc) (hts : ∀ w ∈ wsG, w.before args s = true) (hXF : XF D dA z X A s s.heap) (hA : ∀ q, s.heap.size ≤ q → A q) {own : String} {idx y k kind : Nat} (hown : s.vm.findClass own = some m.cls) (hy : y < 265)
    (hcw : Jvm.Cond.code (xNm y).1 (xNm y).2.1 (xNm y).2.2.1 (xNm y).2.2.2.1 ∈ wsG) (hini : Jvm.Cond.initialized (xNm y).1.cls ∈ wsG)
    (hkind : (kind = 0 ∧ decode cc pc = .ok (.invokevirtual idx, 3) ∧ xpar y = some (k - 1) ∧ 1 ≤ k ∧ Cond.methodLink own idx (xNm y).1 ∈ wsG ∧ Cond.instanceMethod (xNm y).1 ∈ wsG ∧ Cond.selects (xNm y).1.cls (xNm y).1 (xNm y).1 ∈ wsG ∧ (((xMI y).2.1 < 13 ∧ (xCl (xMI y).2.1).1 = (xNm y).1.cls) ∨ ((xMI y).2.1 = 100 ∧ (xNm y).1.cls = "java/lang/String"))) ∨
      (kind = 1 ∧ decode cc pc = .ok (.invokestatic idx, 3) ∧ xpar y = some k ∧ Cond.methodLink own idx (xNm y).1 ∈ wsG ∧ Cond.static (xNm y).1 ∈ wsG) ∨
      (kind = 2 ∧ decode cc pc = .ok (.invokestatic idx, 3) ∧ xpar y = some k ∧ Cond.methodLinkNest own idx (xNm y).1 "MudBoot" ∈ xnest ∧ Cond.static (xNm y).1 ∈ wsG) ∨
      (kind = 3 ∧ decode cc pc = .ok (.invokespecial idx, 3) ∧ xpar y = some (k - 1) ∧ 1 ≤ k ∧ Cond.methodLink own idx (xNm y).1 ∈ wsG ∧ Cond.instanceMethod (xNm y).1 ∈ wsG ∧ (xNm y).1.name = "<init>" ∧ (xMI y).2.1 < 13 ∧ (xMC y).2.1 = 2))
    (hC : XCall l R C D dA z X) (hn : xrp n = pc + 3)
    (h : xres C (XPP p l e R s m args below meth c Z nL N0 D dA z A) Q (xcall xMI n y k L S K H)) : XPP p l e R s m args below meth c Z nL N0 D dA z A (pc, L, S, K, H) := by
  obtain ⟨hb1, h2⟩ := xbif_inv (o := xcl y (S.take k).reverse (K.1, (xMI y).2.2.1, (xMI y).2.2.2) H (fun r K' H' => (n, L, xpush (xMI y).1 r (S.drop k), (K'.1, K.2.1 - (xMI y).2.2.1, K.2.2 - (xMI y).2.2.2), H'))) h
  obtain ⟨hk1, hb2⟩ := Bool.and_eq_true_iff.mp hb1
  obtain ⟨hk2, hb3⟩ := Bool.and_eq_true_iff.mp hb2
  obtain ⟨hk3, hb4⟩ := Bool.and_eq_true_iff.mp hb3
  obtain ⟨hk4, hk5⟩ := Bool.and_eq_true_iff.mp hb4
  have hk1 := Nat.le_of_ble_eq_true hk1
  have hk3 := Nat.le_of_ble_eq_true hk3
  have hk4 := Nat.le_of_ble_eq_true hk4
  obtain ⟨my1, my2, my3, my4, my5, my6⟩ := xMth hy
  have hz : z.2.2.2.category = 1 := hXF.2.2.2.2.2.2
  refine XPP.inn hpc fun ad ls Hp locs cells slots hr => ?_
  obtain ⟨ok0, ok1, ok2, ok3, hP, hD, hS, hcc, hss, hg0, hn0⟩ := hr
  have okT : ∀ v ∈ (S.take k).reverse, xokv K.1.length v := fun v hv => ok2 v (List.mem_of_mem_take (List.mem_reverse.mp hv))
  have okD : ∀ v ∈ S.drop k, xokv K.1.length v := fun v hv => ok2 v (List.mem_of_mem_drop hv)
  obtain ⟨rm, rc, rs, rf, rl, hM⟩ := hC y (S.take k).reverse (K.1, (xMI y).2.2.1, (xMI y).2.2.2) H _ ad Hp.size h2 hy okT ok3
  rw [my5] at hM
  have hF : ∀ q, va_A (xws dA ad K.1 H) Hp.size q → A q := by
    intro q h
    rcases h with ⟨k, e, h⟩ | h
    · exact hD.2 k _ h
    · exact hA q (Nat.le_trans hS.1 h)
  have pre : ∀ U : State, U.heap = Hp → s.WarmedH U.vm → xPc (S.take k).reverse K.1 H D dA z X ad Hp.size ((S.take k).reverse.map (xv (ad, z))).toArray U := by
    intro U hU hW
    refine ⟨rfl, by rw [hU], ?_, by rw [hU]; exact hP, hD.weaken (fun _ _ _ _ => trivial)⟩
    rw [hU]
    exact hXF.to hW.alike (fun q => xnest_warm hW q) (fun _ _ _ _ q => vk_R.warm hW q) hS.1 hS.2.1 hF
  have hroom : 2 * (F0 m pc ls (S.map (xv (ad, z)))).monitorRoom + (((S.drop k).map (xv (ad, z))).map fun v => v.category).sum ≤ 8 := lv_room (xroom_le (ad := ad) hz hk2)
  have hstk : S.map (xv (ad, z)) = ((S.take k).reverse.map (xv (ad, z))).reverse ++ (S.drop k).map (xv (ad, z)) := by
    rw [List.map_reverse, List.reverse_reverse, ← List.map_append, List.take_append_drop]
  have hlenT : ((S.take k).reverse.map (xv (ad, z))).length = k := by simp; omega
  have hpar : ∀ j, xpar y = some j → ∀ sig, parseMethodDescriptor (xNm y).1.desc = some sig → j = sig.parameters.length := by
    intro j hj sig hs
    unfold xpar at hj
    rw [hs] at hj
    exact (Option.some.inj hj).symm
  have hfit : cells + (xMI y).2.2.1 ≤ R.cells ∧ slots + (xMI y).2.2.2 ≤ R.slots := ⟨by omega, by omega⟩
  have hfx : CallFix p m c cc nL s args wsG own := ⟨hx, hb, hml, hown, hts⟩
  have base : ∀ j, xpar y = some j → Cond.methodLink own idx (xNm y).1 ∈ wsG → CallB R s args own idx (xNm y).1 (xNm y).2.1 (xNm y).2.2.1 (xNm y).2.2.2.1 (xwsM y) rm (xMI y).2.2.1 (xMI y).2.2.2 j := fun j hj hl =>
    ⟨rc, rs, rf, by omega, pay_in hts (xwsM_good hcw), List.mem_cons_self, hts _ hcw, hts _ hini, ⟨my1, my2⟩, hpar j hj, hts _ hl⟩
  have back := fun (st0 : List Value) (av : Array Value) => xs_back (D := D) (p := p) (l := l) (e := e) (m := m) (args := args) (below := below) (meth := meth) (c := c) (Z := Z) (pc := pc) (n := n) (rt := (xMI y).1) (mc := (xMI y).2.2.1) (ms := (xMI y).2.2.2) (st0 := st0) (av := av) hn hA ⟨hk3, hk4⟩ ok0 ok1 okD hD hS hcc hss hg0 hn0
  rw [my5] at back
  rcases hkind with ⟨-, hd, hp, hk0, hl, hi, hse, hrc⟩ | ⟨-, hd, hp, hl, hst⟩ | ⟨-, hd, hp, hl, hst⟩ | ⟨-, hd, hp, hk0, hl, hi, hin, hci, hrt⟩
  · -- an object's method
    have hne : (xMI y).2.1 ≠ 200 := by rcases hrc with h | h <;> omega
    have hrv : (match (S.take k).reverse with
        | (t, o) :: _ => (Nat.beq t 2 && Nat.beq (xCls K o) (xMI y).2.1) || (Nat.beq t 3 && Nat.beq (xMI y).2.1 100)
        | _ => false) = true := by
      rcases Bool.or_eq_true_iff.mp hk5 with q | q
      · exact absurd (Nat.eq_of_beq_eq_true q) hne
      · exact q
    cases hT : (S.take k).reverse with
    | nil => rw [hT] at hrv; cases hrv
    | cons v0 As =>
    rw [hT] at hrv hM pre hstk hlenT okT
    obtain ⟨t, o⟩ := v0
    -- the receiver
    have hrecv : ∃ b : Nat, xv (ad, z) (t, o) = .ref b ∧ ∃ cellB : Cell, Hp[b]? = some cellB ∧ cellB.vm.isStatics = false ∧ s.vm.findClass (xNm y).1.cls = some cellB.cls := by
      rcases Bool.or_eq_true_iff.mp hrv with q | q
      · obtain ⟨q1, q2⟩ := Bool.and_eq_true_iff.mp q
        cases Nat.eq_of_beq_eq_true q1
        have q2 := Nat.eq_of_beq_eq_true q2
        rcases hrc with ⟨h13, hcl⟩ | ⟨h100, -⟩
        · obtain ⟨i, rs, rfl, hi, hkd⟩ := xcls_inv q2 (by omega)
          have hws := xws_get (dA := dA) (ad := ad) (H := H) hi
          rw [hkd] at hws
          obtain ⟨ty0, c1, -⟩ := xcl_ok _ h13
          refine ⟨ad i, rfl, ?_⟩
          have := va_recv hXF.1 hP c1 hws
          rw [hcl] at this
          exact this
        · exfalso
          obtain ⟨i, rs, rfl, hi, hkd⟩ := xcls_inv q2 (by omega)
          have := ok3 i hi
          rw [hkd] at this
          have := this.1
          dsimp only at this
          omega
      · obtain ⟨q1, q2⟩ := Bool.and_eq_true_iff.mp q
        cases Nat.eq_of_beq_eq_true q1
        have q2 := Nat.eq_of_beq_eq_true q2
        rcases hrc with ⟨h13, -⟩ | ⟨-, hcl⟩
        · omega
        · have ho := (okT _ List.mem_cons_self).2.2.2 (Or.inl rfl)
          dsimp only at ho
          refine ⟨z.1 o.toNat, rfl, ?_⟩
          rw [hcl]
          exact vk_recv hXF.2.2.2.1.1 ho hS
    obtain ⟨b, hbv, hcell⟩ := hrecv
    rw [List.map_cons, hbv] at pre hstk hlenT
    rw [List.reverse_cons, List.append_assoc] at hstk
    refine back _ _ (va_runV (b := b) (As := As.map (xv (ad, z))) (n := k - 1) hfx hM ⟨base _ hp hl, hts _ hi, hts _ hse⟩ ⟨xPc_blind, hcell, pre⟩ rfl (by simp at hlenT ⊢; omega) ok0.1 hstk hroom hd hfit)
  · refine back _ _ (va_runS (As := (S.take k).reverse.map (xv (ad, z))) (n := k) hfx hM ⟨base _ hp hl, hts _ hst⟩ ⟨xPc_blind, pre⟩ rfl hlenT ok0.1 hstk hroom hd hfit)
  · refine back _ _ (va_runSN (As := (S.take k).reverse.map (xv (ad, z))) (n := k) (host := "MudBoot") hfx hM ⟨⟨⟨rc, rs, rf, by omega, pay_in hts (xwsM_good hcw), List.mem_cons_self⟩, hts _ hcw, hts _ hini, ⟨my1, my2⟩, hpar k hp, va_Nw.use rfl (hXF.2.1 _ hl)⟩, hts _ hst, trivial⟩ ⟨xPc_blind, pre⟩ rfl hlenT ok0.1 hstk hroom hd hfit)
  · -- a constructor
    have hrv : (match (S.take k).reverse with
        | (t, o) :: _ => (Nat.beq t 2 && Nat.beq (xCls K o) (xMI y).2.1) || (Nat.beq t 3 && Nat.beq (xMI y).2.1 100)
        | _ => false) = true := by
      rcases Bool.or_eq_true_iff.mp hk5 with q | q
      · exact absurd (Nat.eq_of_beq_eq_true q) (by omega)
      · exact q
    cases hT : (S.take k).reverse with
    | nil => rw [hT] at hrv; cases hrv
    | cons v0 As =>
    rw [hT] at hrv hM pre hstk hlenT okT
    obtain ⟨t, o⟩ := v0
    have hrecv : ∃ b : Nat, xv (ad, z) (t, o) = .ref b := by
      rcases Bool.or_eq_true_iff.mp hrv with q | q
      · obtain ⟨q1, q2⟩ := Bool.and_eq_true_iff.mp q
        cases Nat.eq_of_beq_eq_true q1
        obtain ⟨i, rs, rfl, hi, hkd⟩ := xcls_inv (Nat.eq_of_beq_eq_true q2) (by omega)
        exact ⟨ad i, rfl⟩
      · exact absurd (Nat.eq_of_beq_eq_true (Bool.and_eq_true_iff.mp q).2) (by omega)
    obtain ⟨b, hbv⟩ := hrecv
    have hret : (xNm y).2.2.2.1 = none := my6.2.2.1 hrt
    have hb0 := base _ hp hl
    rw [hret] at hb0
    rw [List.map_cons, hbv] at pre hstk hlenT
    rw [List.reverse_cons, List.append_assoc] at hstk
    refine back _ _ (va_runI (b := b) (As := As.map (xv (ad, z))) (n := k - 1) hfx hM ⟨hb0, hin, hts _ hi⟩ ⟨xPc_blind, pre⟩ rfl (by simp at hlenT ⊢; omega) ok0.1 hstk hroom hd hfit)
end XS
