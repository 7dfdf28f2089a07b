/-! SOUNDNESS 3: one instruction at a time -/
def xrp (pc : Nat) : Nat := if pc < 100000 then pc else pc - 100000
theorem xb2_inv {C : XC} {P : XG → Prop} {Q : XQ} {t2 t1 : Nat} {S : List XV} {f : Int → Int → List XV → XR} (h : xres C P Q (xb2 t2 t1 S f)) : ∃ x y r, S = (t1, y) :: (t2, x) :: r ∧ xres C P Q (f x y r) := by
  match S, h with
  | [], h => exact h.elim
  | [_], h => exact h.elim
  | (u, y) :: (v, x) :: r, h =>
    unfold xb2 at h
    dsimp only at h
    cases hb : (Nat.beq u t1 && Nat.beq v t2) with
    | false => rw [hb] at h; exact h.elim
    | true =>
      rw [hb] at h
      obtain ⟨h1, h2⟩ := Bool.and_eq_true_iff.mp hb
      exact ⟨x, y, r, by rw [Nat.eq_of_beq_eq_true h1, Nat.eq_of_beq_eq_true h2], h⟩
theorem xu1_inv {C : XC} {P : XG → Prop} {Q : XQ} {t : Nat} {S : List XV} {f : Int → List XV → XR} (h : xres C P Q (xu1 t S f)) : ∃ x r, S = (t, x) :: r ∧ xres C P Q (f x r) := by
  match S, h with
  | [], h => exact h.elim
  | (u, x) :: r, h =>
    unfold xu1 at h
    dsimp only at h
    cases hb : Nat.beq u t with
    | false => rw [hb] at h; exact h.elim
    | true => rw [hb] at h; exact ⟨x, r, by rw [Nat.eq_of_beq_eq_true hb], h⟩
theorem xbif_inv {C : XC} {P : XG → Prop} {Q : XQ} {b : Bool} {o : XR} (h : xres C P Q (bif b then o else xno)) : b = true ∧ xres C P Q o := by
  cases b with
  | false => exact h.elim
  | true => exact ⟨rfl, h⟩
def XRel (R : Room) (s : State) (nL : Nat) (N0 : Nat × (Nat → Nat)) (D : va_G) (dA : Nat → ClassId) (z : (Nat → Nat) × (Nat → Nat) × Nat × Value) (A : Nat → Prop) (L : XL) (S : List XV) (K : XW) (H : XH) (ad : Nat → Nat) (ls : Array Slot) (Hp : Heap) (locs : List Loc) (cells slots : Nat) : Prop :=
  lv_has ls nL (xls (ad, z) L) ∧ (∀ q ∈ L, xokv K.1.length q.2) ∧ (∀ v ∈ S, xokv K.1.length v) ∧ xokh K.1 H ∧ va_P D vwCl (xws dA ad K.1 H) Hp ∧ va_D A (xws dA ad K.1 H) ∧ va_S A s.heap Hp locs ∧ cells + K.2.1 = R.cells ∧ slots + K.2.2 = R.slots ∧ xags N0.1 N0.2 ad ∧ N0.1 ≤ K.1.length
section XS
variable {p : Program} {l : Launch} {e : Env} {R : Room} {s : State} {m : MethodId} {args : Array Value} {below : List Frame} {meth : Method} {c : Code} {Z : State → Prop}
variable {cc : ByteArray} {nL : Nat} {N0 : Nat × (Nat → Nat)} {D : va_G} {dA : Nat → ClassId} {z : (Nat → Nat) × (Nat → Nat) × Nat × Value} {A : Nat → Prop} {C : XC} {Q : XQ}
def XPP (p : Program) (l : Launch) (e : Env) (R : Room) (s : State) (m : MethodId) (args : Array Value) (below : List Frame) (meth : Method) (c : Code) (Z : State → Prop) (nL : Nat) (N0 : Nat × (Nat → Nat)) (D : va_G) (dA : Nat → ClassId) (z : (Nat → Nat) × (Nat → Nat) × Nat × Value) (A : Nat → Prop) (g : XG) : Prop :=
  ∀ (ad : Nat → Nat) (ls : Array Slot) (Hp : Heap) (locs : List Loc) (cells slots : Nat), XRel R s nL N0 D dA z A g.2.1 g.2.2.1 g.2.2.2.1 g.2.2.2.2 ad ls Hp locs cells slots → W p l e R s m args below meth c Hp locs cells slots Z (F0 m (xrp g.1) ls (g.2.2.1.map (xv (ad, z))))
theorem XPP.inn {pc : Nat} {L : XL} {S : List XV} {K : XW} {H : XH} (hpc : xrp pc = pc) (h : ∀ (ad : Nat → Nat) (ls : Array Slot) (Hp : Heap) (locs : List Loc) (cells slots : Nat), XRel R s nL N0 D dA z A L S K H ad ls Hp locs cells slots → W p l e R s m args below meth c Hp locs cells slots Z (F0 m pc ls (S.map (xv (ad, z))))) : XPP p l e R s m args below meth c Z nL N0 D dA z A (pc, L, S, K, H) := by
  intro ad ls Hp locs cells slots hr
  show W p l e R s m args below meth c Hp locs cells slots Z (F0 m (xrp pc) ls (S.map (xv (ad, z))))
  rw [hpc]
  exact h ad ls Hp locs cells slots hr
theorem XPP.go {n t : Nat} {L : XL} {S : List XV} {K : XW} {H : XH} {ad : Nat → Nat} {ls : Array Slot} {Hp : Heap} {locs : List Loc} {cells slots : Nat} (h : XPP p l e R s m args below meth c Z nL N0 D dA z A (n, L, S, K, H)) (hn : xrp n = t) (hr : XRel R s nL N0 D dA z A L S K H ad ls Hp locs cells slots) : W p l e R s m args below meth c Hp locs cells slots Z (F0 m t ls (S.map (xv (ad, z)))) := by
  rw [← hn]
  exact h ad ls Hp locs cells slots hr
/-- another stack -/
theorem XRel.st {L : XL} {S S' : List XV} {K : XW} {H : XH} {ad : Nat → Nat} {ls : Array Slot} {Hp : Heap} {locs : List Loc} {cells slots : Nat} (h : XRel R s nL N0 D dA z A L S K H ad ls Hp locs cells slots) (h' : ∀ v ∈ S', xokv K.1.length v) : XRel R s nL N0 D dA z A L S' K H ad ls Hp locs cells slots := ⟨h.1, h.2.1, h', h.2.2.2⟩
theorem xok_i {n : Int} {x : Int} (h : xI x) : xokv n (0, x) := ⟨fun _ => h, fun e => (by cases e), fun e => (by cases e), fun e => (by rcases e with e | e <;> cases e)⟩
theorem xok_l {n : Int} {x : Int} (h : xJ x) : xokv n (1, x) := ⟨fun e => (by cases e), fun _ => h, fun e => (by cases e), fun e => (by rcases e with e | e <;> cases e)⟩
theorem xok_r {n : Int} {x : Int} (h : x < n) : xokv n (2, x) := ⟨fun e => (by cases e), fun e => (by cases e), fun _ => h, fun e => (by rcases e with e | e <;> cases e)⟩
theorem xok_cons {n : Int} {v : XV} {S : List XV} (h : xokv n v) (h' : ∀ w ∈ S, xokv n w) : ∀ w ∈ v :: S, xokv n w := fun w hw => by
  rcases List.mem_cons.mp hw with e | e
  · rw [e]; exact h
  · exact h' w e
theorem xok_1 {n : Int} {v : XV} {S : List XV} (h : ∀ w ∈ v :: S, xokv n w) : xokv n v ∧ ∀ w ∈ S, xokv n w := ⟨h v List.mem_cons_self, fun w hw => h w (List.mem_cons_of_mem _ hw)⟩
theorem xs_iadd (hx : p.tables.exec = Jvm.exec) (hb : c.code = cc) {pc n : Nat} {L : XL} {S : List XV} {K : XW} {H : XH} (hpc : xrp pc = pc) (hd : decode cc pc = .ok (.iadd, 1)) (hn : xrp n = pc + 1) (h : xres C (XPP p l e R s m args below meth c Z nL N0 D dA z A) Q (xb2 0 0 S fun x y r => xck (xI (x + y)) (n, L, (0, x + y) :: r, K, H))) : XPP p l e R s m args below meth c Z nL N0 D dA z A (pc, L, S, K, H) := by
  obtain ⟨x, y, r, rfl, h1, h2⟩ := xb2_inv h
  refine XPP.inn hpc fun ad ls Hp locs cells slots hr => ?_
  obtain ⟨hy, hr1⟩ := xok_1 hr.2.2.1
  obtain ⟨hx0, hr2⟩ := xok_1 hr1
  refine lv_iadd hx hb hd ?_
  rw [← Int32.ofInt_add]
  exact h2.go hn (hr.st (xok_cons (xok_i h1) hr2))
theorem xs_isub (hx : p.tables.exec = Jvm.exec) (hb : c.code = cc) {pc n : Nat} {L : XL} {S : List XV} {K : XW} {H : XH} (hpc : xrp pc = pc) (hd : decode cc pc = .ok (.isub, 1)) (hn : xrp n = pc + 1) (h : xres C (XPP p l e R s m args below meth c Z nL N0 D dA z A) Q (xb2 0 0 S fun x y r => xck (xI (x - y)) (n, L, (0, x - y) :: r, K, H))) : XPP p l e R s m args below meth c Z nL N0 D dA z A (pc, L, S, K, H) := by
  obtain ⟨x, y, r, rfl, h1, h2⟩ := xb2_inv h
  refine XPP.inn hpc fun ad ls Hp locs cells slots hr => ?_
  obtain ⟨hy, hr1⟩ := xok_1 hr.2.2.1
  obtain ⟨hx0, hr2⟩ := xok_1 hr1
  refine lv_isub hx hb hd ?_
  rw [← Int32.ofInt_sub]
  exact h2.go hn (hr.st (xok_cons (xok_i h1) hr2))
theorem xs_imul (hx : p.tables.exec = Jvm.exec) (hb : c.code = cc) {pc n : Nat} {L : XL} {S : List XV} {K : XW} {H : XH} (hpc : xrp pc = pc) (hd : decode cc pc = .ok (.imul, 1)) (hn : xrp n = pc + 1) (h : xres C (XPP p l e R s m args below meth c Z nL N0 D dA z A) Q (xb2 0 0 S fun x y r => xck (xI (x * y)) (n, L, (0, x * y) :: r, K, H))) : XPP p l e R s m args below meth c Z nL N0 D dA z A (pc, L, S, K, H) := by
  obtain ⟨x, y, r, rfl, h1, h2⟩ := xb2_inv h
  refine XPP.inn hpc fun ad ls Hp locs cells slots hr => ?_
  obtain ⟨hy, hr1⟩ := xok_1 hr.2.2.1
  obtain ⟨hx0, hr2⟩ := xok_1 hr1
  refine lv_imul hx hb hd ?_
  rw [← Int32.ofInt_mul]
  exact h2.go hn (hr.st (xok_cons (xok_i h1) hr2))
theorem xs_idiv (hx : p.tables.exec = Jvm.exec) (hb : c.code = cc) {pc n : Nat} {L : XL} {S : List XV} {K : XW} {H : XH} (hpc : xrp pc = pc) (hd : decode cc pc = .ok (.idiv, 1)) (hn : xrp n = pc + 1) (h : xres C (XPP p l e R s m args below meth c Z nL N0 D dA z A) Q (xb2 0 0 S fun x y r => xck (¬ y = 0 ∧ xI (x.tdiv y)) (n, L, (0, x.tdiv y) :: r, K, H))) : XPP p l e R s m args below meth c Z nL N0 D dA z A (pc, L, S, K, H) := by
  obtain ⟨x, y, r, rfl, h1, h2⟩ := xb2_inv h
  refine XPP.inn hpc fun ad ls Hp locs cells slots hr => ?_
  obtain ⟨hy, hr1⟩ := xok_1 hr.2.2.1
  obtain ⟨hx0, hr2⟩ := xok_1 hr1
  refine lv_idiv hx hb hd (fun q => h1.1 ((xw_eq (hy.1 rfl) xw_0).mp q)) ?_
  rw [xw_div (hx0.1 rfl) (hy.1 rfl) h1.2]
  exact h2.go hn (hr.st (xok_cons (xok_i h1.2) hr2))
theorem xs_irem (hx : p.tables.exec = Jvm.exec) (hb : c.code = cc) {pc n : Nat} {L : XL} {S : List XV} {K : XW} {H : XH} (hpc : xrp pc = pc) (hd : decode cc pc = .ok (.irem, 1)) (hn : xrp n = pc + 1) (h : xres C (XPP p l e R s m args below meth c Z nL N0 D dA z A) Q (xb2 0 0 S fun x y r => xck (¬ y = 0 ∧ xI (x.tdiv y)) (n, L, (0, x.tmod y) :: r, K, H))) : XPP p l e R s m args below meth c Z nL N0 D dA z A (pc, L, S, K, H) := by
  obtain ⟨x, y, r, rfl, h1, h2⟩ := xb2_inv h
  refine XPP.inn hpc fun ad ls Hp locs cells slots hr => ?_
  obtain ⟨hy, hr1⟩ := xok_1 hr.2.2.1
  obtain ⟨hx0, hr2⟩ := xok_1 hr1
  refine lv_irem hx hb hd (fun q => h1.1 ((xw_eq (hy.1 rfl) xw_0).mp q)) ?_
  rw [xw_rem (hx0.1 rfl) (hy.1 rfl) h1.2]
  exact h2.go hn (hr.st (xok_cons (xok_i (xw_tmodI (hx0.1 rfl) (hy.1 rfl) h1.1)) hr2))
theorem xs_ladd (hx : p.tables.exec = Jvm.exec) (hb : c.code = cc) {pc n : Nat} {L : XL} {S : List XV} {K : XW} {H : XH} (hpc : xrp pc = pc) (hd : decode cc pc = .ok (.ladd, 1)) (hn : xrp n = pc + 1) (h : xres C (XPP p l e R s m args below meth c Z nL N0 D dA z A) Q (xb2 1 1 S fun x y r => xck (xJ (x + y)) (n, L, (1, x + y) :: r, K, H))) : XPP p l e R s m args below meth c Z nL N0 D dA z A (pc, L, S, K, H) := by
  obtain ⟨x, y, r, rfl, h1, h2⟩ := xb2_inv h
  refine XPP.inn hpc fun ad ls Hp locs cells slots hr => ?_
  obtain ⟨hy, hr1⟩ := xok_1 hr.2.2.1
  obtain ⟨hx0, hr2⟩ := xok_1 hr1
  refine lv_ladd hx hb hd ?_
  rw [← Int64.ofInt_add]
  exact h2.go hn (hr.st (xok_cons (xok_l h1) hr2))
theorem xs_lsub (hx : p.tables.exec = Jvm.exec) (hb : c.code = cc) {pc n : Nat} {L : XL} {S : List XV} {K : XW} {H : XH} {r1 : Nat} (hpc : xrp pc = pc) (hd : decode cc pc = .ok (.lsub, 1)) (hn : xrp n = pc + 1) (h : xres C (XPP p l e R s m args below meth c Z nL N0 D dA z A) Q (xb2 1 1 S fun x y r => bif Nat.beq r1 1 then xgo (n, L, (1, xsubW x y) :: r, K, H) else xck (xJ (x - y)) (n, L, (1, x - y) :: r, K, H))) : XPP p l e R s m args below meth c Z nL N0 D dA z A (pc, L, S, K, H) := by
  obtain ⟨x, y, r, rfl, h0⟩ := xb2_inv h
  refine XPP.inn hpc fun ad ls Hp locs cells slots hr => ?_
  obtain ⟨hy, hr1⟩ := xok_1 hr.2.2.1
  obtain ⟨hx0, hr2⟩ := xok_1 hr1
  refine lv_lsub hx hb hd ?_
  cases hb : Nat.beq r1 1 with
  | true =>
    rw [hb] at h0
    have h2 : XPP p l e R s m args below meth c Z nL N0 D dA z A (n, L, (1, xsubW x y) :: r, K, H) := h0
    have k := h2.go hn (hr.st (xok_cons (xok_l (xw_toJ _)) hr2))
    rw [List.map_cons, show xv (ad, z) (1, xsubW x y) = .long (Int64.ofInt x - Int64.ofInt y) from congrArg Value.long (Int64.ofInt_toInt _)] at k
    exact k
  | false =>
    rw [hb] at h0
    obtain ⟨h1, h2⟩ : xJ (x - y) ∧ XPP p l e R s m args below meth c Z nL N0 D dA z A (n, L, (1, x - y) :: r, K, H) := h0
    rw [← Int64.ofInt_sub]
    exact h2.go hn (hr.st (xok_cons (xok_l h1) hr2))
theorem xs_lmul (hx : p.tables.exec = Jvm.exec) (hb : c.code = cc) {pc n : Nat} {L : XL} {S : List XV} {K : XW} {H : XH} (hpc : xrp pc = pc) (hd : decode cc pc = .ok (.lmul, 1)) (hn : xrp n = pc + 1) (h : xres C (XPP p l e R s m args below meth c Z nL N0 D dA z A) Q (xb2 1 1 S fun x y r => xck (xJ (x * y)) (n, L, (1, x * y) :: r, K, H))) : XPP p l e R s m args below meth c Z nL N0 D dA z A (pc, L, S, K, H) := by
  obtain ⟨x, y, r, rfl, h1, h2⟩ := xb2_inv h
  refine XPP.inn hpc fun ad ls Hp locs cells slots hr => ?_
  obtain ⟨hy, hr1⟩ := xok_1 hr.2.2.1
  obtain ⟨hx0, hr2⟩ := xok_1 hr1
  refine lv_lmul hx hb hd ?_
  rw [← Int64.ofInt_mul]
  exact h2.go hn (hr.st (xok_cons (xok_l h1) hr2))
theorem xs_ldiv (hx : p.tables.exec = Jvm.exec) (hb : c.code = cc) {pc n : Nat} {L : XL} {S : List XV} {K : XW} {H : XH} (hpc : xrp pc = pc) (hd : decode cc pc = .ok (.ldiv, 1)) (hn : xrp n = pc + 1) (h : xres C (XPP p l e R s m args below meth c Z nL N0 D dA z A) Q (xb2 1 1 S fun x y r => xck (¬ y = 0 ∧ xJ (x.tdiv y)) (n, L, (1, x.tdiv y) :: r, K, H))) : XPP p l e R s m args below meth c Z nL N0 D dA z A (pc, L, S, K, H) := by
  obtain ⟨x, y, r, rfl, h1, h2⟩ := xb2_inv h
  refine XPP.inn hpc fun ad ls Hp locs cells slots hr => ?_
  obtain ⟨hy, hr1⟩ := xok_1 hr.2.2.1
  obtain ⟨hx0, hr2⟩ := xok_1 hr1
  refine lv_ldiv hx hb hd (fun q => h1.1 ((xw_eqJ (hy.2.1 rfl) (by unfold xJ; omega)).mp q)) ?_
  rw [xw_divJ (hx0.2.1 rfl) (hy.2.1 rfl) h1.2]
  exact h2.go hn (hr.st (xok_cons (xok_l h1.2) hr2))
theorem xs_iand (hx : p.tables.exec = Jvm.exec) (hb : c.code = cc) {pc n : Nat} {L : XL} {S : List XV} {K : XW} {H : XH} (hpc : xrp pc = pc) (hd : decode cc pc = .ok (.iand, 1)) (hn : xrp n = pc + 1) (h : xres C (XPP p l e R s m args below meth c Z nL N0 D dA z A) Q (xb2 0 0 S fun x y r => xgo (n, L, (0, xand x y) :: r, K, H))) : XPP p l e R s m args below meth c Z nL N0 D dA z A (pc, L, S, K, H) := by
  obtain ⟨x, y, r, rfl, h2⟩ := xb2_inv h
  refine XPP.inn hpc fun ad ls Hp locs cells slots hr => ?_
  obtain ⟨hy, hr1⟩ := xok_1 hr.2.2.1
  obtain ⟨hx0, hr2⟩ := xok_1 hr1
  refine lv_iand hx hb hd ?_
  have k := h2.go hn (hr.st (xok_cons (xok_i (xw_toI _)) hr2))
  rw [List.map_cons, show xv (ad, z) (0, xand x y) = .int (Int32.ofInt x &&& Int32.ofInt y) from congrArg Value.int (Int32.ofInt_toInt _)] at k
  exact k
theorem xs_ior (hx : p.tables.exec = Jvm.exec) (hb : c.code = cc) {pc n : Nat} {L : XL} {S : List XV} {K : XW} {H : XH} (hpc : xrp pc = pc) (hd : decode cc pc = .ok (.ior, 1)) (hn : xrp n = pc + 1) (h : xres C (XPP p l e R s m args below meth c Z nL N0 D dA z A) Q (xb2 0 0 S fun x y r => xgo (n, L, (0, xor_ x y) :: r, K, H))) : XPP p l e R s m args below meth c Z nL N0 D dA z A (pc, L, S, K, H) := by
  obtain ⟨x, y, r, rfl, h2⟩ := xb2_inv h
  refine XPP.inn hpc fun ad ls Hp locs cells slots hr => ?_
  obtain ⟨hy, hr1⟩ := xok_1 hr.2.2.1
  obtain ⟨hx0, hr2⟩ := xok_1 hr1
  refine lv_ior hx hb hd ?_
  have k := h2.go hn (hr.st (xok_cons (xok_i (xw_toI _)) hr2))
  rw [List.map_cons, show xv (ad, z) (0, xor_ x y) = .int (Int32.ofInt x ||| Int32.ofInt y) from congrArg Value.int (Int32.ofInt_toInt _)] at k
  exact k
theorem xs_ixor (hx : p.tables.exec = Jvm.exec) (hb : c.code = cc) {pc n : Nat} {L : XL} {S : List XV} {K : XW} {H : XH} (hpc : xrp pc = pc) (hd : decode cc pc = .ok (.ixor, 1)) (hn : xrp n = pc + 1) (h : xres C (XPP p l e R s m args below meth c Z nL N0 D dA z A) Q (xb2 0 0 S fun x y r => xgo (n, L, (0, xxor x y) :: r, K, H))) : XPP p l e R s m args below meth c Z nL N0 D dA z A (pc, L, S, K, H) := by
  obtain ⟨x, y, r, rfl, h2⟩ := xb2_inv h
  refine XPP.inn hpc fun ad ls Hp locs cells slots hr => ?_
  obtain ⟨hy, hr1⟩ := xok_1 hr.2.2.1
  obtain ⟨hx0, hr2⟩ := xok_1 hr1
  refine lv_ixor hx hb hd ?_
  have k := h2.go hn (hr.st (xok_cons (xok_i (xw_toI _)) hr2))
  rw [List.map_cons, show xv (ad, z) (0, xxor x y) = .int (Int32.ofInt x ^^^ Int32.ofInt y) from congrArg Value.int (Int32.ofInt_toInt _)] at k
  exact k
theorem xs_ishl (hx : p.tables.exec = Jvm.exec) (hb : c.code = cc) {pc n : Nat} {L : XL} {S : List XV} {K : XW} {H : XH} (hpc : xrp pc = pc) (hd : decode cc pc = .ok (.ishl, 1)) (hn : xrp n = pc + 1) (h : xres C (XPP p l e R s m args below meth c Z nL N0 D dA z A) Q (xb2 0 0 S fun x y r => xgo (n, L, (0, xshl x y) :: r, K, H))) : XPP p l e R s m args below meth c Z nL N0 D dA z A (pc, L, S, K, H) := by
  obtain ⟨x, y, r, rfl, h2⟩ := xb2_inv h
  refine XPP.inn hpc fun ad ls Hp locs cells slots hr => ?_
  obtain ⟨hy, hr1⟩ := xok_1 hr.2.2.1
  obtain ⟨hx0, hr2⟩ := xok_1 hr1
  refine lv_ishl hx hb hd ?_
  have k := h2.go hn (hr.st (xok_cons (xok_i (xw_toI _)) hr2))
  rw [List.map_cons, show xv (ad, z) (0, xshl x y) = .int (Int32.ofInt x <<< (Int32.ofInt y &&& 31)) from congrArg Value.int (Int32.ofInt_toInt _)] at k
  exact k
theorem xs_ishr (hx : p.tables.exec = Jvm.exec) (hb : c.code = cc) {pc n : Nat} {L : XL} {S : List XV} {K : XW} {H : XH} (hpc : xrp pc = pc) (hd : decode cc pc = .ok (.ishr, 1)) (hn : xrp n = pc + 1) (h : xres C (XPP p l e R s m args below meth c Z nL N0 D dA z A) Q (xb2 0 0 S fun x y r => xgo (n, L, (0, xshr x y) :: r, K, H))) : XPP p l e R s m args below meth c Z nL N0 D dA z A (pc, L, S, K, H) := by
  obtain ⟨x, y, r, rfl, h2⟩ := xb2_inv h
  refine XPP.inn hpc fun ad ls Hp locs cells slots hr => ?_
  obtain ⟨hy, hr1⟩ := xok_1 hr.2.2.1
  obtain ⟨hx0, hr2⟩ := xok_1 hr1
  refine lv_ishr hx hb hd ?_
  have k := h2.go hn (hr.st (xok_cons (xok_i (xw_toI _)) hr2))
  rw [List.map_cons, show xv (ad, z) (0, xshr x y) = .int (Int32.ofInt x >>> (Int32.ofInt y &&& 31)) from congrArg Value.int (Int32.ofInt_toInt _)] at k
  exact k
theorem xs_land (hx : p.tables.exec = Jvm.exec) (hb : c.code = cc) {pc n : Nat} {L : XL} {S : List XV} {K : XW} {H : XH} (hpc : xrp pc = pc) (hd : decode cc pc = .ok (.land, 1)) (hn : xrp n = pc + 1) (h : xres C (XPP p l e R s m args below meth c Z nL N0 D dA z A) Q (xb2 1 1 S fun x y r => xgo (n, L, (1, xandL x y) :: r, K, H))) : XPP p l e R s m args below meth c Z nL N0 D dA z A (pc, L, S, K, H) := by
  obtain ⟨x, y, r, rfl, h2⟩ := xb2_inv h
  refine XPP.inn hpc fun ad ls Hp locs cells slots hr => ?_
  obtain ⟨hy, hr1⟩ := xok_1 hr.2.2.1
  obtain ⟨hx0, hr2⟩ := xok_1 hr1
  refine lv_land hx hb hd ?_
  have k := h2.go hn (hr.st (xok_cons (xok_l (xw_toJ _)) hr2))
  rw [List.map_cons, show xv (ad, z) (1, xandL x y) = .long (Int64.ofInt x &&& Int64.ofInt y) from congrArg Value.long (Int64.ofInt_toInt _)] at k
  exact k
theorem xs_lor (hx : p.tables.exec = Jvm.exec) (hb : c.code = cc) {pc n : Nat} {L : XL} {S : List XV} {K : XW} {H : XH} (hpc : xrp pc = pc) (hd : decode cc pc = .ok (.lor, 1)) (hn : xrp n = pc + 1) (h : xres C (XPP p l e R s m args below meth c Z nL N0 D dA z A) Q (xb2 1 1 S fun x y r => xgo (n, L, (1, xorL x y) :: r, K, H))) : XPP p l e R s m args below meth c Z nL N0 D dA z A (pc, L, S, K, H) := by
  obtain ⟨x, y, r, rfl, h2⟩ := xb2_inv h
  refine XPP.inn hpc fun ad ls Hp locs cells slots hr => ?_
  obtain ⟨hy, hr1⟩ := xok_1 hr.2.2.1
  obtain ⟨hx0, hr2⟩ := xok_1 hr1
  refine lv_lor hx hb hd ?_
  have k := h2.go hn (hr.st (xok_cons (xok_l (xw_toJ _)) hr2))
  rw [List.map_cons, show xv (ad, z) (1, xorL x y) = .long (Int64.ofInt x ||| Int64.ofInt y) from congrArg Value.long (Int64.ofInt_toInt _)] at k
  exact k
theorem xs_lshl (hx : p.tables.exec = Jvm.exec) (hb : c.code = cc) {pc n : Nat} {L : XL} {S : List XV} {K : XW} {H : XH} (hpc : xrp pc = pc) (hd : decode cc pc = .ok (.lshl, 1)) (hn : xrp n = pc + 1) (h : xres C (XPP p l e R s m args below meth c Z nL N0 D dA z A) Q (xb2 1 0 S fun x y r => xgo (n, L, (1, xshlL x y) :: r, K, H))) : XPP p l e R s m args below meth c Z nL N0 D dA z A (pc, L, S, K, H) := by
  obtain ⟨x, y, r, rfl, h2⟩ := xb2_inv h
  refine XPP.inn hpc fun ad ls Hp locs cells slots hr => ?_
  obtain ⟨hy, hr1⟩ := xok_1 hr.2.2.1
  obtain ⟨hx0, hr2⟩ := xok_1 hr1
  refine lv_lshl hx hb hd rfl ?_
  have k := h2.go hn (hr.st (xok_cons (xok_l (xw_toJ _)) hr2))
  rw [List.map_cons, show xv (ad, z) (1, xshlL x y) = .long (Int64.ofInt x <<< ((Int32.ofInt y).toInt64 &&& 63)) from congrArg Value.long (Int64.ofInt_toInt _)] at k
  exact k
theorem xs_lushr (hx : p.tables.exec = Jvm.exec) (hb : c.code = cc) {pc n : Nat} {L : XL} {S : List XV} {K : XW} {H : XH} (hpc : xrp pc = pc) (hd : decode cc pc = .ok (.lushr, 1)) (hn : xrp n = pc + 1) (h : xres C (XPP p l e R s m args below meth c Z nL N0 D dA z A) Q (xb2 1 0 S fun x y r => xgo (n, L, (1, xushL x y) :: r, K, H))) : XPP p l e R s m args below meth c Z nL N0 D dA z A (pc, L, S, K, H) := by
  obtain ⟨x, y, r, rfl, h2⟩ := xb2_inv h
  refine XPP.inn hpc fun ad ls Hp locs cells slots hr => ?_
  obtain ⟨hy, hr1⟩ := xok_1 hr.2.2.1
  obtain ⟨hx0, hr2⟩ := xok_1 hr1
  refine lv_lushr hx hb hd rfl ?_
  have k := h2.go hn (hr.st (xok_cons (xok_l (xw_toJ _)) hr2))
  rw [List.map_cons, show xv (ad, z) (1, xushL x y) = .long (((Int64.ofInt x).toUInt64 >>> ((Int32.ofInt y).toInt64.toUInt64 &&& Int64.toUInt64 63)).toInt64) from congrArg Value.long (Int64.ofInt_toInt _)] at k
  exact k
theorem xs_lcmp (hx : p.tables.exec = Jvm.exec) (hb : c.code = cc) {pc n : Nat} {L : XL} {S : List XV} {K : XW} {H : XH} (hpc : xrp pc = pc) (hd : decode cc pc = .ok (.lcmp, 1)) (hn : xrp n = pc + 1) (h : xres C (XPP p l e R s m args below meth c Z nL N0 D dA z A) Q (xb2 1 1 S fun x y r => xgo (n, L, (0, xcmp x y) :: r, K, H))) : XPP p l e R s m args below meth c Z nL N0 D dA z A (pc, L, S, K, H) := by
  obtain ⟨x, y, r, rfl, h2⟩ := xb2_inv h
  refine XPP.inn hpc fun ad ls Hp locs cells slots hr => ?_
  obtain ⟨hy, hr1⟩ := xok_1 hr.2.2.1
  obtain ⟨hx0, hr2⟩ := xok_1 hr1
  refine W.lcmp hx hb hd ?_
  rw [show lg_cmp _ _ = _ from xw_cmp (hx0.2.1 rfl) (hy.2.1 rfl)]
  exact h2.go hn (hr.st (xok_cons (xok_i (xw_cmpI _ _)) hr2))
theorem xs_ineg (hx : p.tables.exec = Jvm.exec) (hb : c.code = cc) {pc n : Nat} {L : XL} {S : List XV} {K : XW} {H : XH} (hpc : xrp pc = pc) (hd : decode cc pc = .ok (.ineg, 1)) (hn : xrp n = pc + 1) (h : xres C (XPP p l e R s m args below meth c Z nL N0 D dA z A) Q (xu1 0 S fun x r => xck (xI (-x)) (n, L, (0, -x) :: r, K, H))) : XPP p l e R s m args below meth c Z nL N0 D dA z A (pc, L, S, K, H) := by
  obtain ⟨x, r, rfl, h1, h2⟩ := xu1_inv h
  refine XPP.inn hpc fun ad ls Hp locs cells slots hr => ?_
  obtain ⟨hx0, hr2⟩ := xok_1 hr.2.2.1
  refine lv_ineg hx hb hd ?_
  rw [← Int32.ofInt_neg]
  exact h2.go hn (hr.st (xok_cons (xok_i h1) hr2))
theorem xs_lneg (hx : p.tables.exec = Jvm.exec) (hb : c.code = cc) {pc n : Nat} {L : XL} {S : List XV} {K : XW} {H : XH} (hpc : xrp pc = pc) (hd : decode cc pc = .ok (.lneg, 1)) (hn : xrp n = pc + 1) (h : xres C (XPP p l e R s m args below meth c Z nL N0 D dA z A) Q (xu1 1 S fun x r => xck (xJ (-x)) (n, L, (1, -x) :: r, K, H))) : XPP p l e R s m args below meth c Z nL N0 D dA z A (pc, L, S, K, H) := by
  obtain ⟨x, r, rfl, h1, h2⟩ := xu1_inv h
  refine XPP.inn hpc fun ad ls Hp locs cells slots hr => ?_
  obtain ⟨hx0, hr2⟩ := xok_1 hr.2.2.1
  refine lv_lneg hx hb hd ?_
  rw [← Int64.ofInt_neg]
  exact h2.go hn (hr.st (xok_cons (xok_l h1) hr2))
theorem xs_i2l (hx : p.tables.exec = Jvm.exec) (hb : c.code = cc) {pc n : Nat} {L : XL} {S : List XV} {K : XW} {H : XH} (hpc : xrp pc = pc) (hd : decode cc pc = .ok (.i2l, 1)) (hn : xrp n = pc + 1) (h : xres C (XPP p l e R s m args below meth c Z nL N0 D dA z A) Q (xu1 0 S fun x r => xgo (n, L, (1, x) :: r, K, H))) : XPP p l e R s m args below meth c Z nL N0 D dA z A (pc, L, S, K, H) := by
  obtain ⟨x, r, rfl, h2⟩ := xu1_inv h
  refine XPP.inn hpc fun ad ls Hp locs cells slots hr => ?_
  obtain ⟨hx0, hr2⟩ := xok_1 hr.2.2.1
  refine lv_i2l hx hb hd (xw_i2l (hx0.1 rfl)) ?_
  exact h2.go hn (hr.st (xok_cons (xok_l (by have := hx0.1 rfl; unfold xI at this; unfold xJ; dsimp only at this; omega)) hr2))
theorem xs_l2i (hx : p.tables.exec = Jvm.exec) (hb : c.code = cc) {pc n : Nat} {L : XL} {S : List XV} {K : XW} {H : XH} (hpc : xrp pc = pc) (hd : decode cc pc = .ok (.l2i, 1)) (hn : xrp n = pc + 1) (h : xres C (XPP p l e R s m args below meth c Z nL N0 D dA z A) Q (xu1 1 S fun x r => xgo (n, L, (0, xl2i x) :: r, K, H))) : XPP p l e R s m args below meth c Z nL N0 D dA z A (pc, L, S, K, H) := by
  obtain ⟨x, r, rfl, h2⟩ := xu1_inv h
  refine XPP.inn hpc fun ad ls Hp locs cells slots hr => ?_
  obtain ⟨hx0, hr2⟩ := xok_1 hr.2.2.1
  refine lv_l2i hx hb hd rfl ?_
  have k := h2.go hn (hr.st (xok_cons (xok_i (xw_toI _)) hr2))
  rw [List.map_cons, show xv (ad, z) (0, xl2i x) = .int ((Int64.ofInt x).toInt32) from congrArg Value.int (Int32.ofInt_toInt _)] at k
  exact k
theorem xs_i2b (hx : p.tables.exec = Jvm.exec) (hb : c.code = cc) {pc n : Nat} {L : XL} {S : List XV} {K : XW} {H : XH} (hpc : xrp pc = pc) (hd : decode cc pc = .ok (.i2b, 1)) (hn : xrp n = pc + 1) (h : xres C (XPP p l e R s m args below meth c Z nL N0 D dA z A) Q (xu1 0 S fun x r => xgo (n, L, (0, xi2b x) :: r, K, H))) : XPP p l e R s m args below meth c Z nL N0 D dA z A (pc, L, S, K, H) := by
  obtain ⟨x, r, rfl, h2⟩ := xu1_inv h
  refine XPP.inn hpc fun ad ls Hp locs cells slots hr => ?_
  obtain ⟨hx0, hr2⟩ := xok_1 hr.2.2.1
  refine lv_i2b hx hb hd rfl ?_
  have k := h2.go hn (hr.st (xok_cons (xok_i (xw_toI _)) hr2))
  rw [List.map_cons, show xv (ad, z) (0, xi2b x) = .int ((Int32.ofInt x).toInt8.toInt32) from congrArg Value.int (Int32.ofInt_toInt _)] at k
  exact k
theorem xs_i2c (hx : p.tables.exec = Jvm.exec) (hb : c.code = cc) {pc n : Nat} {L : XL} {S : List XV} {K : XW} {H : XH} (hpc : xrp pc = pc) (hd : decode cc pc = .ok (.i2c, 1)) (hn : xrp n = pc + 1) (h : xres C (XPP p l e R s m args below meth c Z nL N0 D dA z A) Q (xu1 0 S fun x r => xgo (n, L, (0, xi2c x) :: r, K, H))) : XPP p l e R s m args below meth c Z nL N0 D dA z A (pc, L, S, K, H) := by
  obtain ⟨x, r, rfl, h2⟩ := xu1_inv h
  refine XPP.inn hpc fun ad ls Hp locs cells slots hr => ?_
  obtain ⟨hx0, hr2⟩ := xok_1 hr.2.2.1
  refine lv_i2c hx hb hd rfl ?_
  have k := h2.go hn (hr.st (xok_cons (xok_i (xw_toI _)) hr2))
  rw [List.map_cons, show xv (ad, z) (0, xi2c x) = .int (((Int32.ofInt x).toUInt32 % 65536).toInt32) from congrArg Value.int (Int32.ofInt_toInt _)] at k
  exact k
theorem xs_iconst (hx : p.tables.exec = Jvm.exec) (hb : c.code = cc) {pc n : Nat} {L : XL} {S : List XV} {K : XW} {H : XH} (hpc : xrp pc = pc) {k : Int} (hd : decode cc pc = .ok (.iconst k, 1)) (hn : xrp n = pc + 1) (hk : xI k) (h : xres C (XPP p l e R s m args below meth c Z nL N0 D dA z A) Q (xgo (n, L, (0, k) :: S, K, H))) : XPP p l e R s m args below meth c Z nL N0 D dA z A (pc, L, S, K, H) := by
  refine XPP.inn hpc fun ad ls Hp locs cells slots hr => ?_
  refine lv_iconst hx hb hd rfl ?_
  exact XPP.go h hn (hr.st (xok_cons (xok_i hk) hr.2.2.1))
theorem xs_bipush (hx : p.tables.exec = Jvm.exec) (hb : c.code = cc) {pc n : Nat} {L : XL} {S : List XV} {K : XW} {H : XH} (hpc : xrp pc = pc) {k : Int} (hd : decode cc pc = .ok (.bipush k, 2)) (hn : xrp n = pc + 2) (hk : xI k) (hk2 : (Int8.ofInt k).toInt32 = Int32.ofInt k) (h : xres C (XPP p l e R s m args below meth c Z nL N0 D dA z A) Q (xgo (n, L, (0, k) :: S, K, H))) : XPP p l e R s m args below meth c Z nL N0 D dA z A (pc, L, S, K, H) := by
  refine XPP.inn hpc fun ad ls Hp locs cells slots hr => ?_
  refine lv_bipush hx hb hd hk2 ?_
  exact XPP.go h hn (hr.st (xok_cons (xok_i hk) hr.2.2.1))
theorem xs_sipush (hx : p.tables.exec = Jvm.exec) (hb : c.code = cc) {pc n : Nat} {L : XL} {S : List XV} {K : XW} {H : XH} (hpc : xrp pc = pc) {k : Int} (hd : decode cc pc = .ok (.sipush k, 3)) (hn : xrp n = pc + 3) (hk : xI k) (hk2 : (Int16.ofInt k).toInt32 = Int32.ofInt k) (h : xres C (XPP p l e R s m args below meth c Z nL N0 D dA z A) Q (xgo (n, L, (0, k) :: S, K, H))) : XPP p l e R s m args below meth c Z nL N0 D dA z A (pc, L, S, K, H) := by
  refine XPP.inn hpc fun ad ls Hp locs cells slots hr => ?_
  refine lv_sipush hx hb hd hk2 ?_
  exact XPP.go h hn (hr.st (xok_cons (xok_i hk) hr.2.2.1))
theorem xs_lconst (hx : p.tables.exec = Jvm.exec) (hb : c.code = cc) {pc n : Nat} {L : XL} {S : List XV} {K : XW} {H : XH} (hpc : xrp pc = pc) {k : Fin 2} (hd : decode cc pc = .ok (.lconst k, 1)) (hn : xrp n = pc + 1) (h : xres C (XPP p l e R s m args below meth c Z nL N0 D dA z A) Q (xgo (n, L, (1, ((k : Nat) : Int)) :: S, K, H))) : XPP p l e R s m args below meth c Z nL N0 D dA z A (pc, L, S, K, H) := by
  refine XPP.inn hpc fun ad ls Hp locs cells slots hr => ?_
  refine lv_lconst hx hb hd (v := Int64.ofInt ((k : Nat) : Int)) Int64.ofInt_eq_ofNat.symm ?_
  exact XPP.go h hn (hr.st (xok_cons (xok_l (by unfold xJ; omega)) hr.2.2.1))
theorem xs_null (hx : p.tables.exec = Jvm.exec) (hb : c.code = cc) {pc n : Nat} {L : XL} {S : List XV} {K : XW} {H : XH} (hpc : xrp pc = pc) (hd : decode cc pc = .ok (.aconst_null, 1)) (hn : xrp n = pc + 1) (h : xres C (XPP p l e R s m args below meth c Z nL N0 D dA z A) Q (xgo (n, L, (2, -1) :: S, K, H))) : XPP p l e R s m args below meth c Z nL N0 D dA z A (pc, L, S, K, H) := by
  refine XPP.inn hpc fun ad ls Hp locs cells slots hr => ?_
  refine lv_null hx hb hd ?_
  exact XPP.go h hn (hr.st (xok_cons (xok_r (by omega)) hr.2.2.1))
theorem xs_iload (hx : p.tables.exec = Jvm.exec) (hb : c.code = cc) {pc n : Nat} {L : XL} {S : List XV} {K : XW} {H : XH} (hpc : xrp pc = pc) {k : Nat} (hd : decode cc pc = .ok (.iload k, 2)) (hn : xrp n = pc + 2) (h : xres C (XPP p l e R s m args below meth c Z nL N0 D dA z A) Q (xld 0 0 k n L S K H)) : XPP p l e R s m args below meth c Z nL N0 D dA z A (pc, L, S, K, H) := by
  obtain ⟨hb1, h2⟩ := xbif_inv h
  obtain ⟨q1, q2⟩ := Bool.and_eq_true_iff.mp hb1
  have et : (xget L k).1 = 0 := Nat.le_antisymm (Nat.le_of_ble_eq_true q2) (Nat.le_of_ble_eq_true q1)
  refine XPP.inn hpc fun ad ls Hp locs cells slots hr => ?_
  have ha := xls_at hr.1 (k := k) (by omega)
  have ev : xv (ad, z) (xget L k) = .int (Int32.ofInt (xget L k).2) := by
    generalize xget L k = v at et
    obtain ⟨t, x⟩ := v
    cases et
    rfl
  rw [ev] at ha
  refine lv_iload hx hb hd ha ?_
  have k2 := XPP.go h2 hn (hr.st (xok_cons (hr.2.1 _ (xget_mem (by omega))) hr.2.2.1))
  rw [List.map_cons, ev] at k2
  exact k2
theorem xs_iload_n (hx : p.tables.exec = Jvm.exec) (hb : c.code = cc) {pc n : Nat} {L : XL} {S : List XV} {K : XW} {H : XH} (hpc : xrp pc = pc) {k : Fin 4} (hd : decode cc pc = .ok (.iload_n k, 1)) (hn : xrp n = pc + 1) (h : xres C (XPP p l e R s m args below meth c Z nL N0 D dA z A) Q (xld 0 0 k n L S K H)) : XPP p l e R s m args below meth c Z nL N0 D dA z A (pc, L, S, K, H) := by
  obtain ⟨hb1, h2⟩ := xbif_inv h
  obtain ⟨q1, q2⟩ := Bool.and_eq_true_iff.mp hb1
  have et : (xget L k).1 = 0 := Nat.le_antisymm (Nat.le_of_ble_eq_true q2) (Nat.le_of_ble_eq_true q1)
  refine XPP.inn hpc fun ad ls Hp locs cells slots hr => ?_
  have ha := xls_at hr.1 (k := k) (by omega)
  have ev : xv (ad, z) (xget L k) = .int (Int32.ofInt (xget L k).2) := by
    generalize xget L k = v at et
    obtain ⟨t, x⟩ := v
    cases et
    rfl
  rw [ev] at ha
  refine lv_iload_n hx hb hd rfl ha ?_
  have k2 := XPP.go h2 hn (hr.st (xok_cons (hr.2.1 _ (xget_mem (by omega))) hr.2.2.1))
  rw [List.map_cons, ev] at k2
  exact k2
theorem xs_lload (hx : p.tables.exec = Jvm.exec) (hb : c.code = cc) {pc n : Nat} {L : XL} {S : List XV} {K : XW} {H : XH} (hpc : xrp pc = pc) {k : Nat} (hd : decode cc pc = .ok (.lload k, 2)) (hn : xrp n = pc + 2) (h : xres C (XPP p l e R s m args below meth c Z nL N0 D dA z A) Q (xld 1 1 k n L S K H)) : XPP p l e R s m args below meth c Z nL N0 D dA z A (pc, L, S, K, H) := by
  obtain ⟨hb1, h2⟩ := xbif_inv h
  obtain ⟨q1, q2⟩ := Bool.and_eq_true_iff.mp hb1
  have et : (xget L k).1 = 1 := Nat.le_antisymm (Nat.le_of_ble_eq_true q2) (Nat.le_of_ble_eq_true q1)
  refine XPP.inn hpc fun ad ls Hp locs cells slots hr => ?_
  have ha := xls_at hr.1 (k := k) (by omega)
  have ev : xv (ad, z) (xget L k) = .long (Int64.ofInt (xget L k).2) := by
    generalize xget L k = v at et
    obtain ⟨t, x⟩ := v
    cases et
    rfl
  rw [ev] at ha
  refine lv_lload hx hb hd ha ?_
  have k2 := XPP.go h2 hn (hr.st (xok_cons (hr.2.1 _ (xget_mem (by omega))) hr.2.2.1))
  rw [List.map_cons, ev] at k2
  exact k2
theorem xs_lload_n (hx : p.tables.exec = Jvm.exec) (hb : c.code = cc) {pc n : Nat} {L : XL} {S : List XV} {K : XW} {H : XH} (hpc : xrp pc = pc) {k : Fin 4} (hd : decode cc pc = .ok (.lload_n k, 1)) (hn : xrp n = pc + 1) (h : xres C (XPP p l e R s m args below meth c Z nL N0 D dA z A) Q (xld 1 1 k n L S K H)) : XPP p l e R s m args below meth c Z nL N0 D dA z A (pc, L, S, K, H) := by
  obtain ⟨hb1, h2⟩ := xbif_inv h
  obtain ⟨q1, q2⟩ := Bool.and_eq_true_iff.mp hb1
  have et : (xget L k).1 = 1 := Nat.le_antisymm (Nat.le_of_ble_eq_true q2) (Nat.le_of_ble_eq_true q1)
  refine XPP.inn hpc fun ad ls Hp locs cells slots hr => ?_
  have ha := xls_at hr.1 (k := k) (by omega)
  have ev : xv (ad, z) (xget L k) = .long (Int64.ofInt (xget L k).2) := by
    generalize xget L k = v at et
    obtain ⟨t, x⟩ := v
    cases et
    rfl
  rw [ev] at ha
  refine lv_lload_n hx hb hd rfl ha ?_
  have k2 := XPP.go h2 hn (hr.st (xok_cons (hr.2.1 _ (xget_mem (by omega))) hr.2.2.1))
  rw [List.map_cons, ev] at k2
  exact k2
theorem xs_aload (hx : p.tables.exec = Jvm.exec) (hb : c.code = cc) {pc n : Nat} {L : XL} {S : List XV} {K : XW} {H : XH} (hpc : xrp pc = pc) (hz : ∃ q, z.2.2.2 = .null ∨ z.2.2.2 = .ref q) {k : Nat} (hd : decode cc pc = .ok (.aload k, 2)) (hn : xrp n = pc + 2) (h : xres C (XPP p l e R s m args below meth c Z nL N0 D dA z A) Q (xld 2 8 k n L S K H)) : XPP p l e R s m args below meth c Z nL N0 D dA z A (pc, L, S, K, H) := by
  obtain ⟨hb1, h2⟩ := xbif_inv h
  obtain ⟨q1, q2⟩ := Bool.and_eq_true_iff.mp hb1
  have e1 := Nat.le_of_ble_eq_true q1
  have e2 := Nat.le_of_ble_eq_true q2
  refine XPP.inn hpc fun ad ls Hp locs cells slots hr => ?_
  have ha := xls_at hr.1 (k := k) e2
  have k2 := XPP.go h2 hn (hr.st (xok_cons (hr.2.1 _ (xget_mem e2)) hr.2.2.1))
  rw [List.map_cons] at k2
  have ev : xv (ad, z) (xget L k) = .null ∨ ∃ q, xv (ad, z) (xget L k) = .ref q := by
    generalize xget L k = v at e1
    obtain ⟨t, x⟩ := v
    match t, e1 with
    | 2, _ => cases x with
      | ofNat q => exact Or.inr ⟨_, rfl⟩
      | negSucc q => exact Or.inl rfl
    | 3, _ => exact Or.inr ⟨_, rfl⟩
    | 4, _ => exact Or.inr ⟨_, rfl⟩
    | 5, _ => exact Or.inr ⟨_, rfl⟩
    | t + 6, _ =>
      obtain ⟨q, hq⟩ := hz
      rcases hq with hq | hq
      · exact Or.inl hq
      · exact Or.inr ⟨q, hq⟩
  rcases ev with ev | ⟨q, ev⟩
  · rw [ev] at ha k2
    exact lv_aloadN hx hb hd ha k2
  · rw [ev] at ha k2
    exact lv_aload hx hb hd ha k2
theorem xs_aload_n (hx : p.tables.exec = Jvm.exec) (hb : c.code = cc) {pc n : Nat} {L : XL} {S : List XV} {K : XW} {H : XH} (hpc : xrp pc = pc) (hz : ∃ q, z.2.2.2 = .null ∨ z.2.2.2 = .ref q) {k : Fin 4} (hd : decode cc pc = .ok (.aload_n k, 1)) (hn : xrp n = pc + 1) (h : xres C (XPP p l e R s m args below meth c Z nL N0 D dA z A) Q (xld 2 8 k n L S K H)) : XPP p l e R s m args below meth c Z nL N0 D dA z A (pc, L, S, K, H) := by
  obtain ⟨hb1, h2⟩ := xbif_inv h
  obtain ⟨q1, q2⟩ := Bool.and_eq_true_iff.mp hb1
  have e1 := Nat.le_of_ble_eq_true q1
  have e2 := Nat.le_of_ble_eq_true q2
  refine XPP.inn hpc fun ad ls Hp locs cells slots hr => ?_
  have ha := xls_at hr.1 (k := k) e2
  have k2 := XPP.go h2 hn (hr.st (xok_cons (hr.2.1 _ (xget_mem e2)) hr.2.2.1))
  rw [List.map_cons] at k2
  have ev : xv (ad, z) (xget L k) = .null ∨ ∃ q, xv (ad, z) (xget L k) = .ref q := by
    generalize xget L k = v at e1
    obtain ⟨t, x⟩ := v
    match t, e1 with
    | 2, _ => cases x with
      | ofNat q => exact Or.inr ⟨_, rfl⟩
      | negSucc q => exact Or.inl rfl
    | 3, _ => exact Or.inr ⟨_, rfl⟩
    | 4, _ => exact Or.inr ⟨_, rfl⟩
    | 5, _ => exact Or.inr ⟨_, rfl⟩
    | t + 6, _ =>
      obtain ⟨q, hq⟩ := hz
      rcases hq with hq | hq
      · exact Or.inl hq
      · exact Or.inr ⟨q, hq⟩
  rcases ev with ev | ⟨q, ev⟩
  · rw [ev] at ha k2
    exact lv_aload_nN hx hb hd rfl ha k2
  · rw [ev] at ha k2
    exact lv_aload_n hx hb hd rfl ha k2
theorem xs_istore (hx : p.tables.exec = Jvm.exec) (hb : c.code = cc) {pc n : Nat} {L : XL} {S : List XV} {K : XW} {H : XH} (hpc : xrp pc = pc) (hz : z.2.2.2.category = 1) {k : Nat} (hk : (k : Nat) < nL) (hd : decode cc pc = .ok (.istore k, 2)) (hn : xrp n = pc + 2) (h : xres C (XPP p l e R s m args below meth c Z nL N0 D dA z A) Q (xst1 0 0 k n L S K H)) : XPP p l e R s m args below meth c Z nL N0 D dA z A (pc, L, S, K, H) := by
  match S, h with
  | [], h => exact h.elim
  | v :: r, h =>
  obtain ⟨hb1, h2⟩ := xbif_inv h
  obtain ⟨q1, q2⟩ := Bool.and_eq_true_iff.mp hb1
  have et : v.1 = 0 := Nat.le_antisymm (Nat.le_of_ble_eq_true q2) (Nat.le_of_ble_eq_true q1)
  refine XPP.inn hpc fun ad ls Hp locs cells slots hr => ?_
  obtain ⟨hv, hr2⟩ := xok_1 hr.2.2.1
  have hq : ∀ q ∈ xset1 L k v, xokv K.1.length q.2 := fun q hq => by
    rcases List.mem_cons.mp hq with e | e
    · rw [e]; exact hv
    · exact hr.2.1 q (List.mem_filter.mp e).1
  obtain ⟨t, x⟩ := v
  cases et
  refine lv_istore hx hb hd hr.1 hk (xset1_ls hz L k (0, x)) fun ls' hl => ?_
  exact XPP.go h2 hn ⟨hl, hq, hr2, hr.2.2.2⟩
theorem xs_istore_n (hx : p.tables.exec = Jvm.exec) (hb : c.code = cc) {pc n : Nat} {L : XL} {S : List XV} {K : XW} {H : XH} (hpc : xrp pc = pc) (hz : z.2.2.2.category = 1) {k : Fin 4} (hk : (k : Nat) < nL) (hd : decode cc pc = .ok (.istore_n k, 1)) (hn : xrp n = pc + 1) (h : xres C (XPP p l e R s m args below meth c Z nL N0 D dA z A) Q (xst1 0 0 k n L S K H)) : XPP p l e R s m args below meth c Z nL N0 D dA z A (pc, L, S, K, H) := by
  match S, h with
  | [], h => exact h.elim
  | v :: r, h =>
  obtain ⟨hb1, h2⟩ := xbif_inv h
  obtain ⟨q1, q2⟩ := Bool.and_eq_true_iff.mp hb1
  have et : v.1 = 0 := Nat.le_antisymm (Nat.le_of_ble_eq_true q2) (Nat.le_of_ble_eq_true q1)
  refine XPP.inn hpc fun ad ls Hp locs cells slots hr => ?_
  obtain ⟨hv, hr2⟩ := xok_1 hr.2.2.1
  have hq : ∀ q ∈ xset1 L k v, xokv K.1.length q.2 := fun q hq => by
    rcases List.mem_cons.mp hq with e | e
    · rw [e]; exact hv
    · exact hr.2.1 q (List.mem_filter.mp e).1
  obtain ⟨t, x⟩ := v
  cases et
  refine lv_istore_n hx hb hd rfl hr.1 hk (xset1_ls hz L k (0, x)) fun ls' hl => ?_
  exact XPP.go h2 hn ⟨hl, hq, hr2, hr.2.2.2⟩
theorem xs_astore (hx : p.tables.exec = Jvm.exec) (hb : c.code = cc) {pc n : Nat} {L : XL} {S : List XV} {K : XW} {H : XH} (hpc : xrp pc = pc) (hz : z.2.2.2.category = 1) {k : Nat} (hk : (k : Nat) < nL) (hd : decode cc pc = .ok (.astore k, 2)) (hn : xrp n = pc + 2) (h : xres C (XPP p l e R s m args below meth c Z nL N0 D dA z A) Q (xst1 2 2 k n L S K H)) : XPP p l e R s m args below meth c Z nL N0 D dA z A (pc, L, S, K, H) := by
  match S, h with
  | [], h => exact h.elim
  | v :: r, h =>
  obtain ⟨hb1, h2⟩ := xbif_inv h
  obtain ⟨q1, q2⟩ := Bool.and_eq_true_iff.mp hb1
  have et : v.1 = 2 := Nat.le_antisymm (Nat.le_of_ble_eq_true q2) (Nat.le_of_ble_eq_true q1)
  refine XPP.inn hpc fun ad ls Hp locs cells slots hr => ?_
  obtain ⟨hv, hr2⟩ := xok_1 hr.2.2.1
  have hq : ∀ q ∈ xset1 L k v, xokv K.1.length q.2 := fun q hq => by
    rcases List.mem_cons.mp hq with e | e
    · rw [e]; exact hv
    · exact hr.2.1 q (List.mem_filter.mp e).1
  obtain ⟨t, x⟩ := v
  cases et
  cases x with
  | ofNat x =>
    refine lv_astore hx hb hd hr.1 hk (xset1_ls hz L k (2, Int.ofNat x)) fun ls' hl => ?_
    exact XPP.go h2 hn ⟨hl, hq, hr2, hr.2.2.2⟩
  | negSucc x =>
    refine lv_astoreN hx hb hd hr.1 hk (xset1_ls hz L k (2, Int.negSucc x)) fun ls' hl => ?_
    exact XPP.go h2 hn ⟨hl, hq, hr2, hr.2.2.2⟩
theorem xs_astore_n (hx : p.tables.exec = Jvm.exec) (hb : c.code = cc) {pc n : Nat} {L : XL} {S : List XV} {K : XW} {H : XH} (hpc : xrp pc = pc) (hz : z.2.2.2.category = 1) {k : Fin 4} (hk : (k : Nat) < nL) (hd : decode cc pc = .ok (.astore_n k, 1)) (hn : xrp n = pc + 1) (h : xres C (XPP p l e R s m args below meth c Z nL N0 D dA z A) Q (xst1 2 2 k n L S K H)) : XPP p l e R s m args below meth c Z nL N0 D dA z A (pc, L, S, K, H) := by
  match S, h with
  | [], h => exact h.elim
  | v :: r, h =>
  obtain ⟨hb1, h2⟩ := xbif_inv h
  obtain ⟨q1, q2⟩ := Bool.and_eq_true_iff.mp hb1
  have et : v.1 = 2 := Nat.le_antisymm (Nat.le_of_ble_eq_true q2) (Nat.le_of_ble_eq_true q1)
  refine XPP.inn hpc fun ad ls Hp locs cells slots hr => ?_
  obtain ⟨hv, hr2⟩ := xok_1 hr.2.2.1
  have hq : ∀ q ∈ xset1 L k v, xokv K.1.length q.2 := fun q hq => by
    rcases List.mem_cons.mp hq with e | e
    · rw [e]; exact hv
    · exact hr.2.1 q (List.mem_filter.mp e).1
  obtain ⟨t, x⟩ := v
  cases et
  cases x with
  | ofNat x =>
    refine lv_astore_n hx hb hd rfl hr.1 hk (xset1_ls hz L k (2, Int.ofNat x)) fun ls' hl => ?_
    exact XPP.go h2 hn ⟨hl, hq, hr2, hr.2.2.2⟩
  | negSucc x =>
    refine lv_astore_nN hx hb hd rfl hr.1 hk (xset1_ls hz L k (2, Int.negSucc x)) fun ls' hl => ?_
    exact XPP.go h2 hn ⟨hl, hq, hr2, hr.2.2.2⟩
theorem xs_lstore (hx : p.tables.exec = Jvm.exec) (hb : c.code = cc) {pc n : Nat} {L : XL} {S : List XV} {K : XW} {H : XH} (hpc : xrp pc = pc) (hz : z.2.2.2.category = 1) {k : Nat} (hk : (k : Nat) + 1 < nL) (hd : decode cc pc = .ok (.lstore k, 2)) (hn : xrp n = pc + 2) (h : xres C (XPP p l e R s m args below meth c Z nL N0 D dA z A) Q (xst2 k n L S K H)) : XPP p l e R s m args below meth c Z nL N0 D dA z A (pc, L, S, K, H) := by
  match S, h with
  | [], h => exact h.elim
  | v :: r, h =>
  obtain ⟨hb1, h2⟩ := xbif_inv h
  have et : v.1 = 1 := Nat.eq_of_beq_eq_true hb1
  refine XPP.inn hpc fun ad ls Hp locs cells slots hr => ?_
  obtain ⟨hv, hr2⟩ := xok_1 hr.2.2.1
  have hq : ∀ q ∈ xset2 L k v, xokv K.1.length q.2 := fun q hq => by
    rcases List.mem_cons.mp hq with e | e
    · rw [e]; exact hv
    · exact hr.2.1 q (List.mem_filter.mp e).1
  obtain ⟨t, x⟩ := v
  cases et
  refine lv_lstore hx hb hd hr.1 hk (xset2_ls hz L k (1, x)) fun ls' hl => ?_
  exact XPP.go h2 hn ⟨hl, hq, hr2, hr.2.2.2⟩
theorem xs_lstore_n (hx : p.tables.exec = Jvm.exec) (hb : c.code = cc) {pc n : Nat} {L : XL} {S : List XV} {K : XW} {H : XH} (hpc : xrp pc = pc) (hz : z.2.2.2.category = 1) {k : Fin 4} (hk : (k : Nat) + 1 < nL) (hd : decode cc pc = .ok (.lstore_n k, 1)) (hn : xrp n = pc + 1) (h : xres C (XPP p l e R s m args below meth c Z nL N0 D dA z A) Q (xst2 k n L S K H)) : XPP p l e R s m args below meth c Z nL N0 D dA z A (pc, L, S, K, H) := by
  match S, h with
  | [], h => exact h.elim
  | v :: r, h =>
  obtain ⟨hb1, h2⟩ := xbif_inv h
  have et : v.1 = 1 := Nat.eq_of_beq_eq_true hb1
  refine XPP.inn hpc fun ad ls Hp locs cells slots hr => ?_
  obtain ⟨hv, hr2⟩ := xok_1 hr.2.2.1
  have hq : ∀ q ∈ xset2 L k v, xokv K.1.length q.2 := fun q hq => by
    rcases List.mem_cons.mp hq with e | e
    · rw [e]; exact hv
    · exact hr.2.1 q (List.mem_filter.mp e).1
  obtain ⟨t, x⟩ := v
  cases et
  refine lv_lstore_n hx hb hd rfl hr.1 hk (xset2_ls hz L k (1, x)) fun ls' hl => ?_
  exact XPP.go h2 hn ⟨hl, hq, hr2, hr.2.2.2⟩
theorem xs_iinc (hx : p.tables.exec = Jvm.exec) (hb : c.code = cc) {pc n : Nat} {L : XL} {S : List XV} {K : XW} {H : XH} (hpc : xrp pc = pc) (hz : z.2.2.2.category = 1) {k : Nat} {a : Int} (hk : k < nL) (hd : decode cc pc = .ok (.iinc k a, 3)) (hn : xrp n = pc + 3) (h : xres C (XPP p l e R s m args below meth c Z nL N0 D dA z A) Q (xiinc k n a L S K H)) : XPP p l e R s m args below meth c Z nL N0 D dA z A (pc, L, S, K, H) := by
  obtain ⟨hb1, h1, h2⟩ := xbif_inv h
  have et : (xget L k).1 = 0 := Nat.eq_of_beq_eq_true hb1
  refine XPP.inn hpc fun ad ls Hp locs cells slots hr => ?_
  have hm := xget_mem (L := L) (k := k) (by omega)
  have hq : ∀ q ∈ xset1 L k (0, (xget L k).2 + a), xokv K.1.length q.2 := fun q hq => by
    rcases List.mem_cons.mp hq with e | e
    · rw [e]; exact xok_i h1
    · exact hr.2.1 q (List.mem_filter.mp e).1
  obtain ⟨j, hj⟩ := List.getElem?_of_mem hm
  have hj2 : (xls (ad, z) L)[j]? = some (k, .int (Int32.ofInt (xget L k).2)) := by
    rw [List.getElem?_map, hj]
    generalize xget L k = v at et
    obtain ⟨t, x⟩ := v
    cases et
    rfl
  refine lv_iinc hx hb hd hr.1 hj2 (v := Int32.ofInt ((xget L k).2 + a)) (Int32.ofInt_add _ _).symm hk (xset1_ls hz L k (0, (xget L k).2 + a)) fun ls' hl => ?_
  exact XPP.go h2 hn ⟨hl, hq, hr.2.2.1, hr.2.2.2⟩
theorem xs_dup (hx : p.tables.exec = Jvm.exec) (hb : c.code = cc) {pc n : Nat} {L : XL} {S : List XV} {K : XW} {H : XH} (hpc : xrp pc = pc) (hz : z.2.2.2.category = 1) (hd : decode cc pc = .ok (.dup, 1)) (hn : xrp n = pc + 1) (h : xres C (XPP p l e R s m args below meth c Z nL N0 D dA z A) Q (xdup n L S K H)) : XPP p l e R s m args below meth c Z nL N0 D dA z A (pc, L, S, K, H) := by
  match S, h with
  | [], h => exact h.elim
  | v :: r, h =>
  unfold xdup at h
  dsimp only at h
  cases hb1 : Nat.beq v.1 1 with
  | true => rw [hb1] at h; exact h.elim
  | false =>
  rw [hb1] at h
  refine XPP.inn hpc fun ad ls Hp locs cells slots hr => ?_
  obtain ⟨hv, hr2⟩ := xok_1 hr.2.2.1
  refine lv_dup hx hb hd (va := xv (ad, z) v) (by rw [xv_cat hz]; unfold xcat; rw [hb1]; rfl) ?_
  exact XPP.go h hn (hr.st (xok_cons hv hr.2.2.1))
theorem xs_dup2 (hx : p.tables.exec = Jvm.exec) (hb : c.code = cc) {pc n : Nat} {L : XL} {S : List XV} {K : XW} {H : XH} (hpc : xrp pc = pc) (hz : z.2.2.2.category = 1) (hd : decode cc pc = .ok (.dup2, 1)) (hn : xrp n = pc + 1) (h : xres C (XPP p l e R s m args below meth c Z nL N0 D dA z A) Q (xdup2 n L S K H)) : XPP p l e R s m args below meth c Z nL N0 D dA z A (pc, L, S, K, H) := by
  match S, h with
  | [], h => exact h.elim
  | [_], h => exact h.elim
  | v :: w :: r, h =>
  unfold xdup2 at h
  dsimp only at h
  cases hb1 : Nat.beq v.1 1 with
  | true => rw [hb1] at h; exact h.elim
  | false =>
  cases hb2 : Nat.beq w.1 1 with
  | true => rw [hb1, hb2] at h; exact h.elim
  | false =>
  rw [hb1, hb2] at h
  refine XPP.inn hpc fun ad ls Hp locs cells slots hr => ?_
  obtain ⟨hv, hr2⟩ := xok_1 hr.2.2.1
  obtain ⟨hw, hr3⟩ := xok_1 hr2
  refine lv_dup2_11 hx hb hd (va := xv (ad, z) v) (vb := xv (ad, z) w) (by rw [xv_cat hz]; unfold xcat; rw [hb1]; rfl) (by rw [xv_cat hz]; unfold xcat; rw [hb2]; rfl) ?_
  exact XPP.go h hn (hr.st (xok_cons hv (xok_cons hw hr.2.2.1)))
theorem xs_pop (hx : p.tables.exec = Jvm.exec) (hb : c.code = cc) {pc n : Nat} {L : XL} {S : List XV} {K : XW} {H : XH} (hpc : xrp pc = pc) (hz : z.2.2.2.category = 1) (hd : decode cc pc = .ok (.pop, 1)) (hn : xrp n = pc + 1) (h : xres C (XPP p l e R s m args below meth c Z nL N0 D dA z A) Q (xpop n L S K H)) : XPP p l e R s m args below meth c Z nL N0 D dA z A (pc, L, S, K, H) := by
  match S, h with
  | [], h => exact h.elim
  | v :: r, h =>
  unfold xpop at h
  dsimp only at h
  cases hb1 : Nat.beq v.1 1 with
  | true => rw [hb1] at h; exact h.elim
  | false =>
  rw [hb1] at h
  refine XPP.inn hpc fun ad ls Hp locs cells slots hr => ?_
  obtain ⟨hv, hr2⟩ := xok_1 hr.2.2.1
  refine lv_pop hx hb hd (va := xv (ad, z) v) (by rw [xv_cat hz]; unfold xcat; rw [hb1]; rfl) ?_
  exact XPP.go h hn (hr.st hr2)
theorem xs_if_eq (hx : p.tables.exec = Jvm.exec) (hb : c.code = cc) {pc n : Nat} {L : XL} {S : List XV} {K : XW} {H : XH} (hpc : xrp pc = pc) {r1 : Nat} {off : Int} (hd : decode cc pc = .ok (.ifCond .eq off, 3)) (hn : xrp n = pc + 3) (ht : (pc : Int) + off = (xrp r1 : Int)) (h : xres C (XPP p l e R s m args below meth c Z nL N0 D dA z A) Q (xu1 0 S fun x r => xbr (xcnd .eq x 0) (r1, L, r, K, H) (n, L, r, K, H))) : XPP p l e R s m args below meth c Z nL N0 D dA z A (pc, L, S, K, H) := by
  obtain ⟨x, r, rfl, h1, h2⟩ := xu1_inv h
  refine XPP.inn hpc fun ad ls Hp locs cells slots hr => ?_
  obtain ⟨hx0, hr2⟩ := xok_1 hr.2.2.1
  have hi := xw_eq (hx0.1 rfl) xw_0
  refine lv_if_eq hx hb hd ht (fun q => ?_) (fun q => ?_)
  · exact XPP.go (h1 (hi.mp q)) rfl (hr.st hr2)
  · exact XPP.go (h2 fun w => q (hi.mpr w)) hn (hr.st hr2)
theorem xs_icmp_eq (hx : p.tables.exec = Jvm.exec) (hb : c.code = cc) {pc n : Nat} {L : XL} {S : List XV} {K : XW} {H : XH} (hpc : xrp pc = pc) {r1 : Nat} {off : Int} (hd : decode cc pc = .ok (.if_icmp .eq off, 3)) (hn : xrp n = pc + 3) (ht : (pc : Int) + off = (xrp r1 : Int)) (h : xres C (XPP p l e R s m args below meth c Z nL N0 D dA z A) Q (xb2 0 0 S fun x y r => xbr (xcnd .eq x y) (r1, L, r, K, H) (n, L, r, K, H))) : XPP p l e R s m args below meth c Z nL N0 D dA z A (pc, L, S, K, H) := by
  obtain ⟨x, y, r, rfl, h1, h2⟩ := xb2_inv h
  refine XPP.inn hpc fun ad ls Hp locs cells slots hr => ?_
  obtain ⟨hy, hr1⟩ := xok_1 hr.2.2.1
  obtain ⟨hx0, hr2⟩ := xok_1 hr1
  have hi := xw_eq (hx0.1 rfl) (hy.1 rfl)
  refine lv_icmp_eq hx hb hd ht (fun q => ?_) (fun q => ?_)
  · exact XPP.go (h1 (hi.mp q)) rfl (hr.st hr2)
  · exact XPP.go (h2 fun w => q (hi.mpr w)) hn (hr.st hr2)
theorem xs_if_ne (hx : p.tables.exec = Jvm.exec) (hb : c.code = cc) {pc n : Nat} {L : XL} {S : List XV} {K : XW} {H : XH} (hpc : xrp pc = pc) {r1 : Nat} {off : Int} (hd : decode cc pc = .ok (.ifCond .ne off, 3)) (hn : xrp n = pc + 3) (ht : (pc : Int) + off = (xrp r1 : Int)) (h : xres C (XPP p l e R s m args below meth c Z nL N0 D dA z A) Q (xu1 0 S fun x r => xbr (xcnd .ne x 0) (r1, L, r, K, H) (n, L, r, K, H))) : XPP p l e R s m args below meth c Z nL N0 D dA z A (pc, L, S, K, H) := by
  obtain ⟨x, r, rfl, h1, h2⟩ := xu1_inv h
  refine XPP.inn hpc fun ad ls Hp locs cells slots hr => ?_
  obtain ⟨hx0, hr2⟩ := xok_1 hr.2.2.1
  have hi := not_congr (xw_eq (hx0.1 rfl) xw_0)
  refine lv_if_ne hx hb hd ht (fun q => ?_) (fun q => ?_)
  · exact XPP.go (h1 (hi.mp q)) rfl (hr.st hr2)
  · exact XPP.go (h2 fun w => hi.mpr w q) hn (hr.st hr2)
theorem xs_icmp_ne (hx : p.tables.exec = Jvm.exec) (hb : c.code = cc) {pc n : Nat} {L : XL} {S : List XV} {K : XW} {H : XH} (hpc : xrp pc = pc) {r1 : Nat} {off : Int} (hd : decode cc pc = .ok (.if_icmp .ne off, 3)) (hn : xrp n = pc + 3) (ht : (pc : Int) + off = (xrp r1 : Int)) (h : xres C (XPP p l e R s m args below meth c Z nL N0 D dA z A) Q (xb2 0 0 S fun x y r => xbr (xcnd .ne x y) (r1, L, r, K, H) (n, L, r, K, H))) : XPP p l e R s m args below meth c Z nL N0 D dA z A (pc, L, S, K, H) := by
  obtain ⟨x, y, r, rfl, h1, h2⟩ := xb2_inv h
  refine XPP.inn hpc fun ad ls Hp locs cells slots hr => ?_
  obtain ⟨hy, hr1⟩ := xok_1 hr.2.2.1
  obtain ⟨hx0, hr2⟩ := xok_1 hr1
  have hi := not_congr (xw_eq (hx0.1 rfl) (hy.1 rfl))
  refine lv_icmp_ne hx hb hd ht (fun q => ?_) (fun q => ?_)
  · exact XPP.go (h1 (hi.mp q)) rfl (hr.st hr2)
  · exact XPP.go (h2 fun w => hi.mpr w q) hn (hr.st hr2)
theorem xs_if_lt (hx : p.tables.exec = Jvm.exec) (hb : c.code = cc) {pc n : Nat} {L : XL} {S : List XV} {K : XW} {H : XH} (hpc : xrp pc = pc) {r1 : Nat} {off : Int} (hd : decode cc pc = .ok (.ifCond .lt off, 3)) (hn : xrp n = pc + 3) (ht : (pc : Int) + off = (xrp r1 : Int)) (h : xres C (XPP p l e R s m args below meth c Z nL N0 D dA z A) Q (xu1 0 S fun x r => xbr (xcnd .lt x 0) (r1, L, r, K, H) (n, L, r, K, H))) : XPP p l e R s m args below meth c Z nL N0 D dA z A (pc, L, S, K, H) := by
  obtain ⟨x, r, rfl, h1, h2⟩ := xu1_inv h
  refine XPP.inn hpc fun ad ls Hp locs cells slots hr => ?_
  obtain ⟨hx0, hr2⟩ := xok_1 hr.2.2.1
  have hi := xw_lt (hx0.1 rfl) xw_0
  refine lv_if_lt hx hb hd ht (fun q => ?_) (fun q => ?_)
  · exact XPP.go (h1 (hi.mp q)) rfl (hr.st hr2)
  · exact XPP.go (h2 fun w => q (hi.mpr w)) hn (hr.st hr2)
theorem xs_icmp_lt (hx : p.tables.exec = Jvm.exec) (hb : c.code = cc) {pc n : Nat} {L : XL} {S : List XV} {K : XW} {H : XH} (hpc : xrp pc = pc) {r1 : Nat} {off : Int} (hd : decode cc pc = .ok (.if_icmp .lt off, 3)) (hn : xrp n = pc + 3) (ht : (pc : Int) + off = (xrp r1 : Int)) (h : xres C (XPP p l e R s m args below meth c Z nL N0 D dA z A) Q (xb2 0 0 S fun x y r => xbr (xcnd .lt x y) (r1, L, r, K, H) (n, L, r, K, H))) : XPP p l e R s m args below meth c Z nL N0 D dA z A (pc, L, S, K, H) := by
  obtain ⟨x, y, r, rfl, h1, h2⟩ := xb2_inv h
  refine XPP.inn hpc fun ad ls Hp locs cells slots hr => ?_
  obtain ⟨hy, hr1⟩ := xok_1 hr.2.2.1
  obtain ⟨hx0, hr2⟩ := xok_1 hr1
  have hi := xw_lt (hx0.1 rfl) (hy.1 rfl)
  refine lv_icmp_lt hx hb hd ht (fun q => ?_) (fun q => ?_)
  · exact XPP.go (h1 (hi.mp q)) rfl (hr.st hr2)
  · exact XPP.go (h2 fun w => q (hi.mpr w)) hn (hr.st hr2)
theorem xs_if_ge (hx : p.tables.exec = Jvm.exec) (hb : c.code = cc) {pc n : Nat} {L : XL} {S : List XV} {K : XW} {H : XH} (hpc : xrp pc = pc) {r1 : Nat} {off : Int} (hd : decode cc pc = .ok (.ifCond .ge off, 3)) (hn : xrp n = pc + 3) (ht : (pc : Int) + off = (xrp r1 : Int)) (h : xres C (XPP p l e R s m args below meth c Z nL N0 D dA z A) Q (xu1 0 S fun x r => xbr (xcnd .ge x 0) (r1, L, r, K, H) (n, L, r, K, H))) : XPP p l e R s m args below meth c Z nL N0 D dA z A (pc, L, S, K, H) := by
  obtain ⟨x, r, rfl, h1, h2⟩ := xu1_inv h
  refine XPP.inn hpc fun ad ls Hp locs cells slots hr => ?_
  obtain ⟨hx0, hr2⟩ := xok_1 hr.2.2.1
  have hi := xw_le xw_0 (hx0.1 rfl)
  refine lv_if_ge hx hb hd ht (fun q => ?_) (fun q => ?_)
  · exact XPP.go (h1 (hi.mp q)) rfl (hr.st hr2)
  · exact XPP.go (h2 fun w => q (hi.mpr w)) hn (hr.st hr2)
theorem xs_icmp_ge (hx : p.tables.exec = Jvm.exec) (hb : c.code = cc) {pc n : Nat} {L : XL} {S : List XV} {K : XW} {H : XH} (hpc : xrp pc = pc) {r1 : Nat} {off : Int} (hd : decode cc pc = .ok (.if_icmp .ge off, 3)) (hn : xrp n = pc + 3) (ht : (pc : Int) + off = (xrp r1 : Int)) (h : xres C (XPP p l e R s m args below meth c Z nL N0 D dA z A) Q (xb2 0 0 S fun x y r => xbr (xcnd .ge x y) (r1, L, r, K, H) (n, L, r, K, H))) : XPP p l e R s m args below meth c Z nL N0 D dA z A (pc, L, S, K, H) := by
  obtain ⟨x, y, r, rfl, h1, h2⟩ := xb2_inv h
  refine XPP.inn hpc fun ad ls Hp locs cells slots hr => ?_
  obtain ⟨hy, hr1⟩ := xok_1 hr.2.2.1
  obtain ⟨hx0, hr2⟩ := xok_1 hr1
  have hi := xw_le (hy.1 rfl) (hx0.1 rfl)
  refine lv_icmp_ge hx hb hd ht (fun q => ?_) (fun q => ?_)
  · exact XPP.go (h1 (hi.mp q)) rfl (hr.st hr2)
  · exact XPP.go (h2 fun w => q (hi.mpr w)) hn (hr.st hr2)
theorem xs_if_gt (hx : p.tables.exec = Jvm.exec) (hb : c.code = cc) {pc n : Nat} {L : XL} {S : List XV} {K : XW} {H : XH} (hpc : xrp pc = pc) {r1 : Nat} {off : Int} (hd : decode cc pc = .ok (.ifCond .gt off, 3)) (hn : xrp n = pc + 3) (ht : (pc : Int) + off = (xrp r1 : Int)) (h : xres C (XPP p l e R s m args below meth c Z nL N0 D dA z A) Q (xu1 0 S fun x r => xbr (xcnd .gt x 0) (r1, L, r, K, H) (n, L, r, K, H))) : XPP p l e R s m args below meth c Z nL N0 D dA z A (pc, L, S, K, H) := by
  obtain ⟨x, r, rfl, h1, h2⟩ := xu1_inv h
  refine XPP.inn hpc fun ad ls Hp locs cells slots hr => ?_
  obtain ⟨hx0, hr2⟩ := xok_1 hr.2.2.1
  have hi := xw_lt xw_0 (hx0.1 rfl)
  refine lv_if_gt hx hb hd ht (fun q => ?_) (fun q => ?_)
  · exact XPP.go (h1 (hi.mp q)) rfl (hr.st hr2)
  · exact XPP.go (h2 fun w => q (hi.mpr w)) hn (hr.st hr2)
theorem xs_icmp_gt (hx : p.tables.exec = Jvm.exec) (hb : c.code = cc) {pc n : Nat} {L : XL} {S : List XV} {K : XW} {H : XH} (hpc : xrp pc = pc) {r1 : Nat} {off : Int} (hd : decode cc pc = .ok (.if_icmp .gt off, 3)) (hn : xrp n = pc + 3) (ht : (pc : Int) + off = (xrp r1 : Int)) (h : xres C (XPP p l e R s m args below meth c Z nL N0 D dA z A) Q (xb2 0 0 S fun x y r => xbr (xcnd .gt x y) (r1, L, r, K, H) (n, L, r, K, H))) : XPP p l e R s m args below meth c Z nL N0 D dA z A (pc, L, S, K, H) := by
  obtain ⟨x, y, r, rfl, h1, h2⟩ := xb2_inv h
  refine XPP.inn hpc fun ad ls Hp locs cells slots hr => ?_
  obtain ⟨hy, hr1⟩ := xok_1 hr.2.2.1
  obtain ⟨hx0, hr2⟩ := xok_1 hr1
  have hi := xw_lt (hy.1 rfl) (hx0.1 rfl)
  refine lv_icmp_gt hx hb hd ht (fun q => ?_) (fun q => ?_)
  · exact XPP.go (h1 (hi.mp q)) rfl (hr.st hr2)
  · exact XPP.go (h2 fun w => q (hi.mpr w)) hn (hr.st hr2)
theorem xs_if_le (hx : p.tables.exec = Jvm.exec) (hb : c.code = cc) {pc n : Nat} {L : XL} {S : List XV} {K : XW} {H : XH} (hpc : xrp pc = pc) {r1 : Nat} {off : Int} (hd : decode cc pc = .ok (.ifCond .le off, 3)) (hn : xrp n = pc + 3) (ht : (pc : Int) + off = (xrp r1 : Int)) (h : xres C (XPP p l e R s m args below meth c Z nL N0 D dA z A) Q (xu1 0 S fun x r => xbr (xcnd .le x 0) (r1, L, r, K, H) (n, L, r, K, H))) : XPP p l e R s m args below meth c Z nL N0 D dA z A (pc, L, S, K, H) := by
  obtain ⟨x, r, rfl, h1, h2⟩ := xu1_inv h
  refine XPP.inn hpc fun ad ls Hp locs cells slots hr => ?_
  obtain ⟨hx0, hr2⟩ := xok_1 hr.2.2.1
  have hi := xw_le (hx0.1 rfl) xw_0
  refine lv_if_le hx hb hd ht (fun q => ?_) (fun q => ?_)
  · exact XPP.go (h1 (hi.mp q)) rfl (hr.st hr2)
  · exact XPP.go (h2 fun w => q (hi.mpr w)) hn (hr.st hr2)
theorem xs_icmp_le (hx : p.tables.exec = Jvm.exec) (hb : c.code = cc) {pc n : Nat} {L : XL} {S : List XV} {K : XW} {H : XH} (hpc : xrp pc = pc) {r1 : Nat} {off : Int} (hd : decode cc pc = .ok (.if_icmp .le off, 3)) (hn : xrp n = pc + 3) (ht : (pc : Int) + off = (xrp r1 : Int)) (h : xres C (XPP p l e R s m args below meth c Z nL N0 D dA z A) Q (xb2 0 0 S fun x y r => xbr (xcnd .le x y) (r1, L, r, K, H) (n, L, r, K, H))) : XPP p l e R s m args below meth c Z nL N0 D dA z A (pc, L, S, K, H) := by
  obtain ⟨x, y, r, rfl, h1, h2⟩ := xb2_inv h
  refine XPP.inn hpc fun ad ls Hp locs cells slots hr => ?_
  obtain ⟨hy, hr1⟩ := xok_1 hr.2.2.1
  obtain ⟨hx0, hr2⟩ := xok_1 hr1
  have hi := xw_le (hx0.1 rfl) (hy.1 rfl)
  refine lv_icmp_le hx hb hd ht (fun q => ?_) (fun q => ?_)
  · exact XPP.go (h1 (hi.mp q)) rfl (hr.st hr2)
  · exact XPP.go (h2 fun w => q (hi.mpr w)) hn (hr.st hr2)
theorem xs_goto (hx : p.tables.exec = Jvm.exec) (hb : c.code = cc) {pc n : Nat} {L : XL} {S : List XV} {K : XW} {H : XH} (hpc : xrp pc = pc) {r1 : Nat} {off : Int} (hd : decode cc pc = .ok (.goto off, 3)) (ht : (pc : Int) + off = (xrp r1 : Int)) (h : xres C (XPP p l e R s m args below meth c Z nL N0 D dA z A) Q (xgo (r1, L, S, K, H))) : XPP p l e R s m args below meth c Z nL N0 D dA z A (pc, L, S, K, H) :=
  XPP.inn hpc fun ad ls Hp locs cells slots hr => lv_goto hx hb hd ht (XPP.go h rfl hr)
theorem xs_ifnull (hx : p.tables.exec = Jvm.exec) (hb : c.code = cc) {pc n : Nat} {L : XL} {S : List XV} {K : XW} {H : XH} (hpc : xrp pc = pc) {r1 : Nat} {off : Int} (hd : decode cc pc = .ok (.ifnull off, 3)) (hn : xrp n = pc + 3) (ht : (pc : Int) + off = (xrp r1 : Int)) (h : xres C (XPP p l e R s m args below meth c Z nL N0 D dA z A) Q (xu1 2 S fun x r => (match x with
      | .ofNat _ => xgo (n, L, r, K, H)
      | .negSucc _ => xgo (r1, L, r, K, H)))) : XPP p l e R s m args below meth c Z nL N0 D dA z A (pc, L, S, K, H) := by
  obtain ⟨x, r, rfl, h1⟩ := xu1_inv h
  refine XPP.inn hpc fun ad ls Hp locs cells slots hr => ?_
  obtain ⟨hx0, hr2⟩ := xok_1 hr.2.2.1
  cases x with
  | ofNat x => exact lv_ifnull hx hb hd (XPP.go h1 hn (hr.st hr2))
  | negSucc x => exact lv_ifnullN hx hb hd ht (XPP.go h1 rfl (hr.st hr2))
theorem xs_nop (hx : p.tables.exec = Jvm.exec) (hb : c.code = cc) {pc n : Nat} {L : XL} {S : List XV} {K : XW} {H : XH} {tl : List (Int × Nat)} (hn : xrp n = n) (hp : xrp pc = n) (h : xres C (XPP p l e R s m args below meth c Z nL N0 D dA z A) Q (xgo (n, xkeep L tl, S, K, H))) : XPP p l e R s m args below meth c Z nL N0 D dA z A (pc, L, S, K, H) := by
  intro ad ls Hp locs cells slots hr
  show W p l e R s m args below meth c Hp locs cells slots Z (F0 m (xrp pc) ls (S.map (xv (ad, z))))
  rw [hp]
  refine XPP.go h hn ⟨⟨hr.1.1, hr.1.2.1, fun q hq => ?_⟩, fun q hq => hr.2.1 q (xkeep_mem _ q hq), hr.2.2⟩
  obtain ⟨q0, h0, rfl⟩ := List.mem_map.mp hq
  exact hr.1.2.2 _ (List.mem_map.mpr ⟨q0, xkeep_mem _ q0 h0, rfl⟩)
end XS
