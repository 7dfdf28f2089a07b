/-! SOUNDNESS 11: any instruction; a whole body; a method's contract -/
theorem xk1 {a b : Bool} (h : (a && b) = true) : a = true ∧ b = true := Bool.and_eq_true_iff.mp h
theorem xrp_lt {pc : Nat} (h : pc < 100000) : xrp pc = pc := if_pos h
/-- what holds while a method runs -/
def XCx (p : Program) (R : Room) (s : State) (m : MethodId) (args : Array Value) (meth : Method) (c : Code) (cc : ByteArray) (nL : Nat) (own : String) (init : Bool) (D : va_G) (dA : Nat → ClassId) (z : (Nat → Nat) × (Nat → Nat) × Nat × Value) (X : Int × (Int → Int)) (A : Nat → Prop) : Prop :=
  p.tables.exec = Jvm.exec ∧ c.code = cc ∧ c.maxLocals = nL ∧ s.vm.findClass own = some m.cls ∧ (∀ w ∈ wsG, w.before args s = true) ∧ XF D dA z X A s s.heap ∧ (∀ q, s.heap.size ≤ q → A q) ∧ (0 ≤ X.1 ∧ X.1 ≤ 100000 ∧ ∀ i, 0 ≤ i → i < X.1 → xI (X.2 i)) ∧ (init = true → meth.name = "<init>") ∧ (1 ≤ R.frames ∧ 40 ≤ R.locals) ∧ ∃ q, z.2.2.2 = .null ∨ z.2.2.2 = .ref q
theorem xinit_b : (List.range 265).all (fun y => !(decide ((xNm y).1.name = "<init>")) || Nat.beq (xMC y).2.1 2) = true := by decide +kernel
theorem xinit_ok (y : Nat) (hy : y < 265) (h : (xNm y).1.name = "<init>") : (xMC y).2.1 = 2 := by
  have := List.all_eq_true.mp xinit_b y (List.mem_range.mpr hy)
  rw [decide_eq_true h] at this
  exact Nat.eq_of_beq_eq_true this
theorem xcki_spec {own : String} {pc idx r1 r2 op : Nat} {tl : List (Int × Nat)} (h : xcki own pc idx r1 r2 tl op = true) (hnot : ¬ (265 < r1 ∧ ¬ r1 = 998 ∧ ¬ r1 = 999)) (h9 : ¬ r1 = 999) (h8 : ¬ r1 = 998) : ∃ r ∈ xML, r.2.1 = own ∧ r.2.2.1 = idx ∧ r.2.2.2.1 = r1 ∧ ((if r.1 = 2 then 1 else r.1) = op) ∧ xpar r1 = some (bif Nat.beq op 1 then r2 else r2 - 1) := by
  match tl, h with
  | [], h => exact absurd (of_decide_eq_true h) hnot
  | (row, x) :: tl, h =>
    unfold xcki at h
    dsimp only at h
    rw [show Nat.beq r1 999 = false from Bool.eq_false_iff.mpr fun q => h9 (Nat.eq_of_beq_eq_true q), show Nat.beq r1 998 = false from Bool.eq_false_iff.mpr fun q => h8 (Nat.eq_of_beq_eq_true q)] at h
    dsimp only [cond_false] at h
    cases hr : xML[row.toNat]? with
    | none => rw [hr] at h; cases h
    | some r =>
      rw [hr] at h
      obtain ⟨k, o', i', y, rest⟩ := r
      simp only [Bool.and_eq_true, decide_eq_true_eq] at h
      obtain ⟨h1, h2, h3, h4, h5⟩ := h
      have h3 := Nat.eq_of_beq_eq_true h3
      exact ⟨_, List.mem_of_getElem? hr, h1, Nat.eq_of_beq_eq_true h2, h3, h4, by rw [← h3]; exact h5⟩
section XS
variable {p : Program} {l : Launch} {e : Env} {R : Room} {s : State} {m : MethodId} {args : Array Value} {below : List Frame} {meth : Method} {c : Code} {Z : State → Prop}
variable {cc : ByteArray} {nL : Nat} {N0 : Nat × (Nat → Nat)} {D : va_G} {dA : Nat → ClassId} {z : (Nat → Nat) × (Nat → Nat) × Nat × Value} {A : Nat → Prop} {C : XC} {Q : XQ} {X : Int × (Int → Int)}
theorem xs_inv {own : String} {init : Bool} (Cx : XCx p R s m args meth c cc nL own init D dA z X A) (hcode : ∀ y, y < 265 → Jvm.Cond.code (xNm y).1 (xNm y).2.1 (xNm y).2.2.1 (xNm y).2.2.2.1 ∈ wsG) (hC : XCall l R C D dA z X) {pc n idx r1 r2 op : Nat} {L : XL} {S : List XV} {K : XW} {H : XH} {tl : List (Int × Nat)} (hpc : xrp pc = pc) (hd : (op = 0 ∧ decode cc pc = .ok (.invokevirtual idx, 3)) ∨ (op = 1 ∧ decode cc pc = .ok (.invokestatic idx, 3)) ∨ (op = 3 ∧ decode cc pc = .ok (.invokespecial idx, 3))) (hn : xrp n = pc + 3) (hck : xcki own pc idx r1 r2 tl op = true)
    (h : xres C (XPP p l e R s m args below meth c Z nL N0 D dA z A) Q (xinv xMI n r1 r2 L S K H)) : XPP p l e R s m args below meth c Z nL N0 D dA z A (pc, L, S, K, H) := by
  obtain ⟨hx, hb, hml, hown, hts, hXF, hA, hX, hinit, hR, hzq⟩ := Cx
  have hz : z.2.2.2.category = 1 := hXF.2.2.2.2.2.2
  obtain ⟨ob1, ob2, ob3, ob4, ob5⟩ := xobj_ok
  by_cases h9 : r1 = 999
  · subst h9
    match tl, hck with
    | [], hck => unfold xcki at hck; exact absurd (of_decide_eq_true hck).2.2 (fun q => q rfl)
    | (row, x) :: tl, hck =>
    unfold xcki at hck
    rw [show Nat.beq 999 999 = true by decide] at hck
    dsimp only [cond_true] at hck
    obtain ⟨c1, c2⟩ := xk1 hck
    have c1 := Nat.eq_of_beq_eq_true c1
    rcases hd with ⟨q, -⟩ | ⟨q, -⟩ | ⟨-, hd⟩
    · omega
    · omega
    unfold xinv at h
    rw [show Nat.beq 999 999 = true by decide] at h
    dsimp only [cond_true] at h
    match S, h with
    | [], h => exact h.elim
    | (t, o) :: r, h =>
      obtain ⟨ht, h2⟩ := xbif_inv (o := xgo (n, L, r, K, H)) h
      obtain ⟨t1, t2⟩ := xk1 ht
      obtain ⟨t3, t4⟩ := xk1 t2
      cases Nat.eq_of_beq_eq_true t1
      refine xs_objInit hx hb hml hpc hown (hts _ (xat_in c2)) (hts _ ob1) (hts _ ob2) hz t3 ?_ hR hd hn h2
      cases o with
      | ofNat q => exact Int.natCast_nonneg q
      | negSucc q => cases t4
  · by_cases h8 : r1 = 998
    · subst h8
      match tl, hck with
      | [], hck => unfold xcki at hck; exact absurd (of_decide_eq_true hck).2.1 (fun q => q rfl)
      | (row, x) :: tl, hck =>
      unfold xcki at hck
      rw [show Nat.beq 998 999 = false by decide, show Nat.beq 998 998 = true by decide] at hck
      dsimp only [cond_true, cond_false] at hck
      unfold xinv at h
      rw [show Nat.beq 998 999 = false by decide, show Nat.beq 998 998 = true by decide] at h
      dsimp only [cond_true, cond_false] at h
      obtain ⟨c1, c2⟩ := xk1 hck
      have c1 := Nat.eq_of_beq_eq_true c1
      rcases hd with ⟨q, -⟩ | ⟨-, hd⟩ | ⟨q, -⟩
      · omega
      · exact xs_acp hx hb hml hpc hz hown (hts _ (xat_in c2)) (hts _ ob3) (hts _ ob4) (hts _ ob5) hR hXF.1 hd hn h
      · omega
    · unfold xinv at h
      rw [show Nat.beq r1 999 = false from Bool.eq_false_iff.mpr fun q => h9 (Nat.eq_of_beq_eq_true q), show Nat.beq r1 998 = false from Bool.eq_false_iff.mpr fun q => h8 (Nat.eq_of_beq_eq_true q)] at h
      obtain ⟨hy, h'⟩ := xbif_inv (o := xcall xMI n r1 r2 L S K H) h
      have hy : r1 < 265 := Nat.le_of_ble_eq_true hy
      obtain ⟨r, hr, e1, e2, e3, e4, e5⟩ := xcki_spec hck (by omega) h9 h8
      have hrow := List.all_eq_true.mp xML_ok r hr
      obtain ⟨k, o', i', y, p1, p2, p3, p4⟩ := r
      dsimp only at e1 e2 e3 e4
      subst e1; subst e2; subst e3
      unfold xrowok at hrow
      dsimp only at hrow
      obtain ⟨-, hrow⟩ := xk1 hrow
      obtain ⟨w3, hrow⟩ := xk1 hrow
      match k, hrow, e4 with
      | 0, hrow, e4 =>
        have eo : op = 0 := by rw [← e4]; rfl
        obtain ⟨w1, hrow⟩ := xk1 hrow
        obtain ⟨w2, hrow⟩ := xk1 hrow
        obtain ⟨w4, hrow⟩ := xk1 hrow
        rcases hd with ⟨q, hd⟩ | ⟨q, hd⟩ | ⟨q, hd⟩
        · subst q
          have hrc : ((xMI y).2.1 < 13 ∧ (xCl (xMI y).2.1).1 = (xNm y).1.cls) ∨ ((xMI y).2.1 = 100 ∧ (xNm y).1.cls = "java/lang/String") := by
            rcases Bool.or_eq_true_iff.mp hrow with q | q
            · exact Or.inl ⟨of_decide_eq_true (xk1 q).1, of_decide_eq_true (xk1 q).2⟩
            · exact Or.inr ⟨of_decide_eq_true (xk1 q).1, of_decide_eq_true (xk1 q).2⟩
          have hk0 : 1 ≤ r2 := by
            rcases Nat.lt_or_ge 0 r2 with q | q
            · exact q
            · exfalso
              have hr0 : r2 = 0 := by omega
              subst hr0
              unfold xcall at h'
              have : (Nat.beq (xMI y).2.1 200) = false := Bool.eq_false_iff.mpr fun q => by
                have := Nat.eq_of_beq_eq_true q
                rcases hrc with h | h <;> omega
              rw [this] at h'
              simp only [List.take_zero, List.reverse_nil, Bool.or_self, Bool.and_false, cond_false] at h'
              exact h'
          exact xs_call hx hb hml hpc hts hXF hA hown hy (hcode y hy) (xat_in w3) (Or.inl ⟨rfl, hd, e5, hk0, xat_in w1, xat_in w2, xat_in w4, hrc⟩) hC hn h'
        · exact absurd q (by omega)
        · exact absurd q (by omega)
      | 1, hrow, e4 =>
        have eo : op = 1 := by rw [← e4]; rfl
        obtain ⟨w1, w2⟩ := xk1 hrow
        rcases hd with ⟨q, hd⟩ | ⟨q, hd⟩ | ⟨q, hd⟩
        · exact absurd q (by omega)
        · subst q
          exact xs_call hx hb hml hpc hts hXF hA hown hy (hcode y hy) (xat_in w3) (Or.inr (Or.inl ⟨rfl, hd, e5, xat_in w1, xat_in w2⟩)) hC hn h'
        · exact absurd q (by omega)
      | 2, hrow, e4 =>
        have eo : op = 1 := by rw [← e4]; rfl
        obtain ⟨w1, w2⟩ := xk1 hrow
        rcases hd with ⟨q, hd⟩ | ⟨q, hd⟩ | ⟨q, hd⟩
        · exact absurd q (by omega)
        · subst q
          exact xs_call hx hb hml hpc hts hXF hA hown hy (hcode y hy) (xat_in w3) (Or.inr (Or.inr (Or.inl ⟨rfl, hd, e5, List.mem_filter.mpr ⟨xat0_in w1, rfl⟩, xat_in w2⟩))) hC hn h'
        · exact absurd q (by omega)
      | 3, hrow, e4 =>
        have eo : op = 3 := by rw [← e4]; rfl
        obtain ⟨w1, hrow⟩ := xk1 hrow
        obtain ⟨w2, hrow⟩ := xk1 hrow
        obtain ⟨w4, w5⟩ := xk1 hrow
        rcases hd with ⟨q, hd⟩ | ⟨q, hd⟩ | ⟨q, hd⟩
        · exact absurd q (by omega)
        · exact absurd q (by omega)
        · subst q
          have h13 := of_decide_eq_true w5
          have hk0 : 1 ≤ r2 := by
            rcases Nat.lt_or_ge 0 r2 with q | q
            · exact q
            · exfalso
              have hr0 : r2 = 0 := by omega
              subst hr0
              unfold xcall at h'
              have : (Nat.beq (xMI y).2.1 200) = false := Bool.eq_false_iff.mpr fun q => by
                have := Nat.eq_of_beq_eq_true q
                omega
              rw [this] at h'
              simp only [List.take_zero, List.reverse_nil, Bool.or_self, Bool.and_false, cond_false] at h'
              exact h'
          have hrt : (xMC y).2.1 = 2 := xinit_ok y hy (of_decide_eq_true w4)
          exact xs_call hx hb hml hpc hts hXF hA hown hy (hcode y hy) (xat_in w3) (Or.inr (Or.inr (Or.inr ⟨rfl, hd, e5, hk0, xat_in w1, xat_in w2, of_decide_eq_true w4, h13, hrt⟩))) hC hn h'
      | k + 4, hrow, _ => cases hrow
end XS
