/-! SOUNDNESS 4: switches, constants of the pool, cells -/
theorem xswi_cases {P : XG → Prop} {x : Int} {d : XG} : ∀ l : List (Int × XG), xswi P x d l → (∃ (j : Nat) (k : Int) (g : XG), l[j]? = some (k, g) ∧ x = k ∧ P g) ∨ ((∀ (j : Nat) (k : Int) (g : XG), l[j]? = some (k, g) → ¬ x = k) ∧ P d)
  | [], h => Or.inr ⟨fun j k g e => by simp at e, h⟩
  | (k, g) :: l, h => by
    by_cases hx : x = k
    · exact Or.inl ⟨0, k, g, rfl, hx, h.1 hx⟩
    · rcases xswi_cases l (h.2 hx) with ⟨j, k', g', e, h1, h2⟩ | ⟨h1, h2⟩
      · exact Or.inl ⟨j + 1, k', g', e, h1, h2⟩
      · refine Or.inr ⟨fun j k' g' e => ?_, h2⟩
        cases j with
        | zero => cases e; exact hx
        | succ j => exact h1 j k' g' e
theorem xcls_inv {K : XW} {o : Int} {ci : Nat} (h : xCls K o = ci) (hc : ci < 9999) : ∃ (i : Nat) (rs : List Int), o = (i : Int) ∧ i < K.1.length ∧ K.1.getD i (9, 0, []) = (0, ci, rs) := by
  unfold xCls xTy at h
  cases hb : Nat.beq (xkd K o).1 0 with
  | false => rw [hb] at h; simp at h; omega
  | true =>
    rw [hb] at h
    have h0 := Nat.eq_of_beq_eq_true hb
    cases o with
    | negSucc n => cases h0
    | ofNat n =>
      have hl : n < K.1.length := by
        rcases Nat.lt_or_ge n K.1.length with q | q
        · exact q
        · exfalso
          have : xkd K (Int.ofNat n) = (9, 0, []) := by
            show K.1.getD n (9, 0, []) = _
            rw [List.getD_eq_getElem?_getD, List.getElem?_eq_none q]
            rfl
          rw [this] at h0
          cases h0
      exact ⟨n, (K.1.getD n (9, 0, [])).2.2, rfl, hl, Prod.ext h0 (Prod.ext h rfl)⟩
theorem xty_inv {K : XW} {a : Int} {t : Nat} (h : xTy K a = t) (ht : t < 9) : ∃ (j m : Nat) (rs : List Int), a = (j : Int) ∧ j < K.1.length ∧ K.1.getD j (9, 0, []) = (t, m, rs) ∧ xLen K a = m := by
  unfold xTy at h
  cases a with
  | negSucc n => exfalso; have : (9 : Nat) = t := h; omega
  | ofNat n =>
    have hl : n < K.1.length := by
      rcases Nat.lt_or_ge n K.1.length with q | q
      · exact q
      · exfalso
        have : xkd K (Int.ofNat n) = (9, 0, []) := by
          show K.1.getD n (9, 0, []) = _
          rw [List.getD_eq_getElem?_getD, List.getElem?_eq_none q]
          rfl
        rw [this] at h
        have : (9 : Nat) = t := h
        omega
    exact ⟨n, (K.1.getD n (9, 0, [])).2.1, (K.1.getD n (9, 0, [])).2.2, rfl, hl, Prod.ext h rfl, rfl⟩
theorem xln_inv {K : XW} {a i : Int} {t : Nat} (h0 : 0 ≤ i) (h : i < xLn K a t) (ht : t < 9) : ∃ (j m : Nat) (rs : List Int), a = (j : Int) ∧ j < K.1.length ∧ K.1.getD j (9, 0, []) = (t, m, rs) ∧ i < m := by
  unfold xLn at h
  cases hb : Nat.beq (xTy K a) t with
  | false => rw [hb] at h; simp at h; omega
  | true =>
    rw [hb] at h
    obtain ⟨j, m, rs, h1, h2, h3, h4⟩ := xty_inv (Nat.eq_of_beq_eq_true hb) ht
    exact ⟨j, m, rs, h1, h2, h3, by rw [← h4]; exact h⟩
theorem xup_ne {H : XH} {o k x o' : Int} (h : ¬ o' = o) : xup H o k x o' = H o' := by
  funext i
  unfold xup
  rw [if_neg (fun q => h q.1)]
theorem xup_eq (H : XH) (o k x i : Int) : xup H o k x o i = if i = k then x else H o i := by
  unfold xup
  by_cases h : i = k
  · rw [if_pos ⟨rfl, h⟩, if_pos h]
  · rw [if_neg (fun q => h q.2), if_neg h]
theorem xfs_set {N k : Nat} {f f' : Nat → Value} {v : Value} (hk : k < N) (h1 : f' k = v) (h2 : ∀ j, j < N → j ≠ k → f' j = f j) : ((List.range N).map f).set k v = (List.range N).map f' := by
  apply List.ext_getElem?
  intro j
  by_cases hj : j < N
  · rw [List.getElem?_map, List.getElem?_range hj]
    by_cases hjk : j = k
    · subst hjk
      rw [List.getElem?_set_self (by simpa using hj), ← h1]
      rfl
    · rw [List.getElem?_set_ne (Ne.symm hjk), List.getElem?_map, List.getElem?_range hj]
      show some (f j) = some (f' j)
      rw [h2 j hj hjk]
  · rw [List.getElem?_eq_none (by simpa using hj), List.getElem?_eq_none (by simpa using hj)]
theorem xupd_fun {f : Int → Int} {i x : Int} (h0 : 0 ≤ i) : (upd (fun j : Nat => Int32.ofInt (f j)) i.toNat (Int32.ofInt x)) = fun j : Nat => Int32.ofInt (if (j : Int) = i then x else f j) := by
  funext j
  unfold upd
  by_cases h : j = i.toNat
  · rw [if_pos h, if_pos (by omega)]
  · rw [if_neg h, if_neg (by omega)]
theorem xupdL_fun {f : Int → Int} {i x : Int} (h0 : 0 ≤ i) : (vp_updL (fun j : Nat => Int64.ofInt (f j)) i.toNat (Int64.ofInt x)) = fun j : Nat => Int64.ofInt (if (j : Int) = i then x else f j) := by
  funext j
  unfold vp_updL
  by_cases h : j = i.toNat
  · rw [if_pos h, if_pos (by omega)]
  · rw [if_neg h, if_neg (by omega)]
section XS
variable {p : Program} {l : Launch} {e : Env} {R : Room} {s : State} {m : MethodId} {args : Array Value} {below : List Frame} {meth : Method} {c : Code} {Z : State → Prop}
variable {cc : ByteArray} {nL : Nat} {N0 : Nat × (Nat → Nat)} {D : va_G} {dA : Nat → ClassId} {z : (Nat → Nat) × (Nat → Nat) × Nat × Value} {A : Nat → Prop} {C : XC} {Q : XQ}
theorem xs_table (hx : p.tables.exec = Jvm.exec) (hb : c.code = cc) {pc n r1 ln : Nat} {L : XL} {S : List XV} {K : XW} {H : XH} (hpc : xrp pc = pc) {df lo hi : Int} {offs : Array Int} {tl : List (Int × Nat)} (hd : decode cc pc = .ok (.tableswitch df lo hi offs, ln)) (hlen : tl.length = offs.size) (hhi : hi = lo + offs.size - 1) (ht : ∀ (j : Nat) (k : Int) (r : Nat), tl[j]? = some (k, r) → ∃ o, offs[j]? = some o ∧ k = lo + j ∧ (pc : Int) + o = (xrp r : Int)) (hdf : (pc : Int) + df = (xrp r1 : Int))
    (h : xres C (XPP p l e R s m args below meth c Z nL N0 D dA z A) Q (xu1 0 S fun x r => xsx x (tl.map fun q => (q.1, q.2, L, r, K, H)) (r1, L, r, K, H))) : XPP p l e R s m args below meth c Z nL N0 D dA z A (pc, L, S, K, H) := by
  obtain ⟨x, r, rfl, h1⟩ := xu1_inv h
  refine XPP.inn hpc fun ad ls Hp locs cells slots hr => ?_
  obtain ⟨hx0, hr2⟩ := xok_1 hr.2.2.1
  have hI := xw_I (hx0.1 rfl)
  dsimp only at hI
  rcases xswi_cases _ h1 with ⟨j, k, g, e1, e2, e3⟩ | ⟨e1, e2⟩
  · rw [List.getElem?_map] at e1
    cases hj : tl[j]? with
    | none => rw [hj] at e1; cases e1
    | some q =>
      rw [hj] at e1
      cases e1
      obtain ⟨o, g1, g2, g3⟩ := ht j q.1 q.2 hj
      have hjl : j < offs.size := (Array.getElem?_eq_some_iff.mp g1).1
      refine lv_tableIn hx hb hd (off := o) (tgt := xrp q.2) (by rw [hI]; omega) (by rw [hI]; omega) (by rw [hI, show (x - lo).toNat = j by omega]; exact g1) g3 ?_
      exact XPP.go e3 rfl (hr.st hr2)
  · refine lv_tableOut hx hb hd (tgt := xrp r1) ?_ hdf (XPP.go e2 rfl (hr.st hr2))
    rw [hI]
    by_cases q1 : x < lo
    · exact Or.inl q1
    · refine Or.inr ?_
      rcases Int.lt_or_le hi x with q2 | q2
      · exact q2
      · exfalso
        have hj : (x - lo).toNat < tl.length := by omega
        obtain ⟨o, g1, g2, g3⟩ := ht (x - lo).toNat _ _ (List.getElem?_eq_getElem hj)
        refine e1 (x - lo).toNat _ _ (by rw [List.getElem?_map, List.getElem?_eq_getElem hj]; rfl) ?_
        show x = (tl.get ⟨(x - lo).toNat, hj⟩).1
        rw [g2]; omega
def xlko (pc : Nat) (ps : List (Int × Int)) (tl : List (Int × Nat)) : Bool := match ps, tl with
  | [], [] => true
  | (a, o) :: ps, (k, r) :: tl => decide (a = k) && (decide ((pc : Int) + o = (xrp r : Int)) && xlko pc ps tl)
  | _, _ => false
theorem xlko_spec {pc r1 : Nat} {df x : Int} (hdf : (pc : Int) + df = (xrp r1 : Int)) {P : XG → Prop} {f : Nat → XG} : ∀ (ps : List (Int × Int)) (tl : List (Int × Nat)), xlko pc ps tl = true → xswi P x (f r1) (tl.map fun q => (q.1, f q.2)) → ∃ r : Nat, (pc : Int) + Op.lookupswitch.offset ps df x = (xrp r : Int) ∧ P (f r)
  | [], [], _, h => ⟨r1, hdf, h⟩
  | (a, o) :: ps, (k, r) :: tl, hc, h => by
    unfold xlko at hc
    simp only [Bool.and_eq_true, decide_eq_true_eq] at hc
    obtain ⟨rfl, h1, h2⟩ := hc
    rw [Op.lookupswitch.offset_cons]
    by_cases hx : a = x
    · rw [if_pos hx]
      exact ⟨r, h1, h.1 hx.symm⟩
    · rw [if_neg hx]
      exact xlko_spec hdf ps tl h2 (h.2 fun q => hx q.symm)
  | [], _ :: _, hc, _ => by cases hc
  | (_, _) :: _, [], hc, _ => by cases hc
theorem xs_lookup (hx : p.tables.exec = Jvm.exec) (hb : c.code = cc) {pc n r1 ln : Nat} {L : XL} {S : List XV} {K : XW} {H : XH} (hpc : xrp pc = pc) {df : Int} {ps : Array (Int × Int)} {tl : List (Int × Nat)} (hd : decode cc pc = .ok (.lookupswitch df ps, ln)) (hp : (ps.toList.zip (ps.toList.drop 1)).all (fun (a, next) => a.1 < next.1) = true) (ht : xlko pc ps.toList tl = true) (hdf : (pc : Int) + df = (xrp r1 : Int))
    (h : xres C (XPP p l e R s m args below meth c Z nL N0 D dA z A) Q (xu1 0 S fun x r => xsx x (tl.map fun q => (q.1, q.2, L, r, K, H)) (r1, L, r, K, H))) : XPP p l e R s m args below meth c Z nL N0 D dA z A (pc, L, S, K, H) := by
  obtain ⟨x, r, rfl, h1⟩ := xu1_inv h
  refine XPP.inn hpc fun ad ls Hp locs cells slots hr => ?_
  obtain ⟨hx0, hr2⟩ := xok_1 hr.2.2.1
  have hI := xw_I (hx0.1 rfl)
  dsimp only at hI
  obtain ⟨t, g1, g2⟩ := xlko_spec (f := fun t => (t, L, r, K, H)) hdf _ _ ht h1
  exact lv_lookup hx hb hd hp rfl (tgt := xrp t) (by rw [hI]; exact g1) (XPP.go g2 rfl (hr.st hr2))
theorem xs_ldcI (hx : p.tables.exec = Jvm.exec) (hb : c.code = cc) {pc n : Nat} {L : XL} {S : List XV} {K : XW} {H : XH} (hpc : xrp pc = pc) {own : String} {idx : Nat} {v : Int} (hown : s.vm.findClass own = some m.cls) (hcst : (Jvm.Cond.constant own idx (Int32.ofInt v)).before args s = true) (hv : xI v) (hd : decode cc pc = .ok (.ldc idx, 2)) (hn : xrp n = pc + 2)
    (h : XPP p l e R s m args below meth c Z nL N0 D dA z A (n, L, (0, v) :: S, K, H)) : XPP p l e R s m args below meth c Z nL N0 D dA z A (pc, L, S, K, H) := by
  refine XPP.inn hpc fun ad ls Hp locs cells slots hr => ?_
  refine W.ldc hx hb hown hcst rfl hd ?_
  exact XPP.go h hn (hr.st (xok_cons (xok_i hv) hr.2.2.1))
theorem xs_ldcwI (hx : p.tables.exec = Jvm.exec) (hb : c.code = cc) {pc n : Nat} {L : XL} {S : List XV} {K : XW} {H : XH} (hpc : xrp pc = pc) {own : String} {idx : Nat} {v : Int} (hown : s.vm.findClass own = some m.cls) (hcst : (Jvm.Cond.constant own idx (Int32.ofInt v)).before args s = true) (hv : xI v) (hd : decode cc pc = .ok (.ldc_w idx, 3)) (hn : xrp n = pc + 3)
    (h : XPP p l e R s m args below meth c Z nL N0 D dA z A (n, L, (0, v) :: S, K, H)) : XPP p l e R s m args below meth c Z nL N0 D dA z A (pc, L, S, K, H) := by
  refine XPP.inn hpc fun ad ls Hp locs cells slots hr => ?_
  refine lv_ldcw hx hb hown hcst hd ?_
  exact XPP.go h hn (hr.st (xok_cons (xok_i hv) hr.2.2.1))
theorem xs_ldc2 (hx : p.tables.exec = Jvm.exec) (hb : c.code = cc) {pc n : Nat} {L : XL} {S : List XV} {K : XW} {H : XH} (hpc : xrp pc = pc) {own : String} {idx : Nat} {v : Int} (hown : s.vm.findClass own = some m.cls) (hcst : (Jvm.Cond.constantLong own idx (Int64.ofInt v)).before args s = true) (hv : xJ v) (hd : decode cc pc = .ok (.ldc2_w idx, 3)) (hn : xrp n = pc + 3)
    (h : XPP p l e R s m args below meth c Z nL N0 D dA z A (n, L, (1, v) :: S, K, H)) : XPP p l e R s m args below meth c Z nL N0 D dA z A (pc, L, S, K, H) := by
  refine XPP.inn hpc fun ad ls Hp locs cells slots hr => ?_
  refine W.ldc2 hx hb hown hcst rfl hd ?_
  exact XPP.go h hn (hr.st (xok_cons (xok_l hv) hr.2.2.1))
theorem xs_ldcS (hx : p.tables.exec = Jvm.exec) (hb : c.code = cc) {pc n : Nat} {L : XL} {S : List XV} {K : XW} {H : XH} (hpc : xrp pc = pc) {own tx : String} {idx k : Nat} (hown : s.vm.findClass own = some m.cls) (hk : k < 2) (hR : vk_R own idx tx (z.1 k) s) (hd : decode cc pc = .ok (.ldc idx, 2)) (hn : xrp n = pc + 2)
    (h : XPP p l e R s m args below meth c Z nL N0 D dA z A (n, L, (3, (k : Int)) :: S, K, H)) : XPP p l e R s m args below meth c Z nL N0 D dA z A (pc, L, S, K, H) := by
  refine XPP.inn hpc fun ad ls Hp locs cells slots hr => ?_
  refine va_ldcS hx hb hown hR hd ?_
  exact XPP.go h hn (hr.st (xok_cons ⟨fun e => (by cases e), fun e => (by cases e), fun e => (by cases e), fun _ => (by simpa using hk)⟩ hr.2.2.1))
theorem xs_gets (hx : p.tables.exec = Jvm.exec) (hb : c.code = cc) {pc n : Nat} {L : XL} {S : List XV} {K : XW} {H : XH} (hpc : xrp pc = pc) {own cn nm ds : String} {idx : Nat} {v : Value} {w : XV} (hown : s.vm.findClass own = some m.cls) (hlink : (Cond.fieldLink own idx cn nm ds).before args s = true) (hZ : va_Z cn nm ds v A s s.heap) (hw : ∀ ad, xv (ad, z) w = v) (hok : ∀ n, xokv n w) (hd : decode cc pc = .ok (.getstatic idx, 3)) (hn : xrp n = pc + 3)
    (h : XPP p l e R s m args below meth c Z nL N0 D dA z A (n, L, w :: S, K, H)) : XPP p l e R s m args below meth c Z nL N0 D dA z A (pc, L, S, K, H) := by
  refine XPP.inn hpc fun ad ls Hp locs cells slots hr => ?_
  refine va_gets hx hb hZ hr.2.2.2.2.2.2.1 hown hlink (fun _ h => h) hd ?_
  have k := XPP.go h hn (hr.st (xok_cons (hok _) hr.2.2.1))
  rw [List.map_cons, hw ad] at k
  exact k
end XS
