/-! THE LAW, out of one statement of the X machine -/
def xtm (i : Nat) : Jvm.Term := if i = 0 then .string "MudBoot$Laws" 108 else .string "MudBoot$Laws" 101
theorem xstrings {args : Array Value} {s : State} {A : Nat → Prop} (hg : (Jvm.Cond.and given_1 narrow_1).before args s = true) (hA : ∀ a : Nat, a < s.heap.size → ¬ A a) :
    ∃ adK adV : Nat → Nat, vk_S 2 [87, 11] [xbyt 0, xbyt 1] adK adV A s s.heap ∧ ∀ i : Nat, i < 2 → (xtm i).eval args s none [] s = some (.ref (adK i)) := by
  have hs := flat_of_before _ hg
  have c2 : ∀ {P : Nat → Prop}, P 0 → P 1 → ∀ i, i < 2 → P i := fun h0 h1 i hi => by
    rcases (show i = 0 ∨ i = 1 by omega) with rfl | rfl
    · exact h0
    · exact h1
  refine vk_Sof (tm := xtm) (c2 (by decide) (by decide)) (c2 (hs _ (by decide +kernel)) (hs _ (by decide +kernel))) (c2 (hs _ (by decide +kernel)) (hs _ (by decide +kernel))) (c2 (hs _ (by decide +kernel)) (hs _ (by decide +kernel))) (c2 (hs _ (by decide +kernel)) (hs _ (by decide +kernel))) ?_ ?_ hA
  · have h0 : ∀ j, j < 87 → Cond.eq (.elem (.field (xtm 0) "java/lang/String" "value" "[B") (.int (Int32.ofNat j))) (.int ((xbyt 0).getD j 0)) ∈ flatC (Jvm.Cond.and given_1 narrow_1) := by decide +kernel
    have h1 : ∀ j, j < 11 → Cond.eq (.elem (.field (xtm 1) "java/lang/String" "value" "[B") (.int (Int32.ofNat j))) (.int ((xbyt 1).getD j 0)) ∈ flatC (Jvm.Cond.and given_1 narrow_1) := by decide +kernel
    exact c2 (fun j hj => hs _ (h0 j hj)) (fun j hj => hs _ (h1 j hj))
  · intro i j hi hj hij
    rcases (show i = 0 ∨ i = 1 by omega) with rfl | rfl <;> rcases (show j = 0 ∨ j = 1 by omega) with rfl | rfl
    · exact absurd rfl hij
    · first | exact Or.inl (hs _ (by decide +kernel)) | exact Or.inr (hs _ (by decide +kernel))
    · first | exact Or.inl (hs _ (by decide +kernel)) | exact Or.inr (hs _ (by decide +kernel))
    · exact absurd rfl hij
/-- what a law's run on a script of L ints owes -/
def xLawOk (d : Nat) (L : Nat) (xs : Nat → Int32) : Prop := xWB (((L : Int), fun i => (xs i.toNat).toInt), xTT, xSL, xMI) (xWM (((L : Int), fun i => (xs i.toNat).toInt), xTT, xSL, xMI) xMC d) (xMC 265).1 3 (fun r _ _ => r = 1) (100000, [(0, (4, 0))], [], ([], 600000, 7302250), fun _ _ => 0)
set_option maxHeartbeats 2000000 in
theorem xlaw_start (hcode : ∀ y, y < 265 → Jvm.Cond.code (xNm y).1 (xNm y).2.1 (xNm y).2.2.1 (xNm y).2.2.2.1 ∈ wsG) (hbody : ∀ y, y < 266 → ∀ pc, xchk (xNm y).1.cls (decide ((xNm y).1.name = "<init>")) (xNm y).2.2.1 (xNm y).2.1 pc ((xMC y).1 pc) = true) (hmax : ∀ y, y < 265 → (xMC y).2.2 = (xNm y).2.2.1) (d : Nat) (hd : d ≤ 1000) (hpure : ∀ (L : Nat) (xs : Nat → Int32), L ≤ 3586 → xLawOk d L xs)
    {p : Program} {e : Env} {s : State} {m : MethodId} {below : List Frame} {meth : Method} {c : Code} (l : Launch) (hflags : l.flags = flags0) {b L : Nat} {xs : Nat → Int32} (hL : L ≤ 3586) (C0 : lw_At p s m meth c b L xs) : W p l e room_1 s m #[Value.ref b] below meth c s.heap [] 0 0 (lw_Z below #[Value.ref b] s) (entryFrame m ([Value.ref b] : List Value).toArray 4) := by
  obtain ⟨hx, hb, hr, hml, hown, hts, hX, hbl, hlocks, hgv⟩ := id C0
  have hA : ∀ q : Nat, s.heap.size ≤ q → (fun q : Nat => s.heap.size ≤ q) q := fun _ h => h
  have hnA : ∀ a : Nat, a < s.heap.size → ¬ (fun q : Nat => s.heap.size ≤ q) a := fun a h => Nat.not_le.mpr h
  have htG : ∀ w ∈ wsG, w.before #[Value.ref b] s = true := fun w hw => hts w (List.mem_filter.mp hw).1
  have hs := flat_of_before _ hgv
  -- the classes
  have hcls : ∀ ci, ∃ (cC : ClassId) (iS : Nat → Nat), ci < 13 → u_Kn s (xCl ci).1 (xCl ci).2.1 (xCl ci).2.2 cC iS := by
    intro ci
    by_cases h : ci < 13
    · obtain ⟨ty0, c1, c2, c3, c4, c5, c6, c7, c8⟩ := xcl_ok ci h
      obtain ⟨cC, iS, hk⟩ := u_known (args := #[Value.ref b]) htG c3 (htG _ c7)
      exact ⟨cC, iS, fun _ => hk⟩
    · exact ⟨0, fun _ => 0, fun q => absurd q h⟩
  obtain ⟨dC, hcls⟩ := Classical.axiomOfChoice hcls
  obtain ⟨dI, hcls⟩ := Classical.axiomOfChoice hcls
  -- the arrays
  have harr : ∀ t : FieldType, ∃ cA : ClassId, (t = .int ∨ t = .long ∨ t = .byte ∨ t = .boolean ∨ t = .char) → ArrOfT s cA t ∧ va_RA s cA t := by
    intro t
    by_cases h : (t = .int ∨ t = .long ∨ t = .byte ∨ t = .boolean ∨ t = .char)
    · obtain ⟨cA, kA, comp, h1, h2, h3⟩ := Cond.arrayClass_spec (htG _ (xarr_ok t h))
      refine ⟨cA, fun _ => ⟨fun n z => ⟨fun k h => (by cases h), kA, h2, comp, h3⟩, ?_⟩⟩
      rcases h with rfl | rfl | rfl | rfl | rfl <;> exact h1
    · exact ⟨0, fun q => absurd q h⟩
  obtain ⟨dT, harr⟩ := Classical.axiomOfChoice harr
  have hK : va_K (dC, dI) vwCl (xtys (fun k => if k = 1 then dT .int else if k = 2 then dT .long else if k = 3 then dT .byte else if k = 4 then dT .boolean else dT .char)) s := by
    refine ⟨fun k q hq => ?_, fun k q hq => ?_⟩
    · have hk : k < 13 := (List.getElem?_eq_some_iff.mp hq).1
      have := hcls k hk
      obtain ⟨ty0, c1, -⟩ := xcl_ok k hk
      cases c1.symm.trans hq
      exact this
    · have hk : k < 5 := (List.getElem?_eq_some_iff.mp hq).1
      match k, hk, hq with
      | 0, _, hq => cases hq; exact harr .int (by simp)
      | 1, _, hq => cases hq; exact harr .long (by simp)
      | 2, _, hq => cases hq; exact harr .byte (by simp)
      | 3, _, hq => cases hq; exact harr .boolean (by simp)
      | 4, _, hq => cases hq; exact harr .char (by simp)
  obtain ⟨adK, adV, hS, hSt⟩ := xstrings hgv hnA
  have hst1 := va_Zof (A := fun q : Nat => s.heap.size ≤ q) (C := "java/lang/String") (n := "COMPACT_STRINGS") (d := "Z") (v := .int 1) (hts _ (by decide +kernel)) (hts _ (by decide +kernel)) (va_eqt (hs _ (by decide +kernel))) hnA
  have hst2 := va_Zqof (A := fun q : Nat => s.heap.size ≤ q) (C := "jdk/internal/util/Preconditions") (n := "SIOOBE_FORMATTER") (d := "Ljava/util/function/BiFunction;") (hts _ (by decide +kernel)) (hts _ (by decide +kernel)) (hs _ (by decide +kernel)) hnA
  obtain ⟨vF, hvF, hZF⟩ : ∃ vF : Value, (∃ q, vF = .null ∨ vF = .ref q) ∧ va_Z "jdk/internal/util/Preconditions" "SIOOBE_FORMATTER" "Ljava/util/function/BiFunction;" vF (fun q : Nat => s.heap.size ≤ q) s s.heap := by
    rcases hst2 with h | ⟨t, h⟩
    · exact ⟨.null, ⟨0, Or.inl rfl⟩, h⟩
    · exact ⟨.ref t, ⟨t, Or.inr rfl⟩, h⟩
  have hzc : vF.category = 1 := by
    obtain ⟨q, h | h⟩ := hvF <;> rw [h] <;> rfl
  have hXs : va_X b ((L : Int)).toNat (fun j => Int32.ofInt ((fun i : Int => (xs i.toNat).toInt) j)) s s.heap := by
    have : (fun j : Nat => Int32.ofInt ((fun i : Int => (xs i.toNat).toInt) j)) = xs := by
      funext j
      show Int32.ofInt ((xs (j : Int).toNat).toInt) = xs j
      rw [Int32.ofInt_toInt]
      congr 1
    rw [this]
    exact hX
  have hXF : XF (dC, dI) (fun k => if k = 1 then dT .int else if k = 2 then dT .long else if k = 3 then dT .byte else if k = 4 then dT .boolean else dT .char) (adK, adV, b, vF) ((L : Int), fun i => (xs i.toNat).toInt) (fun q : Nat => s.heap.size ≤ q) s s.heap :=
    ⟨hK, fun w hw => by
      obtain ⟨w1, w2⟩ := List.mem_filter.mp hw
      obtain ⟨a, i, y, h, rfl⟩ := xnest_w w hw
      exact va_Nw.of rfl (hts _ w1), ⟨hXs, hbl, Nat.not_le.mpr hbl⟩, ⟨hS, vk_R.of (hts _ (by decide +kernel)) (hSt 0 (by omega)), vk_R.of (hts _ (by decide +kernel)) (hSt 1 (by omega))⟩, hst1, hZF, hzc⟩
  have hXX : (0 : Int) ≤ (L : Int) ∧ (L : Int) ≤ 100000 ∧ ∀ i : Int, 0 ≤ i → i < (L : Int) → xI ((fun i : Int => (xs i.toNat).toInt) i) := ⟨by omega, by omega, fun i _ _ => xw_toI _⟩
  have hC : XCall l room_1 (xWM (((L : Int), fun i => (xs i.toNat).toInt), xTT, xSL, xMI) xMC d) (dC, dI) (fun k => if k = 1 then dT .int else if k = 2 then dT .long else if k = 3 then dT .byte else if k = 4 then dT .boolean else dT .char) (adK, adV, b, vF) ((L : Int), fun i => (xs i.toNat).toInt) := by
    intro y' a' K' H' Q' ad' sz' h' hy' ha' hok'
    exact ⟨{ frames := d, cells := K'.2.1, slots := K'.2.2, locals := 48 * d }, rfl, rfl, by show d + 1 ≤ 2048; omega, by show 48 + 48 * d ≤ 84000; omega, xmet hcode (fun y hy => hbody y (by omega)) hmax l _ _ _ _ hXX hvF d y' a' K' H' Q' ad' sz' h' hy' ha' hok'⟩
  have Cx : XCx p room_1 s m #[Value.ref b] meth c code 4 "MudBootLaw" false (dC, dI) (fun k => if k = 1 then dT .int else if k = 2 then dT .long else if k = 3 then dT .byte else if k = 4 then dT .boolean else dT .char) (adK, adV, b, vF) ((L : Int), fun i => (xs i.toNat).toInt) (fun q : Nat => s.heap.size ≤ q) :=
    ⟨hx, hb, hml, hown, htG, hXF, hA, hXX, fun q => (by cases q), ⟨(by show 1 ≤ 2048; omega), (by show 40 ≤ 84000; omega)⟩, hvF⟩
  have hck : ∀ pc, xchk "MudBootLaw" false 4 code pc ((xMC 265).1 pc) = true := hbody 265 (by omega)
  have S := xsnd (p := p) (l := l) (e := e) (below := below) (Z := lw_Z below #[Value.ref b] s) (N0 := (0, fun _ => 0)) Cx hcode hC (rt := 3) (Q := fun r _ _ => r = 1)
    (fun pc L' x K' H' hpc hd' _ _ _ hq => by
      subst hq
      refine XPP.inn hpc fun ad' ls Hp locs cells slots hr' => ?_
      obtain ⟨ok0, ok1, ok2, ok3, hP', hD', hS', hcc, hss, hg0, hn0⟩ := hr'
      refine va_forget (fun q hq => hS'.2.2 q hq) ?_
      refine W.widen (k := 600000) (n := 7302250) (by have : cells + K'.2.1 = 600000 := hcc; omega) (by have : slots + K'.2.2 = 7302250 := hss; omega) ?_
      exact lw_ret hx hb hr hlocks hd')
    (fun pc L' x K' H' hpc hd' h1 hq => absurd h1 (by decide)) (fun pc L' K' H' hpc hd' h1 hq => absurd h1 (by decide)) hck (hpure L xs hL)
  rw [lg_entry_eq]
  have hl := lv_entry ([Value.ref b]) (n := 4) (Nat.le_of_ble_eq_true rfl)
  have hq4 : ∀ q ∈ ([(0, (4, 0))] : XL), xokv (([] : List XK).length : Int) q.2 := fun q hq => by
    rw [List.mem_singleton.mp hq]
    exact ⟨fun e => (by cases e), fun e => (by cases e), fun e => (by cases e), fun e => (by rcases e with e | e <;> cases e)⟩
  have k := S (fun _ => 0) _ s.heap [] 0 0 ⟨hl, hq4, fun v hv => (by cases hv), fun i hi => (by cases hi), fun k q h => (by simp [xws] at h), ⟨fun i j p q h => (by simp [xws] at h), fun k q h => (by simp [xws] at h)⟩, va_S.rf, rfl, rfl, fun _ _ => rfl, Nat.le_refl _⟩
  dsimp only at k
  rw [xrp_e] at k
  exact k
