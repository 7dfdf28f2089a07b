/-! SOUNDNESS 9: what is checked of the program by the kernel, once -/
def xCl (ci : Nat) : vw_C := vwCl.getD ci (RX0, TX0, 8)
def xNm (y : Nat) : MethodName × ByteArray × Nat × Option FieldType × Nat := xMN.getD y (Lib.objectInit, code, 0, none, 0)
/-- a word is there, by its place -/
def xtb (k : Nat) : List Jvm.Cond := match k with
  | 0 => k2_sels lw_privs
  | 1 => tables_1_1
  | 2 => tables_1_2
  | 3 => tables_1_3
  | 4 => tables_1_4
  | 5 => tables_1_5
  | 6 => tables_1_6
  | 7 => tables_1_7
  | 8 => tables_1_8
  | _ => []
theorem xtb_in {k : Nat} {w : Jvm.Cond} (h : w ∈ xtb k) : w ∈ lw_tbl := by
  unfold lw_tbl tables_1
  simp only [List.mem_append]
  match k, h with
  | 0, h => exact Or.inl h
  | 1, h => exact Or.inr (Or.inl h)
  | 2, h => exact Or.inr (Or.inr (Or.inl h))
  | 3, h => exact Or.inr (Or.inr (Or.inr (Or.inl h)))
  | 4, h => exact Or.inr (Or.inr (Or.inr (Or.inr (Or.inl h))))
  | 5, h => exact Or.inr (Or.inr (Or.inr (Or.inr (Or.inr (Or.inl h)))))
  | 6, h => exact Or.inr (Or.inr (Or.inr (Or.inr (Or.inr (Or.inr (Or.inl h))))))
  | 7, h => exact Or.inr (Or.inr (Or.inr (Or.inr (Or.inr (Or.inr (Or.inr (Or.inl h)))))))
  | 8, h => exact Or.inr (Or.inr (Or.inr (Or.inr (Or.inr (Or.inr (Or.inr (Or.inr h)))))))
  | k + 9, h => cases h
def xat0 (i : Nat) (w : Jvm.Cond) : Bool := decide ((xtb (i / 1000))[i % 1000]? = some w)
def xat (i : Nat) (w : Jvm.Cond) : Bool := xat0 i w && goodWord w
theorem xat0_in {i : Nat} {w : Jvm.Cond} (h : xat0 i w = true) : w ∈ lw_tbl := xtb_in (List.mem_of_getElem? (of_decide_eq_true h))
theorem xat_in {i : Nat} {w : Jvm.Cond} (h : xat i w = true) : w ∈ wsG := by
  obtain ⟨h1, h2⟩ := Bool.and_eq_true_iff.mp h
  exact List.mem_filter.mpr ⟨xat0_in h1, h2⟩
theorem xin_in {w : Jvm.Cond} (h : (decide (w ∈ lw_tbl) && goodWord w) = true) : w ∈ wsG := by
  obtain ⟨h1, h2⟩ := Bool.and_eq_true_iff.mp h
  exact List.mem_filter.mpr ⟨of_decide_eq_true h1, h2⟩
/-- rows of fields -/
theorem xFL_ok : xFL.all (fun e => xat e.1 (.fieldLink e.2.1 e.2.2.1 ((xCl e.2.2.2.1).2.1 e.2.2.2.2).1 ((xCl e.2.2.2.1).2.1 e.2.2.2.2).2.1 ((xCl e.2.2.2.1).2.1 e.2.2.2.2).2.2.1) && (decide (e.2.2.2.1 < 13) && decide (e.2.2.2.2 < (xCl e.2.2.2.1).2.2))) = true := by decide +kernel
def xpar (y : Nat) : Option Nat := (parseMethodDescriptor (xNm y).1.desc).map fun d => d.parameters.length
/-- rows of calls: (kind, own, idx, y, places) -/
noncomputable def xrowok (r : Nat × String × Nat × Nat × Nat × Nat × Nat × Nat) : Bool := match r with
  | (k, own, idx, y, p1, p2, p3, p4) =>
    decide (y < 265) && (xat p3 (.initialized (xNm y).1.cls) && (match k with
    | 0 => xat p1 (.methodLink own idx (xNm y).1) && (xat p2 (.instanceMethod (xNm y).1) && (xat p4 (.selects (xNm y).1.cls (xNm y).1 (xNm y).1) && ((decide ((xMI y).2.1 < 13) && decide ((xCl (xMI y).2.1).1 = (xNm y).1.cls)) || (decide ((xMI y).2.1 = 100) && decide ((xNm y).1.cls = "java/lang/String")))))
    | 1 => xat p1 (.methodLink own idx (xNm y).1) && xat p2 (.static (xNm y).1)
    | 2 => xat0 p1 (.methodLinkNest own idx (xNm y).1 "MudBoot") && xat p2 (.static (xNm y).1)
    | 3 => xat p1 (.methodLink own idx (xNm y).1) && (xat p2 (.instanceMethod (xNm y).1) && (decide ((xNm y).1.name = "<init>") && decide ((xMI y).2.1 < 13)))
    | _ => false))
theorem xML_0 : ((xML.drop 0).take 40).all xrowok = true := by decide +kernel
theorem xML_1 : ((xML.drop 40).take 40).all xrowok = true := by decide +kernel
theorem xML_2 : ((xML.drop 80).take 40).all xrowok = true := by decide +kernel
theorem xML_3 : ((xML.drop 120).take 40).all xrowok = true := by decide +kernel
theorem xML_4 : ((xML.drop 160).take 40).all xrowok = true := by decide +kernel
theorem xML_5 : ((xML.drop 200).take 40).all xrowok = true := by decide +kernel
theorem xML_6 : ((xML.drop 240).take 40).all xrowok = true := by decide +kernel
theorem xML_7 : ((xML.drop 280).take 40).all xrowok = true := by decide +kernel
theorem xML_ok : xML.all xrowok = true := by
  have h : ∀ (l : List (Nat × String × Nat × Nat × Nat × Nat × Nat × Nat)) (n : Nat), (l.take n).all xrowok = true → (l.drop n).all xrowok = true → l.all xrowok = true := fun l n h1 h2 => by
    rw [← List.take_append_drop n l, List.all_append, h1, h2]; rfl
  have e : (xML.drop 320).all xrowok = true := by decide +kernel
  have d : ∀ a b : Nat, (xML.drop a).drop b = xML.drop (a + b) := fun a b => List.drop_drop
  refine h _ 40 xML_0 (h _ 40 ?_ ?_)
  · exact xML_1
  refine h _ 40 (by rw [d]; exact xML_2) (h _ 40 (by rw [d, d]; exact xML_3) (h _ 40 (by rw [d, d, d]; exact xML_4) (h _ 40 (by rw [d, d, d, d]; exact xML_5) (h _ 40 (by rw [d, d, d, d, d]; exact xML_6) (h _ 40 (by rw [d, d, d, d, d, d]; exact xML_7) (by rw [d, d, d, d, d, d, d]; exact e))))))
/-- lengths -/
def xil (i : Instr) : Nat := match i with
  | .bipush _ => 2
  | .ldc _ => 2
  | .iload _ => 2
  | .lload _ => 2
  | .aload _ => 2
  | .istore _ => 2
  | .lstore _ => 2
  | .astore _ => 2
  | .newarray _ => 2
  | .sipush _ => 3
  | .ldc_w _ => 3
  | .ldc2_w _ => 3
  | .getstatic _ => 3
  | .iinc _ _ => 3
  | .ifCond _ _ => 3
  | .if_icmp _ _ => 3
  | .ifnull _ => 3
  | .goto _ => 3
  | .getfield _ => 3
  | .putfield _ => 3
  | .new _ => 3
  | .invokevirtual _ => 3
  | .invokestatic _ => 3
  | .invokespecial _ => 3
  | _ => 1
noncomputable def xcki (own : String) (pc : Nat) (idx r1 r2 : Nat) (tl : List (Int × Nat)) (op : Nat) : Bool :=
  match tl with
  | (row, _) :: _ =>
    bif Nat.beq r1 999 then Nat.beq op 3 && xat row.toNat (.methodLink own idx Lib.objectInit)
    else bif Nat.beq r1 998 then Nat.beq op 1 && xat row.toNat (.methodLink own idx arraycopyName)
    else (match xML[row.toNat]? with
      | some (k, own', idx', y, _) => decide (own' = own) && (Nat.beq idx' idx && (Nat.beq y r1 && (decide ((if k = 2 then 1 else k) = op) && decide (xpar y = some (bif Nat.beq op 1 then r2 else r2 - 1)))))
      | none => false)
  | [] => decide (265 < r1 ∧ ¬ r1 = 998 ∧ ¬ r1 = 999)
noncomputable def xchk (own : String) (init : Bool) (nL : Nat) (cc : ByteArray) (pc : Nat) (i : XI) : Bool :=
  match i with
  | (ins, n, r1, r2, tl) =>
  match ins with
  | .athrow => true
  | .nop => Nat.ble 100000 pc && (Nat.beq n (pc - 100000) && Nat.blt n 100000)
  | .tableswitch df lo hi offs => Nat.blt pc 100000 && ((match decode cc pc with
      | .ok (i', _) => decide (i' = .tableswitch df lo hi offs)
      | _ => false) && (decide ((pc : Int) + df = (xrp r1 : Int)) && (Nat.beq tl.length offs.size && (decide (hi = lo + offs.size - 1) && (List.range tl.length).all fun j => match tl[j]?, offs[j]? with
        | some (k, r), some o => decide (k = lo + j) && decide ((pc : Int) + o = (xrp r : Int))
        | _, _ => false))))
  | .lookupswitch df ps => Nat.blt pc 100000 && ((match decode cc pc with
      | .ok (i', _) => decide (i' = .lookupswitch df ps)
      | _ => false) && (decide ((pc : Int) + df = (xrp r1 : Int)) && ((ps.toList.zip (ps.toList.drop 1)).all (fun (a, next) => a.1 < next.1) && xlko pc ps.toList tl)))
  | ins => Nat.blt pc 100000 && (decide (decode cc pc = .ok (ins, xil ins)) && (Nat.beq (xrp n) (pc + xil ins) && (match ins with
    | .iconst c => decide (-2147483648 ≤ c ∧ c ≤ 2147483647)
    | .bipush c => decide (-128 ≤ c ∧ c ≤ 127)
    | .sipush c => decide (-32768 ≤ c ∧ c ≤ 32767)
    | .istore k => Nat.blt k nL
    | .istore_n k => Nat.blt k nL
    | .astore k => Nat.blt k nL
    | .astore_n k => Nat.blt k nL
    | .lstore k => Nat.blt (k + 1) nL
    | .lstore_n k => Nat.blt (k + 1) nL
    | .iinc k _ => Nat.blt k nL
    | .ifCond _ off => decide ((pc : Int) + off = (xrp r1 : Int))
    | .if_icmp _ off => decide ((pc : Int) + off = (xrp r1 : Int))
    | .ifnull off => decide ((pc : Int) + off = (xrp r1 : Int))
    | .goto off => decide ((pc : Int) + off = (xrp r1 : Int))
    | .ldc idx => (match tl with
      | (v, q) :: _ => bif Nat.beq r1 0 then xat q (.constant own idx (Int32.ofInt v)) && decide (-2147483648 ≤ v ∧ v ≤ 2147483647) else decide (own = "MudBoot$Laws") && ((Nat.beq q 0 && Nat.beq idx 108) || (Nat.beq q 1 && Nat.beq idx 101))
      | [] => true)
    | .ldc_w idx => (match tl with
      | (v, q) :: _ => xat q (.constant own idx (Int32.ofInt v)) && decide (-2147483648 ≤ v ∧ v ≤ 2147483647)
      | [] => true)
    | .ldc2_w idx => (match tl with
      | (v, q) :: _ => xat q (.constantLong own idx (Int64.ofInt v)) && decide (-9223372036854775808 ≤ v ∧ v ≤ 9223372036854775807)
      | [] => true)
    | .getstatic idx => (match tl with
      | (v, q) :: _ => bif Nat.beq r1 0 then xat q (.fieldLink own idx "java/lang/String" "COMPACT_STRINGS" "Z") && decide (v = 1) else xat q (.fieldLink own idx "jdk/internal/util/Preconditions" "SIOOBE_FORMATTER" "Ljava/util/function/BiFunction;")
      | [] => true)
    | .getfield idx => (match tl with
      | (row, _) :: _ => bif Nat.beq r1 100 then decide (own = "java/lang/String") && ((Nat.beq r2 0 && xat row.toNat (.fieldLink own idx "java/lang/String" "coder" "B")) || (Nat.beq r2 1 && xat row.toNat (.fieldLink own idx "java/lang/String" "value" "[B"))) else (match xFL[row.toNat]? with
        | some (_, own', idx', ci, k) => decide (own' = own) && (Nat.beq idx' idx && (Nat.beq ci r1 && Nat.beq k r2))
        | none => false)
      | [] => false)
    | .putfield idx => (match tl with
      | (row, _) :: _ => (match xFL[row.toNat]? with
        | some (_, own', idx', ci, k) => decide (own' = own) && (Nat.beq idx' idx && (Nat.beq ci r1 && (Nat.beq k r2 && (!(((xCl ci).2.1 k).2.2.2) || (init && decide (((xCl ci).2.1 k).1 = own))))))
        | none => false)
      | [] => false)
    | .newarray t => (match t with
      | .int => Nat.beq r1 1
      | .long => Nat.beq r1 2
      | .byte => Nat.beq r1 3
      | .boolean => Nat.beq r1 4
      | .char => Nat.beq r1 5
      | _ => false)
    | .new idx => (match tl with
      | (q, _) :: _ => Nat.blt r1 13 && xat q.toNat (.classLink own idx (xCl r1).1)
      | [] => false)
    | .invokevirtual idx => xcki own pc idx r1 r2 tl 0
    | .invokestatic idx => xcki own pc idx r1 r2 tl 1
    | .invokespecial idx => xcki own pc idx r1 r2 tl 3
    | _ => true)))
/-- a method's whole body -/
noncomputable def xbody (y : Nat) (S : Nat) (f : Nat → XI) : Bool := (List.range S).all (fun pc => xchk (xNm y).1.cls (decide ((xNm y).1.name = "<init>")) (xNm y).2.2.1 (xNm y).2.1 pc (f pc)) && (List.range S).all (fun pc => xchk (xNm y).1.cls (decide ((xNm y).1.name = "<init>")) (xNm y).2.2.1 (xNm y).2.1 (100000 + pc) (f (100000 + pc)))
theorem xbody_all {y S : Nat} {lo hi : Nat → XI} (hS : S < 90000) (h : xbody y S (xgd S lo hi) = true) (pc : Nat) : xchk (xNm y).1.cls (decide ((xNm y).1.name = "<init>")) (xNm y).2.2.1 (xNm y).2.1 pc (xgd S lo hi pc) = true := by
  obtain ⟨h1, h2⟩ := Bool.and_eq_true_iff.mp h
  by_cases a : pc < S
  · exact List.all_eq_true.mp h1 pc (List.mem_range.mpr a)
  · have e1 : Nat.blt pc S = false := Bool.eq_false_iff.mpr fun q => a (Nat.le_of_ble_eq_true q)
    by_cases b : pc < 100000
    · have e2 : Nat.blt pc 100000 = true := Nat.ble_eq_true_of_le b
      have : xgd S lo hi pc = xbad := by unfold xgd; rw [e1, e2]; rfl
      rw [this]
      rfl
    · have e2 : Nat.blt pc 100000 = false := Bool.eq_false_iff.mpr fun q => b (Nat.le_of_ble_eq_true q)
      by_cases d : pc < 100000 + S
      · have := List.all_eq_true.mp h2 (pc - 100000) (List.mem_range.mpr (by omega))
        rw [show 100000 + (pc - 100000) = pc by omega] at this
        exact this
      · have e3 : Nat.blt pc (100000 + S) = false := Bool.eq_false_iff.mpr fun q => d (Nat.le_of_ble_eq_true q)
        have : xgd S lo hi pc = xbad := by unfold xgd; rw [e1, e2, e3]; rfl
        rw [this]
        rfl
/-- what a method's row must be -/
noncomputable def xmthb (y : Nat) : Bool := decide ((xNm y).1.cls ≠ "java/lang/invoke/MethodHandle") && (decide ((xNm y).1.cls ≠ "java/lang/invoke/VarHandle") && (plainFor (xNm y).1 && (Nat.ble (xNm y).2.2.1 25 && (Nat.beq (xMI y).1 (xMC y).2.1 && (match (xMC y).2.1 with
  | 0 => decide ((xNm y).2.2.2.1 = some .int)
  | 1 => decide ((xNm y).2.2.2.1 = some .long)
  | 2 => decide ((xNm y).2.2.2.1 = none)
  | 3 => decide ((xNm y).2.2.2.1 = some .boolean)
  | 4 => decide ((xNm y).2.2.2.1 = some .byte)
  | 5 => decide ((xNm y).2.2.2.1 = some .char)
  | _ => false)))))
theorem xmth_0 : (((List.range 265).drop 0).take 40).all xmthb = true := by decide +kernel
theorem xmth_1 : (((List.range 265).drop 40).take 40).all xmthb = true := by decide +kernel
theorem xmth_2 : (((List.range 265).drop 80).take 40).all xmthb = true := by decide +kernel
theorem xmth_3 : (((List.range 265).drop 120).take 40).all xmthb = true := by decide +kernel
theorem xmth_4 : (((List.range 265).drop 160).take 40).all xmthb = true := by decide +kernel
theorem xmth_5 : (((List.range 265).drop 200).take 40).all xmthb = true := by decide +kernel
theorem xmth_6 : (((List.range 265).drop 240).take 40).all xmthb = true := by decide +kernel
theorem xmth_ok : ∀ y, y < 265 → xmthb y = true := by
  have h : ∀ k : Nat, k < 7 → (((List.range 265).drop (40 * k)).take 40).all xmthb = true := by
    intro k hk
    match k, hk with
    | 0, _ => exact xmth_0
    | 1, _ => exact xmth_1
    | 2, _ => exact xmth_2
    | 3, _ => exact xmth_3
    | 4, _ => exact xmth_4
    | 5, _ => exact xmth_5
    | 6, _ => exact xmth_6
  intro y hy
  refine List.all_eq_true.mp (h (y / 40) (by omega)) y ?_
  refine List.mem_of_getElem? (i := y % 40) ?_
  rw [List.getElem?_take_of_lt (by omega), List.getElem?_drop, List.getElem?_range (by omega)]
  congr 1
  omega
/-- the classes -/
theorem xcl_ok : ∀ ci, ci < 13 → ∃ ty0 : Nat → FieldType, vwCl[ci]? = some (xCl ci) ∧ (xTT.getD ci []).length = (xCl ci).2.2 ∧ (∀ w ∈ u_ws (xCl ci).1 (xCl ci).2.1 (xCl ci).2.2, w ∈ wsG) ∧ (∀ k, k < (xCl ci).2.2 → parseFieldDescriptor ((xCl ci).2.1 k).2.2.1 = some (ty0 k)) ∧ (∀ a, a < (xCl ci).2.2 → ∀ b, b < (xCl ci).2.2 → a ≠ b → ((xCl ci).2.1 a).2.1 ≠ ((xCl ci).2.1 b).2.1) ∧ (∀ k, k < (xCl ci).2.2 → ((xsl xTT ci k = 0 → ty0 k = .int) ∧ (xsl xTT ci k = 1 → ty0 k = .boolean) ∧ (xsl xTT ci k = 2 ∨ xsl xTT ci k = 3 → (ty0 k).isReference = true)) ∧ (xsl xTT ci k = 0 ∨ xsl xTT ci k = 1 ∨ xsl xTT ci k = 2 ∨ xsl xTT ci k = 3)) ∧ Cond.instantiable (xCl ci).1 (xCl ci).2.2 ∈ wsG ∧ Cond.initialized (xCl ci).1 ∈ wsG := by
  intro ci h
  match ci, h with
  | 0, _ => exact ⟨tyX0, rfl, by decide +kernel, fun w hw => List.mem_filter.mpr (inX0 w hw), tyX0_ok, nmX0, by decide +kernel, xin_in (by decide +kernel), xin_in (by decide +kernel)⟩
  | 1, _ => exact ⟨tyX1, rfl, by decide +kernel, fun w hw => List.mem_filter.mpr (inX1 w hw), tyX1_ok, nmX1, by decide +kernel, xin_in (by decide +kernel), xin_in (by decide +kernel)⟩
  | 2, _ => exact ⟨tyX2, rfl, by decide +kernel, fun w hw => List.mem_filter.mpr (inX2 w hw), tyX2_ok, nmX2, by decide +kernel, xin_in (by decide +kernel), xin_in (by decide +kernel)⟩
  | 3, _ => exact ⟨tyX3, rfl, by decide +kernel, fun w hw => List.mem_filter.mpr (inX3 w hw), tyX3_ok, nmX3, by decide +kernel, xin_in (by decide +kernel), xin_in (by decide +kernel)⟩
  | 4, _ => exact ⟨tyX4, rfl, by decide +kernel, fun w hw => List.mem_filter.mpr (inX4 w hw), tyX4_ok, nmX4, by decide +kernel, xin_in (by decide +kernel), xin_in (by decide +kernel)⟩
  | 5, _ => exact ⟨tyX5, rfl, by decide +kernel, fun w hw => List.mem_filter.mpr (inX5 w hw), tyX5_ok, nmX5, by decide +kernel, xin_in (by decide +kernel), xin_in (by decide +kernel)⟩
  | 6, _ => exact ⟨tyX6, rfl, by decide +kernel, fun w hw => List.mem_filter.mpr (inX6 w hw), tyX6_ok, nmX6, by decide +kernel, xin_in (by decide +kernel), xin_in (by decide +kernel)⟩
  | 7, _ => exact ⟨tyX7, rfl, by decide +kernel, fun w hw => List.mem_filter.mpr (inX7 w hw), tyX7_ok, nmX7, by decide +kernel, xin_in (by decide +kernel), xin_in (by decide +kernel)⟩
  | 8, _ => exact ⟨tyX8, rfl, by decide +kernel, fun w hw => List.mem_filter.mpr (inX8 w hw), tyX8_ok, nmX8, by decide +kernel, xin_in (by decide +kernel), xin_in (by decide +kernel)⟩
  | 9, _ => exact ⟨tyX9, rfl, by decide +kernel, fun w hw => List.mem_filter.mpr (inX9 w hw), tyX9_ok, nmX9, by decide +kernel, xin_in (by decide +kernel), xin_in (by decide +kernel)⟩
  | 10, _ => exact ⟨tyX10, rfl, by decide +kernel, fun w hw => List.mem_filter.mpr (inX10 w hw), tyX10_ok, nmX10, by decide +kernel, xin_in (by decide +kernel), xin_in (by decide +kernel)⟩
  | 11, _ => exact ⟨tyX11, rfl, by decide +kernel, fun w hw => List.mem_filter.mpr (inX11 w hw), tyX11_ok, nmX11, by decide +kernel, xin_in (by decide +kernel), xin_in (by decide +kernel)⟩
  | 12, _ => exact ⟨tyX12, rfl, by decide +kernel, fun w hw => List.mem_filter.mpr (inX12 w hw), tyX12_ok, nmX12, by decide +kernel, xin_in (by decide +kernel), xin_in (by decide +kernel)⟩
theorem xarr_ok : ∀ t : FieldType, (t = .int ∨ t = .long ∨ t = .byte ∨ t = .boolean ∨ t = .char) → Cond.arrayClass t ∈ wsG := by
  intro t ht
  rcases ht with rfl | rfl | rfl | rfl | rfl <;> exact xin_in (by decide +kernel)
theorem xobj_ok : Cond.instanceMethod Lib.objectInit ∈ wsG ∧ Cond.code Lib.objectInit ⟨#[0xb1]⟩ 1 none ∈ wsG ∧ Cond.native arraycopyName ∈ wsG ∧ Cond.static arraycopyName ∈ wsG ∧ Cond.initialized "java/lang/System" ∈ wsG := ⟨xin_in (by decide +kernel), xin_in (by decide +kernel), xin_in (by decide +kernel), xin_in (by decide +kernel), xin_in (by decide +kernel)⟩
