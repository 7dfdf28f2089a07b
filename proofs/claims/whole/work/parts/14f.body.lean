/-! THE BODIES, checked by the kernel: methods 262 to 265 -/
theorem xb_262 : xbody 262 12 (xgd 12 xc262 xh262) = true := by decide +kernel
theorem xcw_262 : Cond.code (xNm 262).1 (xNm 262).2.1 (xNm 262).2.2.1 (xNm 262).2.2.2.1 ∈ wsG := List.mem_filter.mpr ⟨xtb_in (k := 8) (List.mem_of_getElem? (i := 32) rfl), rfl⟩
theorem xb_263 : xbody 263 186 (xgd 186 xc263 xh263) = true := by decide +kernel
theorem xcw_263 : Cond.code (xNm 263).1 (xNm 263).2.1 (xNm 263).2.2.1 (xNm 263).2.2.2.1 ∈ wsG := List.mem_filter.mpr ⟨xtb_in (k := 5) (List.mem_of_getElem? (i := 184) rfl), rfl⟩
theorem xb_264 : xbody 264 143 (xgd 143 xc264 xh264) = true := by decide +kernel
theorem xcw_264 : Cond.code (xNm 264).1 (xNm 264).2.1 (xNm 264).2.2.1 (xNm 264).2.2.2.1 ∈ wsG := List.mem_filter.mpr ⟨xtb_in (k := 8) (List.mem_of_getElem? (i := 36) rfl), rfl⟩
noncomputable def xbodyR (y a n : Nat) (f : Nat → XI) : Bool := (List.range n).all (fun j => xchk (xNm y).1.cls (decide ((xNm y).1.name = "<init>")) (xNm y).2.2.1 (xNm y).2.1 (a + j) (f (a + j)))
theorem xbody_of {y S : Nat} {f : Nat → XI} (hS : S ≤ 1600) (h : ∀ k, k < 16 → xbodyR y (100 * k) 100 f = true) (h2 : ∀ k, k < 16 → xbodyR y (100000 + 100 * k) 100 f = true) : xbody y S f = true := by
  unfold xbody
  rw [Bool.and_eq_true]
  refine ⟨List.all_eq_true.mpr fun pc hp => ?_, List.all_eq_true.mpr fun pc hp => ?_⟩
  · have hp := List.mem_range.mp hp
    have q := List.all_eq_true.mp (h (pc / 100) (by omega)) (pc % 100) (List.mem_range.mpr (by omega))
    rw [show 100 * (pc / 100) + pc % 100 = pc by omega] at q
    exact q
  · have hp := List.mem_range.mp hp
    have q := List.all_eq_true.mp (h2 (pc / 100) (by omega)) (pc % 100) (List.mem_range.mpr (by omega))
    rw [show 100000 + 100 * (pc / 100) + pc % 100 = 100000 + pc by omega] at q
    exact q
theorem xbr_0 : xbodyR 265 0 100 (xgd 1544 xc265 xh265) = true := by decide +kernel
theorem xbs_0 : xbodyR 265 100000 100 (xgd 1544 xc265 xh265) = true := by decide +kernel
theorem xbr_1 : xbodyR 265 100 100 (xgd 1544 xc265 xh265) = true := by decide +kernel
theorem xbs_1 : xbodyR 265 100100 100 (xgd 1544 xc265 xh265) = true := by decide +kernel
theorem xbr_2 : xbodyR 265 200 100 (xgd 1544 xc265 xh265) = true := by decide +kernel
theorem xbs_2 : xbodyR 265 100200 100 (xgd 1544 xc265 xh265) = true := by decide +kernel
theorem xbr_3 : xbodyR 265 300 100 (xgd 1544 xc265 xh265) = true := by decide +kernel
theorem xbs_3 : xbodyR 265 100300 100 (xgd 1544 xc265 xh265) = true := by decide +kernel
theorem xbr_4 : xbodyR 265 400 100 (xgd 1544 xc265 xh265) = true := by decide +kernel
theorem xbs_4 : xbodyR 265 100400 100 (xgd 1544 xc265 xh265) = true := by decide +kernel
theorem xbr_5 : xbodyR 265 500 100 (xgd 1544 xc265 xh265) = true := by decide +kernel
theorem xbs_5 : xbodyR 265 100500 100 (xgd 1544 xc265 xh265) = true := by decide +kernel
theorem xbr_6 : xbodyR 265 600 100 (xgd 1544 xc265 xh265) = true := by decide +kernel
theorem xbs_6 : xbodyR 265 100600 100 (xgd 1544 xc265 xh265) = true := by decide +kernel
theorem xbr_7 : xbodyR 265 700 100 (xgd 1544 xc265 xh265) = true := by decide +kernel
theorem xbs_7 : xbodyR 265 100700 100 (xgd 1544 xc265 xh265) = true := by decide +kernel
theorem xbr_8 : xbodyR 265 800 100 (xgd 1544 xc265 xh265) = true := by decide +kernel
theorem xbs_8 : xbodyR 265 100800 100 (xgd 1544 xc265 xh265) = true := by decide +kernel
theorem xbr_9 : xbodyR 265 900 100 (xgd 1544 xc265 xh265) = true := by decide +kernel
theorem xbs_9 : xbodyR 265 100900 100 (xgd 1544 xc265 xh265) = true := by decide +kernel
theorem xbr_10 : xbodyR 265 1000 100 (xgd 1544 xc265 xh265) = true := by decide +kernel
theorem xbs_10 : xbodyR 265 101000 100 (xgd 1544 xc265 xh265) = true := by decide +kernel
theorem xbr_11 : xbodyR 265 1100 100 (xgd 1544 xc265 xh265) = true := by decide +kernel
theorem xbs_11 : xbodyR 265 101100 100 (xgd 1544 xc265 xh265) = true := by decide +kernel
theorem xbr_12 : xbodyR 265 1200 100 (xgd 1544 xc265 xh265) = true := by decide +kernel
theorem xbs_12 : xbodyR 265 101200 100 (xgd 1544 xc265 xh265) = true := by decide +kernel
theorem xbr_13 : xbodyR 265 1300 100 (xgd 1544 xc265 xh265) = true := by decide +kernel
theorem xbs_13 : xbodyR 265 101300 100 (xgd 1544 xc265 xh265) = true := by decide +kernel
theorem xbr_14 : xbodyR 265 1400 100 (xgd 1544 xc265 xh265) = true := by decide +kernel
theorem xbs_14 : xbodyR 265 101400 100 (xgd 1544 xc265 xh265) = true := by decide +kernel
theorem xbr_15 : xbodyR 265 1500 100 (xgd 1544 xc265 xh265) = true := by decide +kernel
theorem xbs_15 : xbodyR 265 101500 100 (xgd 1544 xc265 xh265) = true := by decide +kernel
theorem xba_r : ∀ k, k < 16 → xbodyR 265 (100 * k) 100 (xgd 1544 xc265 xh265) = true := by
  intro k hk
  match k, hk with
  | 0, _ => exact xbr_0
  | 1, _ => exact xbr_1
  | 2, _ => exact xbr_2
  | 3, _ => exact xbr_3
  | 4, _ => exact xbr_4
  | 5, _ => exact xbr_5
  | 6, _ => exact xbr_6
  | 7, _ => exact xbr_7
  | 8, _ => exact xbr_8
  | 9, _ => exact xbr_9
  | 10, _ => exact xbr_10
  | 11, _ => exact xbr_11
  | 12, _ => exact xbr_12
  | 13, _ => exact xbr_13
  | 14, _ => exact xbr_14
  | 15, _ => exact xbr_15
  | k + 16, hk => exact absurd hk (by omega)
theorem xba_s : ∀ k, k < 16 → xbodyR 265 (100000 + 100 * k) 100 (xgd 1544 xc265 xh265) = true := by
  intro k hk
  match k, hk with
  | 0, _ => exact xbs_0
  | 1, _ => exact xbs_1
  | 2, _ => exact xbs_2
  | 3, _ => exact xbs_3
  | 4, _ => exact xbs_4
  | 5, _ => exact xbs_5
  | 6, _ => exact xbs_6
  | 7, _ => exact xbs_7
  | 8, _ => exact xbs_8
  | 9, _ => exact xbs_9
  | 10, _ => exact xbs_10
  | 11, _ => exact xbs_11
  | 12, _ => exact xbs_12
  | 13, _ => exact xbs_13
  | 14, _ => exact xbs_14
  | 15, _ => exact xbs_15
  | k + 16, hk => exact absurd hk (by omega)
theorem xb_265 : xbody 265 1544 (xgd 1544 xc265 xh265) = true := xbody_of (by decide) xba_r xba_s
