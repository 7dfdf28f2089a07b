/-! THE PURE LAYER 8: what a change of a part of the row leaves -/
theorem Ends_congr {n : Int} {og og' : Int → Int} (ho : OgR n og) (h : ∀ e, 0 ≤ e → e < n → og' e = og e) (he : Ends n og) : Ends n og' := by
  have key : ∀ (k : Nat) (c : Int), (c = -1 ∨ (0 ≤ c ∧ c < n)) → itf (stp og') k c = itf (stp og) k c := by
    intro k
    induction k with
    | zero => intro c _; rfl
    | succ k ih =>
      intro c hc
      have e1 : stp og' c = stp og c := by
        unfold stp
        split
        · rfl
        · exact h c (by omega) (by omega)
      show itf _ k (stp og' c) = itf _ k (stp og c)
      rw [e1]
      exact ih _ (itf_rng ho 1 c hc)
  intro c h0 hn
  obtain ⟨k, hk⟩ := he c h0 hn
  exact ⟨k, (key k c (Or.inr ⟨h0, hn⟩)).trans hk⟩
theorem sumTo_congr {f f' : Int → Int} {n : Int} (h : ∀ e, 0 ≤ e → e < n → f' e = f e) : sumTo f' n = sumTo f n := by
  unfold sumTo
  refine xfor_congr_n fun j s a b => ?_
  rw [h j a b]
theorem sum5_congr {f f' : Int → Int} {t : Int} (h : ∀ k, t ≤ k → k < t + 5 → f' k = f k) : sum5 f' t = sum5 f t := by
  unfold sum5
  rw [h t (by omega) (by omega), h (t + 1) (by omega) (by omega), h (t + 2) (by omega) (by omega), h (t + 3) (by omega) (by omega), h (t + 4) (by omega) (by omega)]

theorem GOk_cr {w n : Int} {g g' : Int → Int} (h : GOk w n g) (hk : ∀ k, ¬ (90 ≤ k ∧ k < 154) → g' k = g k)
    (o_ogr : ∀ e, 0 ≤ e → e < 64 → g' (90 + e) = -1 ∨ (0 ≤ g' (90 + e) ∧ g' (90 + e) < n))
    (o_ogE : Ends n (fun e => g' (90 + e))) : GOk w n g' := by
  refine ⟨h.ww,
    h.nn,
    fun e a b => by
      rw [hk _ (by omega)]
      exact h.dgb e a b,
    o_ogr,
    o_ogE,
    fun e a b => by
      rw [hk _ (by omega)]
      exact h.brb e a b,
    fun e a b => by
      rw [hk _ (by omega)]
      exact h.amb e a b,
    fun e a b c => by
      rw [hk _ (by omega)] at c
      rw [sum5_congr (f := fun k => g (230 + k)) (fun k x y => hk _ (by omega))]
      exact h.ams e a b c,
    fun e a b => by
      have nn := h.nn
      rw [hk _ (by omega)]
      exact h.dgn e a b,
    by
      rw [hk _ (by omega), sumTo_congr (f := fun e => g (160 + e)) (fun e a b => hk _ (by omega))]
      exact h.dgs,
    by
      rw [hk 1 (by omega)]
      exact h.lyb,
    fun k a b => by
      have y := h.lyb
      rw [hk 1 (by omega)] at b
      rw [hk _ (by omega)]
      exact h.lya k a b,
    fun l a b => by
      have y := h.lyb
      rw [hk 1 (by omega)] at b
      rw [sum5_congr (f := fun k => g (560 + k)) (fun k x y => hk _ (by omega))]
      exact h.lys l a b,
    by
      rw [hk 2 (by omega)]
      exact h.lwb,
    by
      rw [hk 3 (by omega), hk 2 (by omega)]
      exact h.lwt,
    by
      rw [hk 4 (by omega)]
      exact h.vdb,
    fun i a b => by
      have y := h.vdb
      rw [hk 4 (by omega)] at b
      rw [hk _ (by omega), hk (871 + 5 * i) (by omega), hk (872 + 5 * i) (by omega), hk (873 + 5 * i) (by omega), hk (874 + 5 * i) (by omega)]
      exact h.vdi i a b,
    by
      rw [hk 5 (by omega)]
      exact h.stc,
    by
      rw [hk 6 (by omega)]
      exact h.bnd,
    by
      rw [hk 7 (by omega)]
      exact h.pce,
    by
      rw [hk 8 (by omega)]
      exact h.kep,
    by
      rw [hk 9 (by omega)]
      exact h.msg,
    by
      rw [hk 10 (by omega)]
      exact h.odd,
    fun s a b => by
      rw [hk _ (by omega)]
      exact h.flf s a b,
    fun s a b c => by
      rw [hk _ (by omega)] at c
      rw [hk _ (by omega)]
      exact h.flt s a b c,
    fun s a b => by
      rw [hk _ (by omega)]
      exact h.spc s a b,
    fun s k a b c e => by
      have y := h.spc s a b
      rw [hk (610 + s) (by omega)] at e
      rw [hk (620 + (60 * s + 3 * k)) (by omega), hk (621 + (60 * s + 3 * k)) (by omega), hk (622 + (60 * s + 3 * k)) (by omega)]
      exact h.spb s k a b c e⟩

theorem GOk_br {w n : Int} {g g' : Int → Int} (h : GOk w n g) (hk : ∀ k, ¬ (20 ≤ k ∧ k < 84) → g' k = g k)
    (o_brb : ∀ e, 0 ≤ e → e < 64 → g' (20 + e) = 0 ∨ g' (20 + e) = 1) : GOk w n g' := by
  refine ⟨h.ww,
    h.nn,
    fun e a b => by
      rw [hk _ (by omega)]
      exact h.dgb e a b,
    fun e a b => by
      rw [hk _ (by omega)]
      exact h.ogr e a b,
    Ends_congr (fun e a b => h.ogr e a (by have := h.nn; omega)) (fun e a b => hk _ (by have := h.nn; omega)) h.ogE,
    o_brb,
    fun e a b => by
      rw [hk _ (by omega)]
      exact h.amb e a b,
    fun e a b c => by
      rw [hk _ (by omega)] at c
      rw [sum5_congr (f := fun k => g (230 + k)) (fun k x y => hk _ (by omega))]
      exact h.ams e a b c,
    fun e a b => by
      have nn := h.nn
      rw [hk _ (by omega)]
      exact h.dgn e a b,
    by
      rw [hk _ (by omega), sumTo_congr (f := fun e => g (160 + e)) (fun e a b => hk _ (by omega))]
      exact h.dgs,
    by
      rw [hk 1 (by omega)]
      exact h.lyb,
    fun k a b => by
      have y := h.lyb
      rw [hk 1 (by omega)] at b
      rw [hk _ (by omega)]
      exact h.lya k a b,
    fun l a b => by
      have y := h.lyb
      rw [hk 1 (by omega)] at b
      rw [sum5_congr (f := fun k => g (560 + k)) (fun k x y => hk _ (by omega))]
      exact h.lys l a b,
    by
      rw [hk 2 (by omega)]
      exact h.lwb,
    by
      rw [hk 3 (by omega), hk 2 (by omega)]
      exact h.lwt,
    by
      rw [hk 4 (by omega)]
      exact h.vdb,
    fun i a b => by
      have y := h.vdb
      rw [hk 4 (by omega)] at b
      rw [hk _ (by omega), hk (871 + 5 * i) (by omega), hk (872 + 5 * i) (by omega), hk (873 + 5 * i) (by omega), hk (874 + 5 * i) (by omega)]
      exact h.vdi i a b,
    by
      rw [hk 5 (by omega)]
      exact h.stc,
    by
      rw [hk 6 (by omega)]
      exact h.bnd,
    by
      rw [hk 7 (by omega)]
      exact h.pce,
    by
      rw [hk 8 (by omega)]
      exact h.kep,
    by
      rw [hk 9 (by omega)]
      exact h.msg,
    by
      rw [hk 10 (by omega)]
      exact h.odd,
    fun s a b => by
      rw [hk _ (by omega)]
      exact h.flf s a b,
    fun s a b c => by
      rw [hk _ (by omega)] at c
      rw [hk _ (by omega)]
      exact h.flt s a b c,
    fun s a b => by
      rw [hk _ (by omega)]
      exact h.spc s a b,
    fun s k a b c e => by
      have y := h.spc s a b
      rw [hk (610 + s) (by omega)] at e
      rw [hk (620 + (60 * s + 3 * k)) (by omega), hk (621 + (60 * s + 3 * k)) (by omega), hk (622 + (60 * s + 3 * k)) (by omega)]
      exact h.spb s k a b c e⟩

theorem GOk_dg {w n : Int} {g g' : Int → Int} (h : GOk w n g) (hk : ∀ k, ¬ (k = 0 ∨ (160 ≤ k ∧ k < 224) ∨ (230 ≤ k ∧ k < 550)) → g' k = g k)
    (o_dgb : ∀ e, 0 ≤ e → e < 64 → g' (160 + e) = 0 ∨ g' (160 + e) = 1)
    (o_amb : ∀ k, 0 ≤ k → k < 320 → 0 ≤ g' (230 + k) ∧ g' (230 + k) ≤ 9)
    (o_ams : ∀ e, 0 ≤ e → e < 64 → g' (160 + e) = 1 → 1 ≤ sum5 (fun k => g' (230 + k)) (5 * e))
    (o_dgn : ∀ e, n ≤ e → e < 64 → g' (160 + e) = 0)
    (o_dgs : g' 0 = sumTo (fun e => g' (160 + e)) 64) : GOk w n g' := by
  refine ⟨h.ww,
    h.nn,
    o_dgb,
    fun e a b => by
      rw [hk _ (by omega)]
      exact h.ogr e a b,
    Ends_congr (fun e a b => h.ogr e a (by have := h.nn; omega)) (fun e a b => hk _ (by have := h.nn; omega)) h.ogE,
    fun e a b => by
      rw [hk _ (by omega)]
      exact h.brb e a b,
    o_amb,
    o_ams,
    o_dgn,
    o_dgs,
    by
      rw [hk 1 (by omega)]
      exact h.lyb,
    fun k a b => by
      have y := h.lyb
      rw [hk 1 (by omega)] at b
      rw [hk _ (by omega)]
      exact h.lya k a b,
    fun l a b => by
      have y := h.lyb
      rw [hk 1 (by omega)] at b
      rw [sum5_congr (f := fun k => g (560 + k)) (fun k x y => hk _ (by omega))]
      exact h.lys l a b,
    by
      rw [hk 2 (by omega)]
      exact h.lwb,
    by
      rw [hk 3 (by omega), hk 2 (by omega)]
      exact h.lwt,
    by
      rw [hk 4 (by omega)]
      exact h.vdb,
    fun i a b => by
      have y := h.vdb
      rw [hk 4 (by omega)] at b
      rw [hk _ (by omega), hk (871 + 5 * i) (by omega), hk (872 + 5 * i) (by omega), hk (873 + 5 * i) (by omega), hk (874 + 5 * i) (by omega)]
      exact h.vdi i a b,
    by
      rw [hk 5 (by omega)]
      exact h.stc,
    by
      rw [hk 6 (by omega)]
      exact h.bnd,
    by
      rw [hk 7 (by omega)]
      exact h.pce,
    by
      rw [hk 8 (by omega)]
      exact h.kep,
    by
      rw [hk 9 (by omega)]
      exact h.msg,
    by
      rw [hk 10 (by omega)]
      exact h.odd,
    fun s a b => by
      rw [hk _ (by omega)]
      exact h.flf s a b,
    fun s a b c => by
      rw [hk _ (by omega)] at c
      rw [hk _ (by omega)]
      exact h.flt s a b c,
    fun s a b => by
      rw [hk _ (by omega)]
      exact h.spc s a b,
    fun s k a b c e => by
      have y := h.spc s a b
      rw [hk (610 + s) (by omega)] at e
      rw [hk (620 + (60 * s + 3 * k)) (by omega), hk (621 + (60 * s + 3 * k)) (by omega), hk (622 + (60 * s + 3 * k)) (by omega)]
      exact h.spb s k a b c e⟩

theorem GOk_ly {w n : Int} {g g' : Int → Int} (h : GOk w n g) (hk : ∀ k, ¬ (k = 1 ∨ (560 ≤ k ∧ k < 600)) → g' k = g k)
    (o_lyb : 0 ≤ g' 1 ∧ g' 1 ≤ 8)
    (o_lya : ∀ k, 0 ≤ k → k < 5 * g' 1 → 0 ≤ g' (560 + k) ∧ g' (560 + k) ≤ 99)
    (o_lys : ∀ l, 0 ≤ l → l < g' 1 → 1 ≤ sum5 (fun k => g' (560 + k)) (5 * l)) : GOk w n g' := by
  refine ⟨h.ww,
    h.nn,
    fun e a b => by
      rw [hk _ (by omega)]
      exact h.dgb e a b,
    fun e a b => by
      rw [hk _ (by omega)]
      exact h.ogr e a b,
    Ends_congr (fun e a b => h.ogr e a (by have := h.nn; omega)) (fun e a b => hk _ (by have := h.nn; omega)) h.ogE,
    fun e a b => by
      rw [hk _ (by omega)]
      exact h.brb e a b,
    fun e a b => by
      rw [hk _ (by omega)]
      exact h.amb e a b,
    fun e a b c => by
      rw [hk _ (by omega)] at c
      rw [sum5_congr (f := fun k => g (230 + k)) (fun k x y => hk _ (by omega))]
      exact h.ams e a b c,
    fun e a b => by
      have nn := h.nn
      rw [hk _ (by omega)]
      exact h.dgn e a b,
    by
      rw [hk _ (by omega), sumTo_congr (f := fun e => g (160 + e)) (fun e a b => hk _ (by omega))]
      exact h.dgs,
    o_lyb,
    o_lya,
    o_lys,
    by
      rw [hk 2 (by omega)]
      exact h.lwb,
    by
      rw [hk 3 (by omega), hk 2 (by omega)]
      exact h.lwt,
    by
      rw [hk 4 (by omega)]
      exact h.vdb,
    fun i a b => by
      have y := h.vdb
      rw [hk 4 (by omega)] at b
      rw [hk _ (by omega), hk (871 + 5 * i) (by omega), hk (872 + 5 * i) (by omega), hk (873 + 5 * i) (by omega), hk (874 + 5 * i) (by omega)]
      exact h.vdi i a b,
    by
      rw [hk 5 (by omega)]
      exact h.stc,
    by
      rw [hk 6 (by omega)]
      exact h.bnd,
    by
      rw [hk 7 (by omega)]
      exact h.pce,
    by
      rw [hk 8 (by omega)]
      exact h.kep,
    by
      rw [hk 9 (by omega)]
      exact h.msg,
    by
      rw [hk 10 (by omega)]
      exact h.odd,
    fun s a b => by
      rw [hk _ (by omega)]
      exact h.flf s a b,
    fun s a b c => by
      rw [hk _ (by omega)] at c
      rw [hk _ (by omega)]
      exact h.flt s a b c,
    fun s a b => by
      rw [hk _ (by omega)]
      exact h.spc s a b,
    fun s k a b c e => by
      have y := h.spc s a b
      rw [hk (610 + s) (by omega)] at e
      rw [hk (620 + (60 * s + 3 * k)) (by omega), hk (621 + (60 * s + 3 * k)) (by omega), hk (622 + (60 * s + 3 * k)) (by omega)]
      exact h.spb s k a b c e⟩

theorem GOk_lw {w n : Int} {g g' : Int → Int} (h : GOk w n g) (hk : ∀ k, ¬ (k = 2 ∨ k = 3) → g' k = g k)
    (o_lwb : 0 ≤ g' 2 ∧ g' 2 ≤ 4)
    (o_lwt : -1 ≤ g' 3 ∧ g' 3 < g' 2) : GOk w n g' := by
  refine ⟨h.ww,
    h.nn,
    fun e a b => by
      rw [hk _ (by omega)]
      exact h.dgb e a b,
    fun e a b => by
      rw [hk _ (by omega)]
      exact h.ogr e a b,
    Ends_congr (fun e a b => h.ogr e a (by have := h.nn; omega)) (fun e a b => hk _ (by have := h.nn; omega)) h.ogE,
    fun e a b => by
      rw [hk _ (by omega)]
      exact h.brb e a b,
    fun e a b => by
      rw [hk _ (by omega)]
      exact h.amb e a b,
    fun e a b c => by
      rw [hk _ (by omega)] at c
      rw [sum5_congr (f := fun k => g (230 + k)) (fun k x y => hk _ (by omega))]
      exact h.ams e a b c,
    fun e a b => by
      have nn := h.nn
      rw [hk _ (by omega)]
      exact h.dgn e a b,
    by
      rw [hk _ (by omega), sumTo_congr (f := fun e => g (160 + e)) (fun e a b => hk _ (by omega))]
      exact h.dgs,
    by
      rw [hk 1 (by omega)]
      exact h.lyb,
    fun k a b => by
      have y := h.lyb
      rw [hk 1 (by omega)] at b
      rw [hk _ (by omega)]
      exact h.lya k a b,
    fun l a b => by
      have y := h.lyb
      rw [hk 1 (by omega)] at b
      rw [sum5_congr (f := fun k => g (560 + k)) (fun k x y => hk _ (by omega))]
      exact h.lys l a b,
    o_lwb,
    o_lwt,
    by
      rw [hk 4 (by omega)]
      exact h.vdb,
    fun i a b => by
      have y := h.vdb
      rw [hk 4 (by omega)] at b
      rw [hk _ (by omega), hk (871 + 5 * i) (by omega), hk (872 + 5 * i) (by omega), hk (873 + 5 * i) (by omega), hk (874 + 5 * i) (by omega)]
      exact h.vdi i a b,
    by
      rw [hk 5 (by omega)]
      exact h.stc,
    by
      rw [hk 6 (by omega)]
      exact h.bnd,
    by
      rw [hk 7 (by omega)]
      exact h.pce,
    by
      rw [hk 8 (by omega)]
      exact h.kep,
    by
      rw [hk 9 (by omega)]
      exact h.msg,
    by
      rw [hk 10 (by omega)]
      exact h.odd,
    fun s a b => by
      rw [hk _ (by omega)]
      exact h.flf s a b,
    fun s a b c => by
      rw [hk _ (by omega)] at c
      rw [hk _ (by omega)]
      exact h.flt s a b c,
    fun s a b => by
      rw [hk _ (by omega)]
      exact h.spc s a b,
    fun s k a b c e => by
      have y := h.spc s a b
      rw [hk (610 + s) (by omega)] at e
      rw [hk (620 + (60 * s + 3 * k)) (by omega), hk (621 + (60 * s + 3 * k)) (by omega), hk (622 + (60 * s + 3 * k)) (by omega)]
      exact h.spb s k a b c e⟩

theorem GOk_vd {w n : Int} {g g' : Int → Int} (h : GOk w n g) (hk : ∀ k, ¬ (k = 4 ∨ (870 ≤ k ∧ k < 1170)) → g' k = g k)
    (o_vdb : 0 ≤ g' 4 ∧ g' 4 ≤ 60)
    (o_vdi : ∀ i, 0 ≤ i → i < g' 4 → (0 ≤ g' (870 + 5 * i) ∧ g' (870 + 5 * i) ≤ 3) ∧ (0 ≤ g' (871 + 5 * i) ∧ g' (871 + 5 * i) ≤ 7) ∧ (0 ≤ g' (872 + 5 * i) ∧ g' (872 + 5 * i) < n) ∧ (g' (873 + 5 * i) = 0 ∨ g' (873 + 5 * i) = 1) ∧ (g' (874 + 5 * i) = 0 ∨ g' (874 + 5 * i) = 1)) : GOk w n g' := by
  refine ⟨h.ww,
    h.nn,
    fun e a b => by
      rw [hk _ (by omega)]
      exact h.dgb e a b,
    fun e a b => by
      rw [hk _ (by omega)]
      exact h.ogr e a b,
    Ends_congr (fun e a b => h.ogr e a (by have := h.nn; omega)) (fun e a b => hk _ (by have := h.nn; omega)) h.ogE,
    fun e a b => by
      rw [hk _ (by omega)]
      exact h.brb e a b,
    fun e a b => by
      rw [hk _ (by omega)]
      exact h.amb e a b,
    fun e a b c => by
      rw [hk _ (by omega)] at c
      rw [sum5_congr (f := fun k => g (230 + k)) (fun k x y => hk _ (by omega))]
      exact h.ams e a b c,
    fun e a b => by
      have nn := h.nn
      rw [hk _ (by omega)]
      exact h.dgn e a b,
    by
      rw [hk _ (by omega), sumTo_congr (f := fun e => g (160 + e)) (fun e a b => hk _ (by omega))]
      exact h.dgs,
    by
      rw [hk 1 (by omega)]
      exact h.lyb,
    fun k a b => by
      have y := h.lyb
      rw [hk 1 (by omega)] at b
      rw [hk _ (by omega)]
      exact h.lya k a b,
    fun l a b => by
      have y := h.lyb
      rw [hk 1 (by omega)] at b
      rw [sum5_congr (f := fun k => g (560 + k)) (fun k x y => hk _ (by omega))]
      exact h.lys l a b,
    by
      rw [hk 2 (by omega)]
      exact h.lwb,
    by
      rw [hk 3 (by omega), hk 2 (by omega)]
      exact h.lwt,
    o_vdb,
    o_vdi,
    by
      rw [hk 5 (by omega)]
      exact h.stc,
    by
      rw [hk 6 (by omega)]
      exact h.bnd,
    by
      rw [hk 7 (by omega)]
      exact h.pce,
    by
      rw [hk 8 (by omega)]
      exact h.kep,
    by
      rw [hk 9 (by omega)]
      exact h.msg,
    by
      rw [hk 10 (by omega)]
      exact h.odd,
    fun s a b => by
      rw [hk _ (by omega)]
      exact h.flf s a b,
    fun s a b c => by
      rw [hk _ (by omega)] at c
      rw [hk _ (by omega)]
      exact h.flt s a b c,
    fun s a b => by
      rw [hk _ (by omega)]
      exact h.spc s a b,
    fun s k a b c e => by
      have y := h.spc s a b
      rw [hk (610 + s) (by omega)] at e
      rw [hk (620 + (60 * s + 3 * k)) (by omega), hk (621 + (60 * s + 3 * k)) (by omega), hk (622 + (60 * s + 3 * k)) (by omega)]
      exact h.spb s k a b c e⟩

theorem GOk_st {w n : Int} {g g' : Int → Int} (h : GOk w n g) (hk : ∀ k, ¬ (k = 5) → g' k = g k)
    (o_stc : 0 ≤ g' 5 ∧ g' 5 < n) : GOk w n g' := by
  refine ⟨h.ww,
    h.nn,
    fun e a b => by
      rw [hk _ (by omega)]
      exact h.dgb e a b,
    fun e a b => by
      rw [hk _ (by omega)]
      exact h.ogr e a b,
    Ends_congr (fun e a b => h.ogr e a (by have := h.nn; omega)) (fun e a b => hk _ (by have := h.nn; omega)) h.ogE,
    fun e a b => by
      rw [hk _ (by omega)]
      exact h.brb e a b,
    fun e a b => by
      rw [hk _ (by omega)]
      exact h.amb e a b,
    fun e a b c => by
      rw [hk _ (by omega)] at c
      rw [sum5_congr (f := fun k => g (230 + k)) (fun k x y => hk _ (by omega))]
      exact h.ams e a b c,
    fun e a b => by
      have nn := h.nn
      rw [hk _ (by omega)]
      exact h.dgn e a b,
    by
      rw [hk _ (by omega), sumTo_congr (f := fun e => g (160 + e)) (fun e a b => hk _ (by omega))]
      exact h.dgs,
    by
      rw [hk 1 (by omega)]
      exact h.lyb,
    fun k a b => by
      have y := h.lyb
      rw [hk 1 (by omega)] at b
      rw [hk _ (by omega)]
      exact h.lya k a b,
    fun l a b => by
      have y := h.lyb
      rw [hk 1 (by omega)] at b
      rw [sum5_congr (f := fun k => g (560 + k)) (fun k x y => hk _ (by omega))]
      exact h.lys l a b,
    by
      rw [hk 2 (by omega)]
      exact h.lwb,
    by
      rw [hk 3 (by omega), hk 2 (by omega)]
      exact h.lwt,
    by
      rw [hk 4 (by omega)]
      exact h.vdb,
    fun i a b => by
      have y := h.vdb
      rw [hk 4 (by omega)] at b
      rw [hk _ (by omega), hk (871 + 5 * i) (by omega), hk (872 + 5 * i) (by omega), hk (873 + 5 * i) (by omega), hk (874 + 5 * i) (by omega)]
      exact h.vdi i a b,
    o_stc,
    by
      rw [hk 6 (by omega)]
      exact h.bnd,
    by
      rw [hk 7 (by omega)]
      exact h.pce,
    by
      rw [hk 8 (by omega)]
      exact h.kep,
    by
      rw [hk 9 (by omega)]
      exact h.msg,
    by
      rw [hk 10 (by omega)]
      exact h.odd,
    fun s a b => by
      rw [hk _ (by omega)]
      exact h.flf s a b,
    fun s a b c => by
      rw [hk _ (by omega)] at c
      rw [hk _ (by omega)]
      exact h.flt s a b c,
    fun s a b => by
      rw [hk _ (by omega)]
      exact h.spc s a b,
    fun s k a b c e => by
      have y := h.spc s a b
      rw [hk (610 + s) (by omega)] at e
      rw [hk (620 + (60 * s + 3 * k)) (by omega), hk (621 + (60 * s + 3 * k)) (by omega), hk (622 + (60 * s + 3 * k)) (by omega)]
      exact h.spb s k a b c e⟩

theorem GOk_ru {w n : Int} {g g' : Int → Int} (h : GOk w n g) (hk : ∀ k, ¬ (6 ≤ k ∧ k ≤ 10) → g' k = g k)
    (o_bnd : 0 ≤ g' 6 ∧ g' 6 ≤ 1000)
    (o_pce : 0 ≤ g' 7 ∧ g' 7 ≤ 99)
    (o_kep : 0 ≤ g' 8 ∧ g' 8 ≤ 11)
    (o_msg : 0 ≤ g' 9 ∧ g' 9 ≤ 1000)
    (o_odd : 0 ≤ g' 10 ∧ g' 10 ≤ 1000) : GOk w n g' := by
  refine ⟨h.ww,
    h.nn,
    fun e a b => by
      rw [hk _ (by omega)]
      exact h.dgb e a b,
    fun e a b => by
      rw [hk _ (by omega)]
      exact h.ogr e a b,
    Ends_congr (fun e a b => h.ogr e a (by have := h.nn; omega)) (fun e a b => hk _ (by have := h.nn; omega)) h.ogE,
    fun e a b => by
      rw [hk _ (by omega)]
      exact h.brb e a b,
    fun e a b => by
      rw [hk _ (by omega)]
      exact h.amb e a b,
    fun e a b c => by
      rw [hk _ (by omega)] at c
      rw [sum5_congr (f := fun k => g (230 + k)) (fun k x y => hk _ (by omega))]
      exact h.ams e a b c,
    fun e a b => by
      have nn := h.nn
      rw [hk _ (by omega)]
      exact h.dgn e a b,
    by
      rw [hk _ (by omega), sumTo_congr (f := fun e => g (160 + e)) (fun e a b => hk _ (by omega))]
      exact h.dgs,
    by
      rw [hk 1 (by omega)]
      exact h.lyb,
    fun k a b => by
      have y := h.lyb
      rw [hk 1 (by omega)] at b
      rw [hk _ (by omega)]
      exact h.lya k a b,
    fun l a b => by
      have y := h.lyb
      rw [hk 1 (by omega)] at b
      rw [sum5_congr (f := fun k => g (560 + k)) (fun k x y => hk _ (by omega))]
      exact h.lys l a b,
    by
      rw [hk 2 (by omega)]
      exact h.lwb,
    by
      rw [hk 3 (by omega), hk 2 (by omega)]
      exact h.lwt,
    by
      rw [hk 4 (by omega)]
      exact h.vdb,
    fun i a b => by
      have y := h.vdb
      rw [hk 4 (by omega)] at b
      rw [hk _ (by omega), hk (871 + 5 * i) (by omega), hk (872 + 5 * i) (by omega), hk (873 + 5 * i) (by omega), hk (874 + 5 * i) (by omega)]
      exact h.vdi i a b,
    by
      rw [hk 5 (by omega)]
      exact h.stc,
    o_bnd,
    o_pce,
    o_kep,
    o_msg,
    o_odd,
    fun s a b => by
      rw [hk _ (by omega)]
      exact h.flf s a b,
    fun s a b c => by
      rw [hk _ (by omega)] at c
      rw [hk _ (by omega)]
      exact h.flt s a b c,
    fun s a b => by
      rw [hk _ (by omega)]
      exact h.spc s a b,
    fun s k a b c e => by
      have y := h.spc s a b
      rw [hk (610 + s) (by omega)] at e
      rw [hk (620 + (60 * s + 3 * k)) (by omega), hk (621 + (60 * s + 3 * k)) (by omega), hk (622 + (60 * s + 3 * k)) (by omega)]
      exact h.spb s k a b c e⟩

theorem GOk_fl {w n : Int} {g g' : Int → Int} (h : GOk w n g) (hk : ∀ k, ¬ (600 ≤ k ∧ k < 610) → g' k = g k)
    (o_flf : ∀ s, 0 ≤ s → s < 5 → -1 ≤ g' (600 + 2 * s) ∧ g' (600 + 2 * s) ≤ 11)
    (o_flt : ∀ s, 0 ≤ s → s < 5 → ¬ g' (600 + 2 * s) = -1 → 0 ≤ g' (601 + 2 * s) ∧ g' (601 + 2 * s) ≤ 11) : GOk w n g' := by
  refine ⟨h.ww,
    h.nn,
    fun e a b => by
      rw [hk _ (by omega)]
      exact h.dgb e a b,
    fun e a b => by
      rw [hk _ (by omega)]
      exact h.ogr e a b,
    Ends_congr (fun e a b => h.ogr e a (by have := h.nn; omega)) (fun e a b => hk _ (by have := h.nn; omega)) h.ogE,
    fun e a b => by
      rw [hk _ (by omega)]
      exact h.brb e a b,
    fun e a b => by
      rw [hk _ (by omega)]
      exact h.amb e a b,
    fun e a b c => by
      rw [hk _ (by omega)] at c
      rw [sum5_congr (f := fun k => g (230 + k)) (fun k x y => hk _ (by omega))]
      exact h.ams e a b c,
    fun e a b => by
      have nn := h.nn
      rw [hk _ (by omega)]
      exact h.dgn e a b,
    by
      rw [hk _ (by omega), sumTo_congr (f := fun e => g (160 + e)) (fun e a b => hk _ (by omega))]
      exact h.dgs,
    by
      rw [hk 1 (by omega)]
      exact h.lyb,
    fun k a b => by
      have y := h.lyb
      rw [hk 1 (by omega)] at b
      rw [hk _ (by omega)]
      exact h.lya k a b,
    fun l a b => by
      have y := h.lyb
      rw [hk 1 (by omega)] at b
      rw [sum5_congr (f := fun k => g (560 + k)) (fun k x y => hk _ (by omega))]
      exact h.lys l a b,
    by
      rw [hk 2 (by omega)]
      exact h.lwb,
    by
      rw [hk 3 (by omega), hk 2 (by omega)]
      exact h.lwt,
    by
      rw [hk 4 (by omega)]
      exact h.vdb,
    fun i a b => by
      have y := h.vdb
      rw [hk 4 (by omega)] at b
      rw [hk _ (by omega), hk (871 + 5 * i) (by omega), hk (872 + 5 * i) (by omega), hk (873 + 5 * i) (by omega), hk (874 + 5 * i) (by omega)]
      exact h.vdi i a b,
    by
      rw [hk 5 (by omega)]
      exact h.stc,
    by
      rw [hk 6 (by omega)]
      exact h.bnd,
    by
      rw [hk 7 (by omega)]
      exact h.pce,
    by
      rw [hk 8 (by omega)]
      exact h.kep,
    by
      rw [hk 9 (by omega)]
      exact h.msg,
    by
      rw [hk 10 (by omega)]
      exact h.odd,
    o_flf,
    o_flt,
    fun s a b => by
      rw [hk _ (by omega)]
      exact h.spc s a b,
    fun s k a b c e => by
      have y := h.spc s a b
      rw [hk (610 + s) (by omega)] at e
      rw [hk (620 + (60 * s + 3 * k)) (by omega), hk (621 + (60 * s + 3 * k)) (by omega), hk (622 + (60 * s + 3 * k)) (by omega)]
      exact h.spb s k a b c e⟩

theorem GOk_sp {w n : Int} {g g' : Int → Int} (h : GOk w n g) (hk : ∀ k, ¬ ((610 ≤ k ∧ k < 614) ∨ (620 ≤ k ∧ k < 860)) → g' k = g k)
    (o_spc : ∀ s, 0 ≤ s → s < 4 → 0 ≤ g' (610 + s) ∧ g' (610 + s) ≤ 20)
    (o_spb : ∀ s k, 0 ≤ s → s < 4 → 0 ≤ k → k < g' (610 + s) → (0 ≤ g' (620 + (60 * s + 3 * k)) ∧ g' (620 + (60 * s + 3 * k)) < n) ∧ (0 ≤ g' (621 + (60 * s + 3 * k)) ∧ g' (621 + (60 * s + 3 * k)) ≤ 9) ∧ (0 ≤ g' (622 + (60 * s + 3 * k)) ∧ g' (622 + (60 * s + 3 * k)) ≤ 23)) : GOk w n g' := by
  refine ⟨h.ww,
    h.nn,
    fun e a b => by
      rw [hk _ (by omega)]
      exact h.dgb e a b,
    fun e a b => by
      rw [hk _ (by omega)]
      exact h.ogr e a b,
    Ends_congr (fun e a b => h.ogr e a (by have := h.nn; omega)) (fun e a b => hk _ (by have := h.nn; omega)) h.ogE,
    fun e a b => by
      rw [hk _ (by omega)]
      exact h.brb e a b,
    fun e a b => by
      rw [hk _ (by omega)]
      exact h.amb e a b,
    fun e a b c => by
      rw [hk _ (by omega)] at c
      rw [sum5_congr (f := fun k => g (230 + k)) (fun k x y => hk _ (by omega))]
      exact h.ams e a b c,
    fun e a b => by
      have nn := h.nn
      rw [hk _ (by omega)]
      exact h.dgn e a b,
    by
      rw [hk _ (by omega), sumTo_congr (f := fun e => g (160 + e)) (fun e a b => hk _ (by omega))]
      exact h.dgs,
    by
      rw [hk 1 (by omega)]
      exact h.lyb,
    fun k a b => by
      have y := h.lyb
      rw [hk 1 (by omega)] at b
      rw [hk _ (by omega)]
      exact h.lya k a b,
    fun l a b => by
      have y := h.lyb
      rw [hk 1 (by omega)] at b
      rw [sum5_congr (f := fun k => g (560 + k)) (fun k x y => hk _ (by omega))]
      exact h.lys l a b,
    by
      rw [hk 2 (by omega)]
      exact h.lwb,
    by
      rw [hk 3 (by omega), hk 2 (by omega)]
      exact h.lwt,
    by
      rw [hk 4 (by omega)]
      exact h.vdb,
    fun i a b => by
      have y := h.vdb
      rw [hk 4 (by omega)] at b
      rw [hk _ (by omega), hk (871 + 5 * i) (by omega), hk (872 + 5 * i) (by omega), hk (873 + 5 * i) (by omega), hk (874 + 5 * i) (by omega)]
      exact h.vdi i a b,
    by
      rw [hk 5 (by omega)]
      exact h.stc,
    by
      rw [hk 6 (by omega)]
      exact h.bnd,
    by
      rw [hk 7 (by omega)]
      exact h.pce,
    by
      rw [hk 8 (by omega)]
      exact h.kep,
    by
      rw [hk 9 (by omega)]
      exact h.msg,
    by
      rw [hk 10 (by omega)]
      exact h.odd,
    fun s a b => by
      rw [hk _ (by omega)]
      exact h.flf s a b,
    fun s a b c => by
      rw [hk _ (by omega)] at c
      rw [hk _ (by omega)]
      exact h.flt s a b c,
    o_spc,
    o_spb⟩

theorem SRel_cr {w n : Int} {L D I O B LY AM RU FF FT SP SC VD LK PL SA KN NW O' g g' : Int → Int} (hg : GOk w n g) (h : SRel w n L D I O B LY AM RU FF FT SP SC VD LK PL SA KN NW g) (hk : ∀ k, ¬ (90 ≤ k ∧ k < 154) → g' k = g k)
    (o_o : ∀ e, 0 ≤ e → e < 64 → O' e = g' (90 + e)) : SRel w n L D I O' B LY AM RU FF FT SP SC VD LK PL SA KN NW g' := by
  refine ⟨h.l0,
    h.l1,
    h.l2,
    by
      rw [hk 0 (by omega)]
      exact h.l7,
    fun e a b => by
      rw [hk _ (by omega)]
      exact h.d e a b,
    fun e a b => by
      rw [hk _ (by omega)]
      exact h.i e a b,
    o_o,
    fun e a b => by
      rw [hk _ (by omega)]
      exact h.b e a b,
    by
      rw [hk 1 (by omega)]
      exact h.c,
    fun k a b => by
      have y := hg.lyb
      rw [hk 1 (by omega)] at b
      rw [hk _ (by omega)]
      exact h.am k a b,
    by
      rw [hk 6 (by omega)]
      exact h.r0,
    by
      rw [hk 7 (by omega)]
      exact h.r1,
    by
      rw [hk 8 (by omega)]
      exact h.r2,
    by
      rw [hk 9 (by omega)]
      exact h.r3,
    by
      rw [hk 10 (by omega)]
      exact h.r4,
    by
      rw [hk 5 (by omega)]
      exact h.r5,
    fun e a b => by
      rw [hk _ (by omega)]
      exact h.ff e a b,
    fun s a b c => by
      rw [hk _ (by omega)] at c
      rw [hk _ (by omega)]
      exact h.ft s a b c,
    fun e a b => by
      rw [hk _ (by omega)]
      exact h.sp e a b,
    fun e a b => by
      rw [hk _ (by omega)]
      exact h.sc e a b,
    by
      rw [hk 4 (by omega)]
      exact h.v4,
    fun i a b => by
      have y := hg.vdb
      rw [hk 4 (by omega)] at b
      rw [hk _ (by omega)]
      exact h.lk i a b,
    fun i a b => by
      have y := hg.vdb
      rw [hk 4 (by omega)] at b
      rw [hk _ (by omega), hk (872 + 5 * i) (by omega)]
      exact h.pl i a b,
    fun i a b => by
      have y := hg.vdb
      rw [hk 4 (by omega)] at b
      rw [hk _ (by omega)]
      exact h.sa i a b,
    fun i a b => by
      have y := hg.vdb
      rw [hk 4 (by omega)] at b
      rw [hk _ (by omega)]
      exact h.kn i a b,
    by
      rw [hk 2 (by omega)]
      exact h.n5,
    by
      rw [hk 3 (by omega)]
      exact h.n6⟩

theorem SRel_br {w n : Int} {L D I O B LY AM RU FF FT SP SC VD LK PL SA KN NW B' g g' : Int → Int} (hg : GOk w n g) (h : SRel w n L D I O B LY AM RU FF FT SP SC VD LK PL SA KN NW g) (hk : ∀ k, ¬ (20 ≤ k ∧ k < 84) → g' k = g k)
    (o_b : ∀ e, 0 ≤ e → e < 64 → B' e = g' (20 + e)) : SRel w n L D I O B' LY AM RU FF FT SP SC VD LK PL SA KN NW g' := by
  refine ⟨h.l0,
    h.l1,
    h.l2,
    by
      rw [hk 0 (by omega)]
      exact h.l7,
    fun e a b => by
      rw [hk _ (by omega)]
      exact h.d e a b,
    fun e a b => by
      rw [hk _ (by omega)]
      exact h.i e a b,
    fun e a b => by
      rw [hk _ (by omega)]
      exact h.o e a b,
    o_b,
    by
      rw [hk 1 (by omega)]
      exact h.c,
    fun k a b => by
      have y := hg.lyb
      rw [hk 1 (by omega)] at b
      rw [hk _ (by omega)]
      exact h.am k a b,
    by
      rw [hk 6 (by omega)]
      exact h.r0,
    by
      rw [hk 7 (by omega)]
      exact h.r1,
    by
      rw [hk 8 (by omega)]
      exact h.r2,
    by
      rw [hk 9 (by omega)]
      exact h.r3,
    by
      rw [hk 10 (by omega)]
      exact h.r4,
    by
      rw [hk 5 (by omega)]
      exact h.r5,
    fun e a b => by
      rw [hk _ (by omega)]
      exact h.ff e a b,
    fun s a b c => by
      rw [hk _ (by omega)] at c
      rw [hk _ (by omega)]
      exact h.ft s a b c,
    fun e a b => by
      rw [hk _ (by omega)]
      exact h.sp e a b,
    fun e a b => by
      rw [hk _ (by omega)]
      exact h.sc e a b,
    by
      rw [hk 4 (by omega)]
      exact h.v4,
    fun i a b => by
      have y := hg.vdb
      rw [hk 4 (by omega)] at b
      rw [hk _ (by omega)]
      exact h.lk i a b,
    fun i a b => by
      have y := hg.vdb
      rw [hk 4 (by omega)] at b
      rw [hk _ (by omega), hk (872 + 5 * i) (by omega)]
      exact h.pl i a b,
    fun i a b => by
      have y := hg.vdb
      rw [hk 4 (by omega)] at b
      rw [hk _ (by omega)]
      exact h.sa i a b,
    fun i a b => by
      have y := hg.vdb
      rw [hk 4 (by omega)] at b
      rw [hk _ (by omega)]
      exact h.kn i a b,
    by
      rw [hk 2 (by omega)]
      exact h.n5,
    by
      rw [hk 3 (by omega)]
      exact h.n6⟩

theorem SRel_dg {w n : Int} {L D I O B LY AM RU FF FT SP SC VD LK PL SA KN NW L' D' I' g g' : Int → Int} (hg : GOk w n g) (h : SRel w n L D I O B LY AM RU FF FT SP SC VD LK PL SA KN NW g) (hk : ∀ k, ¬ (k = 0 ∨ (160 ≤ k ∧ k < 224) ∨ (230 ≤ k ∧ k < 550)) → g' k = g k)
    (o_l0 : L' 0 = w)
    (o_l1 : L' 1 * w = n)
    (o_l2 : L' 2 = n)
    (o_l7 : L' 7 = g' 0)
    (o_d : ∀ k, 0 ≤ k → k < 320 → D' k = g' (230 + k))
    (o_i : ∀ e, 0 ≤ e → e < 64 → I' e = g' (160 + e)) : SRel w n L' D' I' O B LY AM RU FF FT SP SC VD LK PL SA KN NW g' := by
  refine ⟨o_l0,
    o_l1,
    o_l2,
    o_l7,
    o_d,
    o_i,
    fun e a b => by
      rw [hk _ (by omega)]
      exact h.o e a b,
    fun e a b => by
      rw [hk _ (by omega)]
      exact h.b e a b,
    by
      rw [hk 1 (by omega)]
      exact h.c,
    fun k a b => by
      have y := hg.lyb
      rw [hk 1 (by omega)] at b
      rw [hk _ (by omega)]
      exact h.am k a b,
    by
      rw [hk 6 (by omega)]
      exact h.r0,
    by
      rw [hk 7 (by omega)]
      exact h.r1,
    by
      rw [hk 8 (by omega)]
      exact h.r2,
    by
      rw [hk 9 (by omega)]
      exact h.r3,
    by
      rw [hk 10 (by omega)]
      exact h.r4,
    by
      rw [hk 5 (by omega)]
      exact h.r5,
    fun e a b => by
      rw [hk _ (by omega)]
      exact h.ff e a b,
    fun s a b c => by
      rw [hk _ (by omega)] at c
      rw [hk _ (by omega)]
      exact h.ft s a b c,
    fun e a b => by
      rw [hk _ (by omega)]
      exact h.sp e a b,
    fun e a b => by
      rw [hk _ (by omega)]
      exact h.sc e a b,
    by
      rw [hk 4 (by omega)]
      exact h.v4,
    fun i a b => by
      have y := hg.vdb
      rw [hk 4 (by omega)] at b
      rw [hk _ (by omega)]
      exact h.lk i a b,
    fun i a b => by
      have y := hg.vdb
      rw [hk 4 (by omega)] at b
      rw [hk _ (by omega), hk (872 + 5 * i) (by omega)]
      exact h.pl i a b,
    fun i a b => by
      have y := hg.vdb
      rw [hk 4 (by omega)] at b
      rw [hk _ (by omega)]
      exact h.sa i a b,
    fun i a b => by
      have y := hg.vdb
      rw [hk 4 (by omega)] at b
      rw [hk _ (by omega)]
      exact h.kn i a b,
    by
      rw [hk 2 (by omega)]
      exact h.n5,
    by
      rw [hk 3 (by omega)]
      exact h.n6⟩

theorem SRel_ly {w n : Int} {L D I O B LY AM RU FF FT SP SC VD LK PL SA KN NW LY' AM' g g' : Int → Int} (hg : GOk w n g) (h : SRel w n L D I O B LY AM RU FF FT SP SC VD LK PL SA KN NW g) (hk : ∀ k, ¬ (k = 1 ∨ (560 ≤ k ∧ k < 600)) → g' k = g k)
    (o_c : LY' 1 = g' 1)
    (o_am : ∀ k, 0 ≤ k → k < 5 * g' 1 → AM' k = g' (560 + k)) : SRel w n L D I O B LY' AM' RU FF FT SP SC VD LK PL SA KN NW g' := by
  refine ⟨h.l0,
    h.l1,
    h.l2,
    by
      rw [hk 0 (by omega)]
      exact h.l7,
    fun e a b => by
      rw [hk _ (by omega)]
      exact h.d e a b,
    fun e a b => by
      rw [hk _ (by omega)]
      exact h.i e a b,
    fun e a b => by
      rw [hk _ (by omega)]
      exact h.o e a b,
    fun e a b => by
      rw [hk _ (by omega)]
      exact h.b e a b,
    o_c,
    o_am,
    by
      rw [hk 6 (by omega)]
      exact h.r0,
    by
      rw [hk 7 (by omega)]
      exact h.r1,
    by
      rw [hk 8 (by omega)]
      exact h.r2,
    by
      rw [hk 9 (by omega)]
      exact h.r3,
    by
      rw [hk 10 (by omega)]
      exact h.r4,
    by
      rw [hk 5 (by omega)]
      exact h.r5,
    fun e a b => by
      rw [hk _ (by omega)]
      exact h.ff e a b,
    fun s a b c => by
      rw [hk _ (by omega)] at c
      rw [hk _ (by omega)]
      exact h.ft s a b c,
    fun e a b => by
      rw [hk _ (by omega)]
      exact h.sp e a b,
    fun e a b => by
      rw [hk _ (by omega)]
      exact h.sc e a b,
    by
      rw [hk 4 (by omega)]
      exact h.v4,
    fun i a b => by
      have y := hg.vdb
      rw [hk 4 (by omega)] at b
      rw [hk _ (by omega)]
      exact h.lk i a b,
    fun i a b => by
      have y := hg.vdb
      rw [hk 4 (by omega)] at b
      rw [hk _ (by omega), hk (872 + 5 * i) (by omega)]
      exact h.pl i a b,
    fun i a b => by
      have y := hg.vdb
      rw [hk 4 (by omega)] at b
      rw [hk _ (by omega)]
      exact h.sa i a b,
    fun i a b => by
      have y := hg.vdb
      rw [hk 4 (by omega)] at b
      rw [hk _ (by omega)]
      exact h.kn i a b,
    by
      rw [hk 2 (by omega)]
      exact h.n5,
    by
      rw [hk 3 (by omega)]
      exact h.n6⟩

theorem SRel_lw {w n : Int} {L D I O B LY AM RU FF FT SP SC VD LK PL SA KN NW NW' g g' : Int → Int} (hg : GOk w n g) (h : SRel w n L D I O B LY AM RU FF FT SP SC VD LK PL SA KN NW g) (hk : ∀ k, ¬ (k = 2 ∨ k = 3) → g' k = g k)
    (o_n5 : NW' 5 = g' 2)
    (o_n6 : NW' 6 = g' 3) : SRel w n L D I O B LY AM RU FF FT SP SC VD LK PL SA KN NW' g' := by
  refine ⟨h.l0,
    h.l1,
    h.l2,
    by
      rw [hk 0 (by omega)]
      exact h.l7,
    fun e a b => by
      rw [hk _ (by omega)]
      exact h.d e a b,
    fun e a b => by
      rw [hk _ (by omega)]
      exact h.i e a b,
    fun e a b => by
      rw [hk _ (by omega)]
      exact h.o e a b,
    fun e a b => by
      rw [hk _ (by omega)]
      exact h.b e a b,
    by
      rw [hk 1 (by omega)]
      exact h.c,
    fun k a b => by
      have y := hg.lyb
      rw [hk 1 (by omega)] at b
      rw [hk _ (by omega)]
      exact h.am k a b,
    by
      rw [hk 6 (by omega)]
      exact h.r0,
    by
      rw [hk 7 (by omega)]
      exact h.r1,
    by
      rw [hk 8 (by omega)]
      exact h.r2,
    by
      rw [hk 9 (by omega)]
      exact h.r3,
    by
      rw [hk 10 (by omega)]
      exact h.r4,
    by
      rw [hk 5 (by omega)]
      exact h.r5,
    fun e a b => by
      rw [hk _ (by omega)]
      exact h.ff e a b,
    fun s a b c => by
      rw [hk _ (by omega)] at c
      rw [hk _ (by omega)]
      exact h.ft s a b c,
    fun e a b => by
      rw [hk _ (by omega)]
      exact h.sp e a b,
    fun e a b => by
      rw [hk _ (by omega)]
      exact h.sc e a b,
    by
      rw [hk 4 (by omega)]
      exact h.v4,
    fun i a b => by
      have y := hg.vdb
      rw [hk 4 (by omega)] at b
      rw [hk _ (by omega)]
      exact h.lk i a b,
    fun i a b => by
      have y := hg.vdb
      rw [hk 4 (by omega)] at b
      rw [hk _ (by omega), hk (872 + 5 * i) (by omega)]
      exact h.pl i a b,
    fun i a b => by
      have y := hg.vdb
      rw [hk 4 (by omega)] at b
      rw [hk _ (by omega)]
      exact h.sa i a b,
    fun i a b => by
      have y := hg.vdb
      rw [hk 4 (by omega)] at b
      rw [hk _ (by omega)]
      exact h.kn i a b,
    o_n5,
    o_n6⟩

theorem SRel_vd {w n : Int} {L D I O B LY AM RU FF FT SP SC VD LK PL SA KN NW VD' LK' PL' SA' KN' g g' : Int → Int} (hg : GOk w n g) (h : SRel w n L D I O B LY AM RU FF FT SP SC VD LK PL SA KN NW g) (hk : ∀ k, ¬ (k = 4 ∨ (870 ≤ k ∧ k < 1170)) → g' k = g k)
    (o_v4 : VD' 4 = g' 4)
    (o_lk : ∀ i, 0 ≤ i → i < g' 4 → LK' i = g' (870 + 5 * i))
    (o_pl : ∀ i, 0 ≤ i → i < g' 4 → PL' i = 64 * g' (871 + 5 * i) + g' (872 + 5 * i))
    (o_sa : ∀ i, 0 ≤ i → i < g' 4 → SA' i = g' (873 + 5 * i))
    (o_kn : ∀ i, 0 ≤ i → i < g' 4 → KN' i = g' (874 + 5 * i)) : SRel w n L D I O B LY AM RU FF FT SP SC VD' LK' PL' SA' KN' NW g' := by
  refine ⟨h.l0,
    h.l1,
    h.l2,
    by
      rw [hk 0 (by omega)]
      exact h.l7,
    fun e a b => by
      rw [hk _ (by omega)]
      exact h.d e a b,
    fun e a b => by
      rw [hk _ (by omega)]
      exact h.i e a b,
    fun e a b => by
      rw [hk _ (by omega)]
      exact h.o e a b,
    fun e a b => by
      rw [hk _ (by omega)]
      exact h.b e a b,
    by
      rw [hk 1 (by omega)]
      exact h.c,
    fun k a b => by
      have y := hg.lyb
      rw [hk 1 (by omega)] at b
      rw [hk _ (by omega)]
      exact h.am k a b,
    by
      rw [hk 6 (by omega)]
      exact h.r0,
    by
      rw [hk 7 (by omega)]
      exact h.r1,
    by
      rw [hk 8 (by omega)]
      exact h.r2,
    by
      rw [hk 9 (by omega)]
      exact h.r3,
    by
      rw [hk 10 (by omega)]
      exact h.r4,
    by
      rw [hk 5 (by omega)]
      exact h.r5,
    fun e a b => by
      rw [hk _ (by omega)]
      exact h.ff e a b,
    fun s a b c => by
      rw [hk _ (by omega)] at c
      rw [hk _ (by omega)]
      exact h.ft s a b c,
    fun e a b => by
      rw [hk _ (by omega)]
      exact h.sp e a b,
    fun e a b => by
      rw [hk _ (by omega)]
      exact h.sc e a b,
    o_v4,
    o_lk,
    o_pl,
    o_sa,
    o_kn,
    by
      rw [hk 2 (by omega)]
      exact h.n5,
    by
      rw [hk 3 (by omega)]
      exact h.n6⟩

theorem SRel_st {w n : Int} {L D I O B LY AM RU FF FT SP SC VD LK PL SA KN NW RU' g g' : Int → Int} (hg : GOk w n g) (h : SRel w n L D I O B LY AM RU FF FT SP SC VD LK PL SA KN NW g) (hk : ∀ k, ¬ (k = 5) → g' k = g k)
    (o_r0 : RU' 0 = g' 6)
    (o_r1 : RU' 1 = g' 7)
    (o_r2 : RU' 2 = g' 8)
    (o_r3 : RU' 3 = g' 9)
    (o_r4 : RU' 4 = g' 10)
    (o_r5 : RU' 5 = g' 5) : SRel w n L D I O B LY AM RU' FF FT SP SC VD LK PL SA KN NW g' := by
  refine ⟨h.l0,
    h.l1,
    h.l2,
    by
      rw [hk 0 (by omega)]
      exact h.l7,
    fun e a b => by
      rw [hk _ (by omega)]
      exact h.d e a b,
    fun e a b => by
      rw [hk _ (by omega)]
      exact h.i e a b,
    fun e a b => by
      rw [hk _ (by omega)]
      exact h.o e a b,
    fun e a b => by
      rw [hk _ (by omega)]
      exact h.b e a b,
    by
      rw [hk 1 (by omega)]
      exact h.c,
    fun k a b => by
      have y := hg.lyb
      rw [hk 1 (by omega)] at b
      rw [hk _ (by omega)]
      exact h.am k a b,
    o_r0,
    o_r1,
    o_r2,
    o_r3,
    o_r4,
    o_r5,
    fun e a b => by
      rw [hk _ (by omega)]
      exact h.ff e a b,
    fun s a b c => by
      rw [hk _ (by omega)] at c
      rw [hk _ (by omega)]
      exact h.ft s a b c,
    fun e a b => by
      rw [hk _ (by omega)]
      exact h.sp e a b,
    fun e a b => by
      rw [hk _ (by omega)]
      exact h.sc e a b,
    by
      rw [hk 4 (by omega)]
      exact h.v4,
    fun i a b => by
      have y := hg.vdb
      rw [hk 4 (by omega)] at b
      rw [hk _ (by omega)]
      exact h.lk i a b,
    fun i a b => by
      have y := hg.vdb
      rw [hk 4 (by omega)] at b
      rw [hk _ (by omega), hk (872 + 5 * i) (by omega)]
      exact h.pl i a b,
    fun i a b => by
      have y := hg.vdb
      rw [hk 4 (by omega)] at b
      rw [hk _ (by omega)]
      exact h.sa i a b,
    fun i a b => by
      have y := hg.vdb
      rw [hk 4 (by omega)] at b
      rw [hk _ (by omega)]
      exact h.kn i a b,
    by
      rw [hk 2 (by omega)]
      exact h.n5,
    by
      rw [hk 3 (by omega)]
      exact h.n6⟩

theorem SRel_ru {w n : Int} {L D I O B LY AM RU FF FT SP SC VD LK PL SA KN NW RU' g g' : Int → Int} (hg : GOk w n g) (h : SRel w n L D I O B LY AM RU FF FT SP SC VD LK PL SA KN NW g) (hk : ∀ k, ¬ (6 ≤ k ∧ k ≤ 10) → g' k = g k)
    (o_r0 : RU' 0 = g' 6)
    (o_r1 : RU' 1 = g' 7)
    (o_r2 : RU' 2 = g' 8)
    (o_r3 : RU' 3 = g' 9)
    (o_r4 : RU' 4 = g' 10)
    (o_r5 : RU' 5 = g' 5) : SRel w n L D I O B LY AM RU' FF FT SP SC VD LK PL SA KN NW g' := by
  refine ⟨h.l0,
    h.l1,
    h.l2,
    by
      rw [hk 0 (by omega)]
      exact h.l7,
    fun e a b => by
      rw [hk _ (by omega)]
      exact h.d e a b,
    fun e a b => by
      rw [hk _ (by omega)]
      exact h.i e a b,
    fun e a b => by
      rw [hk _ (by omega)]
      exact h.o e a b,
    fun e a b => by
      rw [hk _ (by omega)]
      exact h.b e a b,
    by
      rw [hk 1 (by omega)]
      exact h.c,
    fun k a b => by
      have y := hg.lyb
      rw [hk 1 (by omega)] at b
      rw [hk _ (by omega)]
      exact h.am k a b,
    o_r0,
    o_r1,
    o_r2,
    o_r3,
    o_r4,
    o_r5,
    fun e a b => by
      rw [hk _ (by omega)]
      exact h.ff e a b,
    fun s a b c => by
      rw [hk _ (by omega)] at c
      rw [hk _ (by omega)]
      exact h.ft s a b c,
    fun e a b => by
      rw [hk _ (by omega)]
      exact h.sp e a b,
    fun e a b => by
      rw [hk _ (by omega)]
      exact h.sc e a b,
    by
      rw [hk 4 (by omega)]
      exact h.v4,
    fun i a b => by
      have y := hg.vdb
      rw [hk 4 (by omega)] at b
      rw [hk _ (by omega)]
      exact h.lk i a b,
    fun i a b => by
      have y := hg.vdb
      rw [hk 4 (by omega)] at b
      rw [hk _ (by omega), hk (872 + 5 * i) (by omega)]
      exact h.pl i a b,
    fun i a b => by
      have y := hg.vdb
      rw [hk 4 (by omega)] at b
      rw [hk _ (by omega)]
      exact h.sa i a b,
    fun i a b => by
      have y := hg.vdb
      rw [hk 4 (by omega)] at b
      rw [hk _ (by omega)]
      exact h.kn i a b,
    by
      rw [hk 2 (by omega)]
      exact h.n5,
    by
      rw [hk 3 (by omega)]
      exact h.n6⟩

theorem SRel_fl {w n : Int} {L D I O B LY AM RU FF FT SP SC VD LK PL SA KN NW FF' FT' g g' : Int → Int} (hg : GOk w n g) (h : SRel w n L D I O B LY AM RU FF FT SP SC VD LK PL SA KN NW g) (hk : ∀ k, ¬ (600 ≤ k ∧ k < 610) → g' k = g k)
    (o_ff : ∀ s, 0 ≤ s → s < 5 → FF' s = g' (600 + 2 * s))
    (o_ft : ∀ s, 0 ≤ s → s < 5 → ¬ g' (600 + 2 * s) = -1 → FT' s = g' (601 + 2 * s)) : SRel w n L D I O B LY AM RU FF' FT' SP SC VD LK PL SA KN NW g' := by
  refine ⟨h.l0,
    h.l1,
    h.l2,
    by
      rw [hk 0 (by omega)]
      exact h.l7,
    fun e a b => by
      rw [hk _ (by omega)]
      exact h.d e a b,
    fun e a b => by
      rw [hk _ (by omega)]
      exact h.i e a b,
    fun e a b => by
      rw [hk _ (by omega)]
      exact h.o e a b,
    fun e a b => by
      rw [hk _ (by omega)]
      exact h.b e a b,
    by
      rw [hk 1 (by omega)]
      exact h.c,
    fun k a b => by
      have y := hg.lyb
      rw [hk 1 (by omega)] at b
      rw [hk _ (by omega)]
      exact h.am k a b,
    by
      rw [hk 6 (by omega)]
      exact h.r0,
    by
      rw [hk 7 (by omega)]
      exact h.r1,
    by
      rw [hk 8 (by omega)]
      exact h.r2,
    by
      rw [hk 9 (by omega)]
      exact h.r3,
    by
      rw [hk 10 (by omega)]
      exact h.r4,
    by
      rw [hk 5 (by omega)]
      exact h.r5,
    o_ff,
    o_ft,
    fun e a b => by
      rw [hk _ (by omega)]
      exact h.sp e a b,
    fun e a b => by
      rw [hk _ (by omega)]
      exact h.sc e a b,
    by
      rw [hk 4 (by omega)]
      exact h.v4,
    fun i a b => by
      have y := hg.vdb
      rw [hk 4 (by omega)] at b
      rw [hk _ (by omega)]
      exact h.lk i a b,
    fun i a b => by
      have y := hg.vdb
      rw [hk 4 (by omega)] at b
      rw [hk _ (by omega), hk (872 + 5 * i) (by omega)]
      exact h.pl i a b,
    fun i a b => by
      have y := hg.vdb
      rw [hk 4 (by omega)] at b
      rw [hk _ (by omega)]
      exact h.sa i a b,
    fun i a b => by
      have y := hg.vdb
      rw [hk 4 (by omega)] at b
      rw [hk _ (by omega)]
      exact h.kn i a b,
    by
      rw [hk 2 (by omega)]
      exact h.n5,
    by
      rw [hk 3 (by omega)]
      exact h.n6⟩

theorem SRel_sp {w n : Int} {L D I O B LY AM RU FF FT SP SC VD LK PL SA KN NW SP' SC' g g' : Int → Int} (hg : GOk w n g) (h : SRel w n L D I O B LY AM RU FF FT SP SC VD LK PL SA KN NW g) (hk : ∀ k, ¬ ((610 ≤ k ∧ k < 614) ∨ (620 ≤ k ∧ k < 860)) → g' k = g k)
    (o_sp : ∀ k, 0 ≤ k → k < 240 → SP' k = g' (620 + k))
    (o_sc : ∀ s, 0 ≤ s → s < 4 → SC' s = g' (610 + s)) : SRel w n L D I O B LY AM RU FF FT SP' SC' VD LK PL SA KN NW g' := by
  refine ⟨h.l0,
    h.l1,
    h.l2,
    by
      rw [hk 0 (by omega)]
      exact h.l7,
    fun e a b => by
      rw [hk _ (by omega)]
      exact h.d e a b,
    fun e a b => by
      rw [hk _ (by omega)]
      exact h.i e a b,
    fun e a b => by
      rw [hk _ (by omega)]
      exact h.o e a b,
    fun e a b => by
      rw [hk _ (by omega)]
      exact h.b e a b,
    by
      rw [hk 1 (by omega)]
      exact h.c,
    fun k a b => by
      have y := hg.lyb
      rw [hk 1 (by omega)] at b
      rw [hk _ (by omega)]
      exact h.am k a b,
    by
      rw [hk 6 (by omega)]
      exact h.r0,
    by
      rw [hk 7 (by omega)]
      exact h.r1,
    by
      rw [hk 8 (by omega)]
      exact h.r2,
    by
      rw [hk 9 (by omega)]
      exact h.r3,
    by
      rw [hk 10 (by omega)]
      exact h.r4,
    by
      rw [hk 5 (by omega)]
      exact h.r5,
    fun e a b => by
      rw [hk _ (by omega)]
      exact h.ff e a b,
    fun s a b c => by
      rw [hk _ (by omega)] at c
      rw [hk _ (by omega)]
      exact h.ft s a b c,
    o_sp,
    o_sc,
    by
      rw [hk 4 (by omega)]
      exact h.v4,
    fun i a b => by
      have y := hg.vdb
      rw [hk 4 (by omega)] at b
      rw [hk _ (by omega)]
      exact h.lk i a b,
    fun i a b => by
      have y := hg.vdb
      rw [hk 4 (by omega)] at b
      rw [hk _ (by omega), hk (872 + 5 * i) (by omega)]
      exact h.pl i a b,
    fun i a b => by
      have y := hg.vdb
      rw [hk 4 (by omega)] at b
      rw [hk _ (by omega)]
      exact h.sa i a b,
    fun i a b => by
      have y := hg.vdb
      rw [hk 4 (by omega)] at b
      rw [hk _ (by omega)]
      exact h.kn i a b,
    by
      rw [hk 2 (by omega)]
      exact h.n5,
    by
      rw [hk 3 (by omega)]
      exact h.n6⟩
