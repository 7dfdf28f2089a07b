/-! THE PURE LAYER 8: what a change of a part of the row leaves -/
theorem Ends_congr {n : Int} {og og' : Int → Int} (ho : OgR n og) (h : ∀ e, 0 ≤ e → e < n → og' e = og e) (he : Ends n og) : Ends n og' := by
  have key : ∀ (k : Nat) (c : Int), (c = -1 ∨ (0 ≤ c ∧ c < n)) → itf (stp og') k c = itf (stp og) k c := by
    intro k
    induction k with
    | zero => intro c _; rfl
    | succ k ih =>
      intro c hc
      have e1 : stp og' c = stp og c := by
        unfold stp
        split
        · rfl
        · exact h c (by omega) (by omega)
      show itf _ k (stp og' c) = itf _ k (stp og c)
      rw [e1]
      exact ih _ (itf_rng ho 1 c hc)
  intro c h0 hn
  obtain ⟨k, hk⟩ := he c h0 hn
  exact ⟨k, (key k c (Or.inr ⟨h0, hn⟩)).trans hk⟩
theorem sumTo_congr {f f' : Int → Int} {n : Int} (h : ∀ e, 0 ≤ e → e < n → f' e = f e) : sumTo f' n = sumTo f n := by
  unfold sumTo
  refine xfor_congr_n fun j s a b => ?_
  rw [h j a b]
theorem sum5_congr {f f' : Int → Int} {t : Int} (h : ∀ k, t ≤ k → k < t + 5 → f' k = f k) : sum5 f' t = sum5 f t := by
  unfold sum5
  rw [h t (by omega) (by omega), h (t + 1) (by omega) (by omega), h (t + 2) (by omega) (by omega), h (t + 3) (by omega) (by omega), h (t + 4) (by omega) (by omega)]

theorem GOk_cr {w n : Int} {g g' : Int → Int} (h : GOk w n g) (hk : ∀ k, ¬ (90 ≤ k ∧ k < 154) → g' k = g k)
    (o_ogr : ∀ e, 0 ≤ e → e < 64 → g' (90 + e) = -1 ∨ (0 ≤ g' (90 + e) ∧ g' (90 + e) < n))
    (o_ogE : Ends n (fun e => g' (90 + e))) : GOk w n g' := by
  refine ⟨h.ww,
    h.nn,
    fun e a b => by
      rw [hk _ (by omega)]
      exact h.dgb e a b,
    o_ogr,
    o_ogE,
    fun e a b => by
      rw [hk _ (by omega)]
      exact h.brb e a b,
    fun e a b => by
      rw [hk _ (by omega)]
      exact h.amb e a b,
    fun e a b c => by
      rw [hk _ (by omega)] at c
      rw [sum5_congr (f := fun k => g (230 + k)) (fun k x y => hk _ (by omega))]
      exact h.ams e a b c,
    fun e a b => by
      have nn := h.nn
      rw [hk _ (by omega)]
      exact h.dgn e a b,
    by
      rw [hk _ (by omega), sumTo_congr (f := fun e => g (160 + e)) (fun e a b => hk _ (by omega))]
      exact h.dgs,
    by
      rw [hk 1 (by omega)]
      exact h.lyb,
    fun k a b => by
      have y := h.lyb
      rw [hk 1 (by omega)] at b
      rw [hk _ (by omega)]
      exact h.lya k a b,
    fun l a b => by
      have y := h.lyb
      rw [hk 1 (by omega)] at b
      rw [sum5_congr (f := fun k => g (560 + k)) (fun k x y => hk _ (by omega))]
      exact h.lys l a b,
    by
      rw [hk 2 (by omega)]
      exact h.lwb,
    by
      rw [hk 3 (by omega), hk 2 (by omega)]
      exact h.lwt,
    by
      rw [hk 4 (by omega)]
      exact h.vdb,
    fun i a b => by
      have y := h.vdb
      rw [hk 4 (by omega)] at b
      rw [hk _ (by omega), hk (871 + 5 * i) (by omega), hk (872 + 5 * i) (by omega), hk (873 + 5 * i) (by omega), hk (874 + 5 * i) (by omega)]
      exact h.vdi i a b,
    by
      rw [hk 5 (by omega)]
      exact h.stc,
    by
      rw [hk 6 (by omega)]
      exact h.bnd,
    by
      rw [hk 7 (by omega)]
      exact h.pce,
    by
      rw [hk 8 (by omega)]
      exact h.kep,
    by
      rw [hk 9 (by omega)]
      exact h.msg,
    by
      rw [hk 10 (by omega)]
      exact h.odd,
    fun s a b => by
      rw [hk _ (by omega)]
      exact h.flf s a b,
    fun s a b c => by
      rw [hk _ (by omega)] at c
      rw [hk _ (by omega)]
      exact h.flt s a b c,
    fun s a b => by
      rw [hk _ (by omega)]
      exact h.spc s a b,
    fun s k a b c e => by
      have y := h.spc s a b
      rw [hk (610 + s) (by omega)] at e
      rw [hk (620 + (60 * s + 3 * k)) (by omega), hk (621 + (60 * s + 3 * k)) (by omega), hk (622 + (60 * s + 3 * k)) (by omega)]
      exact h.spb s k a b c e⟩

theorem GOk_br {w n : Int} {g g' : Int → Int} (h : GOk w n g) (hk : ∀ k, ¬ (20 ≤ k ∧ k < 84) → g' k = g k)
    (o_brb : ∀ e, 0 ≤ e → e < 64 → g' (20 + e) = 0 ∨ g' (20 + e) = 1) : GOk w n g' := by
  refine ⟨h.ww,
    h.nn,
    fun e a b => by
      rw [hk _ (by omega)]
      exact h.dgb e a b,
    fun e a b => by
      rw [hk _ (by omega)]
      exact h.ogr e a b,
    Ends_congr (fun e a b => h.ogr e a (by have := h.nn; omega)) (fun e a b => hk _ (by have := h.nn; omega)) h.ogE,
    o_brb,
    fun e a b => by
      rw [hk _ (by omega)]
      exact h.amb e a b,
    fun e a b c => by
      rw [hk _ (by omega)] at c
      rw [sum5_congr (f := fun k => g (230 + k)) (fun k x y => hk _ (by omega))]
      exact h.ams e a b c,
    fun e a b => by
      have nn := h.nn
      rw [hk _ (by omega)]
      exact h.dgn e a b,
    by
      rw [hk _ (by omega), sumTo_congr (f := fun e => g (160 + e)) (fun e a b => hk _ (by omega))]
      exact h.dgs,
    by
      rw [hk 1 (by omega)]
      exact h.lyb,
    fun k a b => by
      have y := h.lyb
      rw [hk 1 (by omega)] at b
      rw [hk _ (by omega)]
      exact h.lya k a b,
    fun l a b => by
      have y := h.lyb
      rw [hk 1 (by omega)] at b
      rw [sum5_congr (f := fun k => g (560 + k)) (fun k x y => hk _ (by omega))]
      exact h.lys l a b,
    by
      rw [hk 2 (by omega)]
      exact h.lwb,
    by
      rw [hk 3 (by omega), hk 2 (by omega)]
      exact h.lwt,
    by
      rw [hk 4 (by omega)]
      exact h.vdb,
    fun i a b => by
      have y := h.vdb
      rw [hk 4 (by omega)] at b
      rw [hk _ (by omega), hk (871 + 5 * i) (by omega), hk (872 + 5 * i) (by omega), hk (873 + 5 * i) (by omega), hk (874 + 5 * i) (by omega)]
      exact h.vdi i a b,
    by
      rw [hk 5 (by omega)]
      exact h.stc,
    by
      rw [hk 6 (by omega)]
      exact h.bnd,
    by
      rw [hk 7 (by omega)]
      exact h.pce,
    by
      rw [hk 8 (by omega)]
      exact h.kep,
    by
      rw [hk 9 (by omega)]
      exact h.msg,
    by
      rw [hk 10 (by omega)]
      exact h.odd,
    fun s a b => by
      rw [hk _ (by omega)]
      exact h.flf s a b,
    fun s a b c => by
      rw [hk _ (by omega)] at c
      rw [hk _ (by omega)]
      exact h.flt s a b c,
    fun s a b => by
      rw [hk _ (by omega)]
      exact h.spc s a b,
    fun s k a b c e => by
      have y := h.spc s a b
      rw [hk (610 + s) (by omega)] at e
      rw [hk (620 + (60 * s + 3 * k)) (by omega), hk (621 + (60 * s + 3 * k)) (by omega), hk (622 + (60 * s + 3 * k)) (by omega)]
      exact h.spb s k a b c e⟩

theorem GOk_dg {w n : Int} {g g' : Int → Int} (h : GOk w n g) (hk : ∀ k, ¬ (k = 0 ∨ (160 ≤ k ∧ k < 224) ∨ (230 ≤ k ∧ k < 550)) → g' k = g k)
    (o_dgb : ∀ e, 0 ≤ e → e < 64 → g' (160 + e) = 0 ∨ g' (160 + e) = 1)
    (o_amb : ∀ k, 0 ≤ k → k < 320 → 0 ≤ g' (230 + k) ∧ g' (230 + k) ≤ 9)
    (o_ams : ∀ e, 0 ≤ e → e < 64 → g' (160 + e) = 1 → 1 ≤ sum5 (fun k => g' (230 + k)) (5 * e))
    (o_dgn : ∀ e, n ≤ e → e < 64 → g' (160 + e) = 0)
    (o_dgs : g' 0 = sumTo (fun e => g' (160 + e)) 64) : GOk w n g' := by
  refine ⟨h.ww,
    h.nn,
    o_dgb,
    fun e a b => by
      rw [hk _ (by omega)]
      exact h.ogr e a b,
    Ends_congr (fun e a b => h.ogr e a (by have := h.nn; omega)) (fun e a b => hk _ (by have := h.nn; omega)) h.ogE,
    fun e a b => by
      rw [hk _ (by omega)]
      exact h.brb e a b,
    o_amb,
    o_ams,
    o_dgn,
    o_dgs,
    by
      rw [hk 1 (by omega)]
      exact h.lyb,
    fun k a b => by
      have y := h.lyb
      rw [hk 1 (by omega)] at b
      rw [hk _ (by omega)]
      exact h.lya k a b,
    fun l a b => by
      have y := h.lyb
      rw [hk 1 (by omega)] at b
      rw [sum5_congr (f := fun k => g (560 + k)) (fun k x y => hk _ (by omega))]
      exact h.lys l a b,
    by
      rw [hk 2 (by omega)]
      exact h.lwb,
    by
      rw [hk 3 (by omega), hk 2 (by omega)]
      exact h.lwt,
    by
      rw [hk 4 (by omega)]
      exact h.vdb,
    fun i a b => by
      have y := h.vdb
      rw [hk 4 (by omega)] at b
      rw [hk _ (by omega), hk (871 + 5 * i) (by omega), hk (872 + 5 * i) (by omega), hk (873 + 5 * i) (by omega), hk (874 + 5 * i) (by omega)]
      exact h.vdi i a b,
    by
      rw [hk 5 (by omega)]
      exact h.stc,
    by
      rw [hk 6 (by omega)]
      exact h.bnd,
    by
      rw [hk 7 (by omega)]
      exact h.pce,
    by
      rw [hk 8 (by omega)]
      exact h.kep,
    by
      rw [hk 9 (by omega)]
      exact h.msg,
    by
      rw [hk 10 (by omega)]
      exact h.odd,
    fun s a b => by
      rw [hk _ (by omega)]
      exact h.flf s a b,
    fun s a b c => by
      rw [hk _ (by omega)] at c
      rw [hk _ (by omega)]
      exact h.flt s a b c,
    fun s a b => by
      rw [hk _ (by omega)]
      exact h.spc s a b,
    fun s k a b c e => by
      have y := h.spc s a b
      rw [hk (610 + s) (by omega)] at e
      rw [hk (620 + (60 * s + 3 * k)) (by omega), hk (621 + (60 * s + 3 * k)) (by omega), hk (622 + (60 * s + 3 * k)) (by omega)]
      exact h.spb s k a b c e⟩

theorem GOk_ly {w n : Int} {g g' : Int → Int} (h : GOk w n g) (hk : ∀ k, ¬ (k = 1 ∨ (560 ≤ k ∧ k < 600)) → g' k = g k)
    (o_lyb : 0 ≤ g' 1 ∧ g' 1 ≤ 8)
    (o_lya : ∀ k, 0 ≤ k → k < 5 * g' 1 → 0 ≤ g' (560 + k) ∧ g' (560 + k) ≤ 99)
    (o_lys : ∀ l, 0 ≤ l → l < g' 1 → 1 ≤ sum5 (fun k => g' (560 + k)) (5 * l)) : GOk w n g' := by
  refine ⟨h.ww,
    h.nn,
    fun e a b => by
      rw [hk _ (by omega)]
      exact h.dgb e a b,
    fun e a b => by
      rw [hk _ (by omega)]
      exact h.ogr e a b,
    Ends_congr (fun e a b => h.ogr e a (by have := h.nn; omega)) (fun e a b => hk _ (by have := h.nn; omega)) h.ogE,
    fun e a b => by
      rw [hk _ (by omega)]
      exact h.brb e a b,
    fun e a b => by
      rw [hk _ (by omega)]
      exact h.amb e a b,
    fun e a b c => by
      rw [hk _ (by omega)] at c
      rw [sum5_congr (f := fun k => g (230 + k)) (fun k x y => hk _ (by omega))]
      exact h.ams e a b c,
    fun e a b => by
      have nn := h.nn
      rw [hk _ (by omega)]
      exact h.dgn e a b,
    by
      rw [hk _ (by omega), sumTo_congr (f := fun e => g (160 + e)) (fun e a b => hk _ (by omega))]
      exact h.dgs,
    o_lyb,
    o_lya,
    o_lys,
    by
      rw [hk 2 (by omega)]
      exact h.lwb,
    by
      rw [hk 3 (by omega), hk 2 (by omega)]
      exact h.lwt,
    by
      rw [hk 4 (by omega)]
      exact h.vdb,
    fun i a b => by
      have y := h.vdb
      rw [hk 4 (by omega)] at b
      rw [hk _ (by omega), hk (871 + 5 * i) (by omega), hk (872 + 5 * i) (by omega), hk (873 + 5 * i) (by omega), hk (874 + 5 * i) (by omega)]
      exact h.vdi i a b,
    by
      rw [hk 5 (by omega)]
      exact h.stc,
    by
      rw [hk 6 (by omega)]
      exact h.bnd,
    by
      rw [hk 7 (by omega)]
      exact h.pce,
    by
      rw [hk 8 (by omega)]
      exact h.kep,
    by
      rw [hk 9 (by omega)]
      exact h.msg,
    by
      rw [hk 10 (by omega)]
      exact h.odd,
    fun s a b => by
      rw [hk _ (by omega)]
      exact h.flf s a b,
    fun s a b c => by
      rw [hk _ (by omega)] at c
      rw [hk _ (by omega)]
      exact h.flt s a b c,
    fun s a b => by
      rw [hk _ (by omega)]
      exact h.spc s a b,
    fun s k a b c e => by
      have y := h.spc s a b
      rw [hk (610 + s) (by omega)] at e
      rw [hk (620 + (60 * s + 3 * k)) (by omega), hk (621 + (60 * s + 3 * k)) (by omega), hk (622 + (60 * s + 3 * k)) (by omega)]
      exact h.spb s k a b c e⟩

theorem GOk_lw {w n : Int} {g g' : Int → Int} (h : GOk w n g) (hk : ∀ k, ¬ (k = 2 ∨ k = 3) → g' k = g k)
    (o_lwb : 0 ≤ g' 2 ∧ g' 2 ≤ 4)
    (o_lwt : -1 ≤ g' 3 ∧ g' 3 < g' 2) : GOk w n g' := by
  refine ⟨h.ww,
    h.nn,
    fun e a b => by
      rw [hk _ (by omega)]
      exact h.dgb e a b,
    fun e a b => by
      rw [hk _ (by omega)]
      exact h.ogr e a b,
    Ends_congr (fun e a b => h.ogr e a (by have := h.nn; omega)) (fun e a b => hk _ (by have := h.nn; omega)) h.ogE,
    fun e a b => by
      rw [hk _ (by omega)]
      exact h.brb e a b,
    fun e a b => by
      rw [hk _ (by omega)]
      exact h.amb e a b,
    fun e a b c => by
      rw [hk _ (by omega)] at c
      rw [sum5_congr (f := fun k => g (230 + k)) (fun k x y => hk _ (by omega))]
      exact h.ams e a b c,
    fun e a b => by
      have nn := h.nn
      rw [hk _ (by omega)]
      exact h.dgn e a b,
    by
      rw [hk _ (by omega), sumTo_congr (f := fun e => g (160 + e)) (fun e a b => hk _ (by omega))]
      exact h.dgs,
    by
      rw [hk 1 (by omega)]
      exact h.lyb,
    fun k a b => by
      have y := h.lyb
      rw [hk 1 (by omega)] at b
      rw [hk _ (by omega)]
      exact h.lya k a b,
    fun l a b => by
      have y := h.lyb
      rw [hk 1 (by omega)] at b
      rw [sum5_congr (f := fun k => g (560 + k)) (fun k x y => hk _ (by omega))]
      exact h.lys l a b,
    o_lwb,
    o_lwt,
    by
      rw [hk 4 (by omega)]
      exact h.vdb,
    fun i a b => by
      have y := h.vdb
      rw [hk 4 (by omega)] at b
      rw [hk _ (by omega), hk (871 + 5 * i) (by omega), hk (872 + 5 * i) (by omega), hk (873 + 5 * i) (by omega), hk (874 + 5 * i) (by omega)]
      exact h.vdi i a b,
    by
      rw [hk 5 (by omega)]
      exact h.stc,
    by
      rw [hk 6 (by omega)]
      exact h.bnd,
    by
      rw [hk 7 (by omega)]
      exact h.pce,
    by
      rw [hk 8 (by omega)]
      exact h.kep,
    by
      rw [hk 9 (by omega)]
      exact h.msg,
    by
      rw [hk 10 (by omega)]
      exact h.odd,
    fun s a b => by
      rw [hk _ (by omega)]
      exact h.flf s a b,
    fun s a b c => by
      rw [hk _ (by omega)] at c
      rw [hk _ (by omega)]
      exact h.flt s a b c,
    fun s a b => by
      rw [hk _ (by omega)]
      exact h.spc s a b,
    fun s k a b c e => by
      have y := h.spc s a b
      rw [hk (610 + s) (by omega)] at e
      rw [hk (620 + (60 * s + 3 * k)) (by omega), hk (621 + (60 * s + 3 * k)) (by omega), hk (622 + (60 * s + 3 * k)) (by omega)]
      exact h.spb s k a b c e⟩

theorem GOk_vd {w n : Int} {g g' : Int → Int} (h : GOk w n g) (hk : ∀ k, ¬ (k = 4 ∨ (870 ≤ k ∧ k < 1170)) → g' k = g k)
    (o_vdb : 0 ≤ g' 4 ∧ g' 4 ≤ 60)
    (o_vdi : ∀ i, 0 ≤ i → i < g' 4 → (0 ≤ g' (870 + 5 * i) ∧ g' (870 + 5 * i) ≤ 3) ∧ (0 ≤ g' (871 + 5 * i) ∧ g' (871 + 5 * i) ≤ 7) ∧ (0 ≤ g' (872 + 5 * i) ∧ g' (872 + 5 * i) < n) ∧ (g' (873 + 5 * i) = 0 ∨ g' (873 + 5 * i) = 1) ∧ (g' (874 + 5 * i) = 0 ∨ g' (874 + 5 * i) = 1)) : GOk w n g' := by
  refine ⟨h.ww,
    h.nn,
    fun e a b => by
      rw [hk _ (by omega)]
      exact h.dgb e a b,
    fun e a b => by
      rw [hk _ (by omega)]
      exact h.ogr e a b,
    Ends_congr (fun e a b => h.ogr e a (by have := h.nn; omega)) (fun e a b => hk _ (by have := h.nn; omega)) h.ogE,
    fun e a b => by
      rw [hk _ (by omega)]
      exact h.brb e a b,
    fun e a b => by
      rw [hk _ (by omega)]
      exact h.amb e a b,
    fun e a b c => by
      rw [hk _ (by omega)] at c
      rw [sum5_congr (f := fun k => g (230 + k)) (fun k x y => hk _ (by omega))]
      exact h.ams e a b c,
    fun e a b => by
      have nn := h.nn
      rw [hk _ (by omega)]
      exact h.dgn e a b,
    by
      rw [hk _ (by omega), sumTo_congr (f := fun e => g (160 + e)) (fun e a b => hk _ (by omega))]
      exact h.dgs,
    by
      rw [hk 1 (by omega)]
      exact h.lyb,
    fun k a b => by
      have y := h.lyb
      rw [hk 1 (by omega)] at b
      rw [hk _ (by omega)]
      exact h.lya k a b,
    fun l a b => by
      have y := h.lyb
      rw [hk 1 (by omega)] at b
      rw [sum5_congr (f := fun k => g (560 + k)) (fun k x y => hk _ (by omega))]
      exact h.lys l a b,
    by
      rw [hk 2 (by omega)]
      exact h.lwb,
    by
      rw [hk 3 (by omega), hk 2 (by omega)]
      exact h.lwt,
    o_vdb,
    o_vdi,
    by
      rw [hk 5 (by omega)]
      exact h.stc,
    by
      rw [hk 6 (by omega)]
      exact h.bnd,
    by
      rw [hk 7 (by omega)]
      exact h.pce,
    by
      rw [hk 8 (by omega)]
      exact h.kep,
    by
      rw [hk 9 (by omega)]
      exact h.msg,
    by
      rw [hk 10 (by omega)]
      exact h.odd,
    fun s a b => by
      rw [hk _ (by omega)]
      exact h.flf s a b,
    fun s a b c => by
      rw [hk _ (by omega)] at c
      rw [hk _ (by omega)]
      exact h.flt s a b c,
    fun s a b => by
      rw [hk _ (by omega)]
      exact h.spc s a b,
    fun s k a b c e => by
      have y := h.spc s a b
      rw [hk (610 + s) (by omega)] at e
      rw [hk (620 + (60 * s + 3 * k)) (by omega), hk (621 + (60 * s + 3 * k)) (by omega), hk (622 + (60 * s + 3 * k)) (by omega)]
      exact h.spb s k a b c e⟩

theorem GOk_st {w n : Int} {g g' : Int → Int} (h : GOk w n g) (hk : ∀ k, ¬ (k = 5) → g' k = g k)
    (o_stc : 0 ≤ g' 5 ∧ g' 5 < n) : GOk w n g' := by
  refine ⟨h.ww,
    h.nn,
    fun e a b => by
      rw [hk _ (by omega)]
      exact h.dgb e a b,
    fun e a b => by
      rw [hk _ (by omega)]
      exact h.ogr e a b,
    Ends_congr (fun e a b => h.ogr e a (by have := h.nn; omega)) (fun e a b => hk _ (by have := h.nn; omega)) h.ogE,
    fun e a b => by
      rw [hk _ (by omega)]
      exact h.brb e a b,
    fun e a b => by
      rw [hk _ (by omega)]
      exact h.amb e a b,
    fun e a b c => by
      rw [hk _ (by omega)] at c
      rw [sum5_congr (f := fun k => g (230 + k)) (fun k x y => hk _ (by omega))]
      exact h.ams e a b c,
    fun e a b => by
      have nn := h.nn
      rw [hk _ (by omega)]
      exact h.dgn e a b,
    by
      rw [hk _ (by omega), sumTo_congr (f := fun e => g (160 + e)) (fun e a b => hk _ (by omega))]
      exact h.dgs,
    by
      rw [hk 1 (by omega)]
      exact h.lyb,
    fun k a b => by
      have y := h.lyb
      rw [hk 1 (by omega)] at b
      rw [hk _ (by omega)]
      exact h.lya k a b,
    fun l a b => by
      have y := h.lyb
      rw [hk 1 (by omega)] at b
      rw [sum5_congr (f := fun k => g (560 + k)) (fun k x y => hk _ (by omega))]
      exact h.lys l a b,
    by
      rw [hk 2 (by omega)]
      exact h.lwb,
    by
      rw [hk 3 (by omega), hk 2 (by omega)]
      exact h.lwt,
    by
      rw [hk 4 (by omega)]
      exact h.vdb,
    fun i a b => by
      have y := h.vdb
      rw [hk 4 (by omega)] at b
      rw [hk _ (by omega), hk (871 + 5 * i) (by omega), hk (872 + 5 * i) (by omega), hk (873 + 5 * i) (by omega), hk (874 + 5 * i) (by omega)]
      exact h.vdi i a b,
    o_stc,
    by
      rw [hk 6 (by omega)]
      exact h.bnd,
    by
      rw [hk 7 (by omega)]
      exact h.pce,
    by
      rw [hk 8 (by omega)]
      exact h.kep,
    by
      rw [hk 9 (by omega)]
      exact h.msg,
    by
      rw [hk 10 (by omega)]
      exact h.odd,
    fun s a b => by
      rw [hk _ (by omega)]
      exact h.flf s a b,
    fun s a b c => by
      rw [hk _ (by omega)] at c
      rw [hk _ (by omega)]
      exact h.flt s a b c,
    fun s a b => by
      rw [hk _ (by omega)]
      exact h.spc s a b,
    fun s k a b c e => by
      have y := h.spc s a b
      rw [hk (610 + s) (by omega)] at e
      rw [hk (620 + (60 * s + 3 * k)) (by omega), hk (621 + (60 * s + 3 * k)) (by omega), hk (622 + (60 * s + 3 * k)) (by omega)]
      exact h.spb s k a b c e⟩

theorem GOk_ru {w n : Int} {g g' : Int → Int} (h : GOk w n g) (hk : ∀ k, ¬ (6 ≤ k ∧ k ≤ 10) → g' k = g k)
    (o_bnd : 0 ≤ g' 6 ∧ g' 6 ≤ 1000)
    (o_pce : 0 ≤ g' 7 ∧ g' 7 ≤ 99)
    (o_kep : 0 ≤ g' 8 ∧ g' 8 ≤ 11)
    (o_msg : 0 ≤ g' 9 ∧ g' 9 ≤ 1000)
    (o_odd : 0 ≤ g' 10 ∧ g' 10 ≤ 1000) : GOk w n g' := by
  refine ⟨h.ww,
    h.nn,
    fun e a b => by
      rw [hk _ (by omega)]
      exact h.dgb e a b,
    fun e a b => by
      rw [hk _ (by omega)]
      exact h.ogr e a b,
    Ends_congr (fun e a b => h.ogr e a (by have := h.nn; omega)) (fun e a b => hk _ (by have := h.nn; omega)) h.ogE,
    fun e a b => by
      rw [hk _ (by omega)]
      exact h.brb e a b,
    fun e a b => by
      rw [hk _ (by omega)]
      exact h.amb e a b,
    fun e a b c => by
      rw [hk _ (by omega)] at c
      rw [sum5_congr (f := fun k => g (230 + k)) (fun k x y => hk _ (by omega))]
      exact h.ams e a b c,
    fun e a b => by
      have nn := h.nn
      rw [hk _ (by omega)]
      exact h.dgn e a b,
    by
      rw [hk _ (by omega), sumTo_congr (f := fun e => g (160 + e)) (fun e a b => hk _ (by omega))]
      exact h.dgs,
    by
      rw [hk 1 (by omega)]
      exact h.lyb,
    fun k a b => by
      have y := h.lyb
      rw [hk 1 (by omega)] at b
      rw [hk _ (by omega)]
      exact h.lya k a b,
    fun l a b => by
      have y := h.lyb
      rw [hk 1 (by omega)] at b
      rw [sum5_congr (f := fun k => g (560 + k)) (fun k x y => hk _ (by omega))]
      exact h.lys l a b,
    by
      rw [hk 2 (by omega)]
      exact h.lwb,
    by
      rw [hk 3 (by omega), hk 2 (by omega)]
      exact h.lwt,
    by
      rw [hk 4 (by omega)]
      exact h.vdb,
    fun i a b => by
      have y := h.vdb
      rw [hk 4 (by omega)] at b
      rw [hk _ (by omega), hk (871 + 5 * i) (by omega), hk (872 + 5 * i) (by omega), hk (873 + 5 * i) (by omega), hk (874 + 5 * i) (by omega)]
      exact h.vdi i a b,
    by
      rw [hk 5 (by omega)]
      exact h.stc,
    o_bnd,
    o_pce,
    o_kep,
    o_msg,
    o_odd,
    fun s a b => by
      rw [hk _ (by omega)]
      exact h.flf s a b,
    fun s a b c => by
      rw [hk _ (by omega)] at c
      rw [hk _ (by omega)]
      exact h.flt s a b c,
    fun s a b => by
      rw [hk _ (by omega)]
      exact h.spc s a b,
    fun s k a b c e => by
      have y := h.spc s a b
      rw [hk (610 + s) (by omega)] at e
      rw [hk (620 + (60 * s + 3 * k)) (by omega), hk (621 + (60 * s + 3 * k)) (by omega), hk (622 + (60 * s + 3 * k)) (by omega)]
      exact h.spb s k a b c e⟩

theorem GOk_fl {w n : Int} {g g' : Int → Int} (h : GOk w n g) (hk : ∀ k, ¬ (600 ≤ k ∧ k < 610) → g' k = g k)
    (o_flf : ∀ s, 0 ≤ s → s < 5 → -1 ≤ g' (600 + 2 * s) ∧ g' (600 + 2 * s) ≤ 11)
    (o_flt : ∀ s, 0 ≤ s → s < 5 → ¬ g' (600 + 2 * s) = -1 → 0 ≤ g' (601 + 2 * s) ∧ g' (601 + 2 * s) ≤ 11) : GOk w n g' := by
  refine ⟨h.ww,
    h.nn,
    fun e a b => by
      rw [hk _ (by omega)]
      exact h.dgb e a b,
    fun e a b => by
      rw [hk _ (by omega)]
      exact h.ogr e a b,
    Ends_congr (fun e a b => h.ogr e a (by have := h.nn; omega)) (fun e a b => hk _ (by have := h.nn; omega)) h.ogE,
    fun e a b => by
      rw [hk _ (by omega)]
      exact h.brb e a b,
    fun e a b => by
      rw [hk _ (by omega)]
      exact h.amb e a b,
    fun e a b c => by
      rw [hk _ (by omega)] at c
      rw [sum5_congr (f := fun k => g (230 + k)) (fun k x y => hk _ (by omega))]
      exact h.ams e a b c,
    fun e a b => by
      have nn := h.nn
      rw [hk _ (by omega)]
      exact h.dgn e a b,
    by
      rw [hk _ (by omega), sumTo_congr (f := fun e => g (160 + e)) (fun e a b => hk _ (by omega))]
      exact h.dgs,
    by
      rw [hk 1 (by omega)]
      exact h.lyb,
    fun k a b => by
      have y := h.lyb
      rw [hk 1 (by omega)] at b
      rw [hk _ (by omega)]
      exact h.lya k a b,
    fun l a b => by
      have y := h.lyb
      rw [hk 1 (by omega)] at b
      rw [sum5_congr (f := fun k => g (560 + k)) (fun k x y => hk _ (by omega))]
      exact h.lys l a b,
    by
      rw [hk 2 (by omega)]
      exact h.lwb,
    by
      rw [hk 3 (by omega), hk 2 (by omega)]
      exact h.lwt,
    by
      rw [hk 4 (by omega)]
      exact h.vdb,
    fun i a b => by
      have y := h.vdb
      rw [hk 4 (by omega)] at b
      rw [hk _ (by omega), hk (871 + 5 * i) (by omega), hk (872 + 5 * i) (by omega), hk (873 + 5 * i) (by omega), hk (874 + 5 * i) (by omega)]
      exact h.vdi i a b,
    by
      rw [hk 5 (by omega)]
      exact h.stc,
    by
      rw [hk 6 (by omega)]
      exact h.bnd,
    by
      rw [hk 7 (by omega)]
      exact h.pce,
    by
      rw [hk 8 (by omega)]
      exact h.kep,
    by
      rw [hk 9 (by omega)]
      exact h.msg,
    by
      rw [hk 10 (by omega)]
      exact h.odd,
    o_flf,
    o_flt,
    fun s a b => by
      rw [hk _ (by omega)]
      exact h.spc s a b,
    fun s k a b c e => by
      have y := h.spc s a b
      rw [hk (610 + s) (by omega)] at e
      rw [hk (620 + (60 * s + 3 * k)) (by omega), hk (621 + (60 * s + 3 * k)) (by omega), hk (622 + (60 * s + 3 * k)) (by omega)]
      exact h.spb s k a b c e⟩

theorem GOk_sp {w n : Int} {g g' : Int → Int} (h : GOk w n g) (hk : ∀ k, ¬ ((610 ≤ k ∧ k < 614) ∨ (620 ≤ k ∧ k < 860)) → g' k = g k)
    (o_spc : ∀ s, 0 ≤ s → s < 4 → 0 ≤ g' (610 + s) ∧ g' (610 + s) ≤ 20)
    (o_spb : ∀ s k, 0 ≤ s → s < 4 → 0 ≤ k → k < g' (610 + s) → (0 ≤ g' (620 + (60 * s + 3 * k)) ∧ g' (620 + (60 * s + 3 * k)) < n) ∧ (0 ≤ g' (621 + (60 * s + 3 * k)) ∧ g' (621 + (60 * s + 3 * k)) ≤ 9) ∧ (0 ≤ g' (622 + (60 * s + 3 * k)) ∧ g' (622 + (60 * s + 3 * k)) ≤ 23)) : GOk w n g' := by
  refine ⟨h.ww,
    h.nn,
    fun e a b => by
      rw [hk _ (by omega)]
      exact h.dgb e a b,
    fun e a b => by
      rw [hk _ (by omega)]
      exact h.ogr e a b,
    Ends_congr (fun e a b => h.ogr e a (by have := h.nn; omega)) (fun e a b => hk _ (by have := h.nn; omega)) h.ogE,
    fun e a b => by
      rw [hk _ (by omega)]
      exact h.brb e a b,
    fun e a b => by
      rw [hk _ (by omega)]
      exact h.amb e a b,
    fun e a b c => by
      rw [hk _ (by omega)] at c
      rw [sum5_congr (f := fun k => g (230 + k)) (fun k x y => hk _ (by omega))]
      exact h.ams e a b c,
    fun e a b => by
      have nn := h.nn
      rw [hk _ (by omega)]
      exact h.dgn e a b,
    by
      rw [hk _ (by omega), sumTo_congr (f := fun e => g (160 + e)) (fun e a b => hk _ (by omega))]
      exact h.dgs,
    by
      rw [hk 1 (by omega)]
      exact h.lyb,
    fun k a b => by
      have y := h.lyb
      rw [hk 1 (by omega)] at b
      rw [hk _ (by omega)]
      exact h.lya k a b,
    fun l a b => by
      have y := h.lyb
      rw [hk 1 (by omega)] at b
      rw [sum5_congr (f := fun k => g (560 + k)) (fun k x y => hk _ (by omega))]
      exact h.lys l a b,
    by
      rw [hk 2 (by omega)]
      exact h.lwb,
    by
      rw [hk 3 (by omega), hk 2 (by omega)]
      exact h.lwt,
    by
      rw [hk 4 (by omega)]
      exact h.vdb,
    fun i a b => by
      have y := h.vdb
      rw [hk 4 (by omega)] at b
      rw [hk _ (by omega), hk (871 + 5 * i) (by omega), hk (872 + 5 * i) (by omega), hk (873 + 5 * i) (by omega), hk (874 + 5 * i) (by omega)]
      exact h.vdi i a b,
    by
      rw [hk 5 (by omega)]
      exact h.stc,
    by
      rw [hk 6 (by omega)]
      exact h.bnd,
    by
      rw [hk 7 (by omega)]
      exact h.pce,
    by
      rw [hk 8 (by omega)]
      exact h.kep,
    by
      rw [hk 9 (by omega)]
      exact h.msg,
    by
      rw [hk 10 (by omega)]
      exact h.odd,
    fun s a b => by
      rw [hk _ (by omega)]
      exact h.flf s a b,
    fun s a b c => by
      rw [hk _ (by omega)] at c
      rw [hk _ (by omega)]
      exact h.flt s a b c,
    o_spc,
    o_spb⟩
