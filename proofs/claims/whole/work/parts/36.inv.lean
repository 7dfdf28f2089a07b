/-! THE PURE LAYER 6: what holds of the state -/
/-- the sum of a row's places -/
def sumTo (f : Int → Int) (n : Int) : Int := xfor (fun e v => v + f e) 0 n 0
theorem xfor_add (f : Int → Int) (n i v : Int) : xfor (fun e v => v + f e) i n v = v + xfor (fun e v => v + f e) i n 0 := by
  refine xloop (fun e v => v + f e) n (fun i v => xfor (fun e v => v + f e) i n v = v + xfor (fun e v => v + f e) i n 0) (fun i v hb => ?_) (fun i v hb ih => ?_) i v
  · rw [xfor_end hb, xfor_end hb, Int.add_zero]
  · rw [xfor_step hb, ih, xfor_step (s := 0) hb]
    generalize hk : (n - (i + 1)).toNat = k
    have h2 : ∀ u, xfor (fun e v => v + f e) (i + 1) n u = u + xfor (fun e v => v + f e) (i + 1) n 0 := by
      clear ih hb
      unfold xfor
      rw [hk]
      clear hk
      generalize i + 1 = m
      induction k generalizing m with
      | zero => intro u; unfold xfold; omega
      | succ k ih =>
        intro u
        unfold xfold
        rw [ih (m + 1) (u + f m), ih (m + 1) (0 + f m)]
        omega
    rw [h2 (0 + f i)]
    omega
/-- what the model's row g of the state says is well said -/
def GOk (w n : Int) (g : Int → Int) : Prop :=
  (3 ≤ w ∧ w ≤ 8) ∧
  (9 ≤ n ∧ n ≤ 64) ∧
  (∀ e, 0 ≤ e → e < 64 → g (160 + e) = 0 ∨ g (160 + e) = 1) ∧
  (∀ e, 0 ≤ e → e < 64 → g (90 + e) = -1 ∨ (0 ≤ g (90 + e) ∧ g (90 + e) < n)) ∧
  (Ends n (fun e => g (90 + e))) ∧
  (∀ e, 0 ≤ e → e < 64 → g (20 + e) = 0 ∨ g (20 + e) = 1) ∧
  (∀ k, 0 ≤ k → k < 320 → 0 ≤ g (230 + k) ∧ g (230 + k) ≤ 9) ∧
  (∀ e, 0 ≤ e → e < 64 → g (160 + e) = 1 → 1 ≤ sum5 (fun k => g (230 + k)) (5 * e)) ∧
  (∀ e, n ≤ e → e < 64 → g (160 + e) = 0) ∧
  (g 0 = sumTo (fun e => g (160 + e)) 64) ∧
  (0 ≤ g 1 ∧ g 1 ≤ 8) ∧
  (∀ k, 0 ≤ k → k < 5 * g 1 → 0 ≤ g (560 + k) ∧ g (560 + k) ≤ 99) ∧
  (∀ l, 0 ≤ l → l < g 1 → 1 ≤ sum5 (fun k => g (560 + k)) (5 * l)) ∧
  (0 ≤ g 2 ∧ g 2 ≤ 4) ∧
  (-1 ≤ g 3 ∧ g 3 < g 2) ∧
  (0 ≤ g 4 ∧ g 4 ≤ 60) ∧
  (∀ i, 0 ≤ i → i < g 4 → (0 ≤ g (870 + 5 * i) ∧ g (870 + 5 * i) ≤ 3) ∧ (0 ≤ g (871 + 5 * i) ∧ g (871 + 5 * i) ≤ 7) ∧ (0 ≤ g (872 + 5 * i) ∧ g (872 + 5 * i) < n) ∧ (g (873 + 5 * i) = 0 ∨ g (873 + 5 * i) = 1) ∧ (g (874 + 5 * i) = 0 ∨ g (874 + 5 * i) = 1)) ∧
  (0 ≤ g 5 ∧ g 5 < n) ∧
  (0 ≤ g 6 ∧ g 6 ≤ 1000) ∧
  (0 ≤ g 7 ∧ g 7 ≤ 99) ∧
  (0 ≤ g 8 ∧ g 8 ≤ 11) ∧
  (0 ≤ g 9 ∧ g 9 ≤ 1000) ∧
  (0 ≤ g 10 ∧ g 10 ≤ 1000) ∧
  (∀ s, 0 ≤ s → s < 5 → -1 ≤ g (600 + 2 * s) ∧ g (600 + 2 * s) ≤ 11) ∧
  (∀ s, 0 ≤ s → s < 5 → ¬ g (600 + 2 * s) = -1 → 0 ≤ g (601 + 2 * s) ∧ g (601 + 2 * s) ≤ 11) ∧
  (∀ s, 0 ≤ s → s < 4 → 0 ≤ g (610 + s) ∧ g (610 + s) ≤ 20) ∧
  (∀ s k, 0 ≤ s → s < 4 → 0 ≤ k → k < g (610 + s) → (0 ≤ g (620 + (60 * s + 3 * k)) ∧ g (620 + (60 * s + 3 * k)) < n) ∧ (0 ≤ g (621 + (60 * s + 3 * k)) ∧ g (621 + (60 * s + 3 * k)) ≤ 9) ∧ (0 ≤ g (622 + (60 * s + 3 * k)) ∧ g (622 + (60 * s + 3 * k)) ≤ 23))
theorem GOk.ww {w n : Int} {g : Int → Int} (h : GOk w n g) : 3 ≤ w ∧ w ≤ 8 := h.1
theorem GOk.nn {w n : Int} {g : Int → Int} (h : GOk w n g) : 9 ≤ n ∧ n ≤ 64 := h.2.1
theorem GOk.dgb {w n : Int} {g : Int → Int} (h : GOk w n g) : ∀ e, 0 ≤ e → e < 64 → g (160 + e) = 0 ∨ g (160 + e) = 1 := h.2.2.1
theorem GOk.ogr {w n : Int} {g : Int → Int} (h : GOk w n g) : ∀ e, 0 ≤ e → e < 64 → g (90 + e) = -1 ∨ (0 ≤ g (90 + e) ∧ g (90 + e) < n) := h.2.2.2.1
theorem GOk.ogE {w n : Int} {g : Int → Int} (h : GOk w n g) : Ends n (fun e => g (90 + e)) := h.2.2.2.2.1
theorem GOk.brb {w n : Int} {g : Int → Int} (h : GOk w n g) : ∀ e, 0 ≤ e → e < 64 → g (20 + e) = 0 ∨ g (20 + e) = 1 := h.2.2.2.2.2.1
theorem GOk.amb {w n : Int} {g : Int → Int} (h : GOk w n g) : ∀ k, 0 ≤ k → k < 320 → 0 ≤ g (230 + k) ∧ g (230 + k) ≤ 9 := h.2.2.2.2.2.2.1
theorem GOk.ams {w n : Int} {g : Int → Int} (h : GOk w n g) : ∀ e, 0 ≤ e → e < 64 → g (160 + e) = 1 → 1 ≤ sum5 (fun k => g (230 + k)) (5 * e) := h.2.2.2.2.2.2.2.1
theorem GOk.dgn {w n : Int} {g : Int → Int} (h : GOk w n g) : ∀ e, n ≤ e → e < 64 → g (160 + e) = 0 := h.2.2.2.2.2.2.2.2.1
theorem GOk.dgs {w n : Int} {g : Int → Int} (h : GOk w n g) : g 0 = sumTo (fun e => g (160 + e)) 64 := h.2.2.2.2.2.2.2.2.2.1
theorem GOk.lyb {w n : Int} {g : Int → Int} (h : GOk w n g) : 0 ≤ g 1 ∧ g 1 ≤ 8 := h.2.2.2.2.2.2.2.2.2.2.1
theorem GOk.lya {w n : Int} {g : Int → Int} (h : GOk w n g) : ∀ k, 0 ≤ k → k < 5 * g 1 → 0 ≤ g (560 + k) ∧ g (560 + k) ≤ 99 := h.2.2.2.2.2.2.2.2.2.2.2.1
theorem GOk.lys {w n : Int} {g : Int → Int} (h : GOk w n g) : ∀ l, 0 ≤ l → l < g 1 → 1 ≤ sum5 (fun k => g (560 + k)) (5 * l) := h.2.2.2.2.2.2.2.2.2.2.2.2.1
theorem GOk.lwb {w n : Int} {g : Int → Int} (h : GOk w n g) : 0 ≤ g 2 ∧ g 2 ≤ 4 := h.2.2.2.2.2.2.2.2.2.2.2.2.2.1
theorem GOk.lwt {w n : Int} {g : Int → Int} (h : GOk w n g) : -1 ≤ g 3 ∧ g 3 < g 2 := h.2.2.2.2.2.2.2.2.2.2.2.2.2.2.1
theorem GOk.vdb {w n : Int} {g : Int → Int} (h : GOk w n g) : 0 ≤ g 4 ∧ g 4 ≤ 60 := h.2.2.2.2.2.2.2.2.2.2.2.2.2.2.2.1
theorem GOk.vdi {w n : Int} {g : Int → Int} (h : GOk w n g) : ∀ i, 0 ≤ i → i < g 4 → (0 ≤ g (870 + 5 * i) ∧ g (870 + 5 * i) ≤ 3) ∧ (0 ≤ g (871 + 5 * i) ∧ g (871 + 5 * i) ≤ 7) ∧ (0 ≤ g (872 + 5 * i) ∧ g (872 + 5 * i) < n) ∧ (g (873 + 5 * i) = 0 ∨ g (873 + 5 * i) = 1) ∧ (g (874 + 5 * i) = 0 ∨ g (874 + 5 * i) = 1) := h.2.2.2.2.2.2.2.2.2.2.2.2.2.2.2.2.1
theorem GOk.stc {w n : Int} {g : Int → Int} (h : GOk w n g) : 0 ≤ g 5 ∧ g 5 < n := h.2.2.2.2.2.2.2.2.2.2.2.2.2.2.2.2.2.1
theorem GOk.bnd {w n : Int} {g : Int → Int} (h : GOk w n g) : 0 ≤ g 6 ∧ g 6 ≤ 1000 := h.2.2.2.2.2.2.2.2.2.2.2.2.2.2.2.2.2.2.1
theorem GOk.pce {w n : Int} {g : Int → Int} (h : GOk w n g) : 0 ≤ g 7 ∧ g 7 ≤ 99 := h.2.2.2.2.2.2.2.2.2.2.2.2.2.2.2.2.2.2.2.1
theorem GOk.kep {w n : Int} {g : Int → Int} (h : GOk w n g) : 0 ≤ g 8 ∧ g 8 ≤ 11 := h.2.2.2.2.2.2.2.2.2.2.2.2.2.2.2.2.2.2.2.2.1
theorem GOk.msg {w n : Int} {g : Int → Int} (h : GOk w n g) : 0 ≤ g 9 ∧ g 9 ≤ 1000 := h.2.2.2.2.2.2.2.2.2.2.2.2.2.2.2.2.2.2.2.2.2.1
theorem GOk.odd {w n : Int} {g : Int → Int} (h : GOk w n g) : 0 ≤ g 10 ∧ g 10 ≤ 1000 := h.2.2.2.2.2.2.2.2.2.2.2.2.2.2.2.2.2.2.2.2.2.2.1
theorem GOk.flf {w n : Int} {g : Int → Int} (h : GOk w n g) : ∀ s, 0 ≤ s → s < 5 → -1 ≤ g (600 + 2 * s) ∧ g (600 + 2 * s) ≤ 11 := h.2.2.2.2.2.2.2.2.2.2.2.2.2.2.2.2.2.2.2.2.2.2.2.1
theorem GOk.flt {w n : Int} {g : Int → Int} (h : GOk w n g) : ∀ s, 0 ≤ s → s < 5 → ¬ g (600 + 2 * s) = -1 → 0 ≤ g (601 + 2 * s) ∧ g (601 + 2 * s) ≤ 11 := h.2.2.2.2.2.2.2.2.2.2.2.2.2.2.2.2.2.2.2.2.2.2.2.2.1
theorem GOk.spc {w n : Int} {g : Int → Int} (h : GOk w n g) : ∀ s, 0 ≤ s → s < 4 → 0 ≤ g (610 + s) ∧ g (610 + s) ≤ 20 := h.2.2.2.2.2.2.2.2.2.2.2.2.2.2.2.2.2.2.2.2.2.2.2.2.2.1
theorem GOk.spb {w n : Int} {g : Int → Int} (h : GOk w n g) : ∀ s k, 0 ≤ s → s < 4 → 0 ≤ k → k < g (610 + s) → (0 ≤ g (620 + (60 * s + 3 * k)) ∧ g (620 + (60 * s + 3 * k)) < n) ∧ (0 ≤ g (621 + (60 * s + 3 * k)) ∧ g (621 + (60 * s + 3 * k)) ≤ 9) ∧ (0 ≤ g (622 + (60 * s + 3 * k)) ∧ g (622 + (60 * s + 3 * k)) ≤ 23) := h.2.2.2.2.2.2.2.2.2.2.2.2.2.2.2.2.2.2.2.2.2.2.2.2.2.2
/-- the class's rows say what g says -/
def SRel (w n : Int) (L D I O B LY AM RU FF FT SP SC VD LK PL SA KN NW : Int → Int) (g : Int → Int) : Prop :=
  (L 0 = w) ∧
  (L 1 * w = n) ∧
  (L 2 = n) ∧
  (L 7 = g 0) ∧
  (∀ k, 0 ≤ k → k < 320 → D k = g (230 + k)) ∧
  (∀ e, 0 ≤ e → e < 64 → I e = g (160 + e)) ∧
  (∀ e, 0 ≤ e → e < 64 → O e = g (90 + e)) ∧
  (∀ e, 0 ≤ e → e < 64 → B e = g (20 + e)) ∧
  (LY 1 = g 1) ∧
  (∀ k, 0 ≤ k → k < 5 * g 1 → AM k = g (560 + k)) ∧
  (RU 0 = g 6) ∧
  (RU 1 = g 7) ∧
  (RU 2 = g 8) ∧
  (RU 3 = g 9) ∧
  (RU 4 = g 10) ∧
  (RU 5 = g 5) ∧
  (∀ s, 0 ≤ s → s < 5 → FF s = g (600 + 2 * s)) ∧
  (∀ s, 0 ≤ s → s < 5 → ¬ g (600 + 2 * s) = -1 → FT s = g (601 + 2 * s)) ∧
  (∀ k, 0 ≤ k → k < 240 → SP k = g (620 + k)) ∧
  (∀ s, 0 ≤ s → s < 4 → SC s = g (610 + s)) ∧
  (VD 4 = g 4) ∧
  (∀ i, 0 ≤ i → i < g 4 → LK i = g (870 + 5 * i)) ∧
  (∀ i, 0 ≤ i → i < g 4 → PL i = 64 * g (871 + 5 * i) + g (872 + 5 * i)) ∧
  (∀ i, 0 ≤ i → i < g 4 → SA i = g (873 + 5 * i)) ∧
  (∀ i, 0 ≤ i → i < g 4 → KN i = g (874 + 5 * i)) ∧
  (NW 5 = g 2) ∧
  (NW 6 = g 3)
theorem SRel.l0 {w n : Int} {L D I O B LY AM RU FF FT SP SC VD LK PL SA KN NW : Int → Int} {g : Int → Int} (h : SRel w n L D I O B LY AM RU FF FT SP SC VD LK PL SA KN NW g) : L 0 = w := h.1
theorem SRel.l1 {w n : Int} {L D I O B LY AM RU FF FT SP SC VD LK PL SA KN NW : Int → Int} {g : Int → Int} (h : SRel w n L D I O B LY AM RU FF FT SP SC VD LK PL SA KN NW g) : L 1 * w = n := h.2.1
theorem SRel.l2 {w n : Int} {L D I O B LY AM RU FF FT SP SC VD LK PL SA KN NW : Int → Int} {g : Int → Int} (h : SRel w n L D I O B LY AM RU FF FT SP SC VD LK PL SA KN NW g) : L 2 = n := h.2.2.1
theorem SRel.l7 {w n : Int} {L D I O B LY AM RU FF FT SP SC VD LK PL SA KN NW : Int → Int} {g : Int → Int} (h : SRel w n L D I O B LY AM RU FF FT SP SC VD LK PL SA KN NW g) : L 7 = g 0 := h.2.2.2.1
theorem SRel.d {w n : Int} {L D I O B LY AM RU FF FT SP SC VD LK PL SA KN NW : Int → Int} {g : Int → Int} (h : SRel w n L D I O B LY AM RU FF FT SP SC VD LK PL SA KN NW g) : ∀ k, 0 ≤ k → k < 320 → D k = g (230 + k) := h.2.2.2.2.1
theorem SRel.i {w n : Int} {L D I O B LY AM RU FF FT SP SC VD LK PL SA KN NW : Int → Int} {g : Int → Int} (h : SRel w n L D I O B LY AM RU FF FT SP SC VD LK PL SA KN NW g) : ∀ e, 0 ≤ e → e < 64 → I e = g (160 + e) := h.2.2.2.2.2.1
theorem SRel.o {w n : Int} {L D I O B LY AM RU FF FT SP SC VD LK PL SA KN NW : Int → Int} {g : Int → Int} (h : SRel w n L D I O B LY AM RU FF FT SP SC VD LK PL SA KN NW g) : ∀ e, 0 ≤ e → e < 64 → O e = g (90 + e) := h.2.2.2.2.2.2.1
theorem SRel.b {w n : Int} {L D I O B LY AM RU FF FT SP SC VD LK PL SA KN NW : Int → Int} {g : Int → Int} (h : SRel w n L D I O B LY AM RU FF FT SP SC VD LK PL SA KN NW g) : ∀ e, 0 ≤ e → e < 64 → B e = g (20 + e) := h.2.2.2.2.2.2.2.1
theorem SRel.c {w n : Int} {L D I O B LY AM RU FF FT SP SC VD LK PL SA KN NW : Int → Int} {g : Int → Int} (h : SRel w n L D I O B LY AM RU FF FT SP SC VD LK PL SA KN NW g) : LY 1 = g 1 := h.2.2.2.2.2.2.2.2.1
theorem SRel.am {w n : Int} {L D I O B LY AM RU FF FT SP SC VD LK PL SA KN NW : Int → Int} {g : Int → Int} (h : SRel w n L D I O B LY AM RU FF FT SP SC VD LK PL SA KN NW g) : ∀ k, 0 ≤ k → k < 5 * g 1 → AM k = g (560 + k) := h.2.2.2.2.2.2.2.2.2.1
theorem SRel.r0 {w n : Int} {L D I O B LY AM RU FF FT SP SC VD LK PL SA KN NW : Int → Int} {g : Int → Int} (h : SRel w n L D I O B LY AM RU FF FT SP SC VD LK PL SA KN NW g) : RU 0 = g 6 := h.2.2.2.2.2.2.2.2.2.2.1
theorem SRel.r1 {w n : Int} {L D I O B LY AM RU FF FT SP SC VD LK PL SA KN NW : Int → Int} {g : Int → Int} (h : SRel w n L D I O B LY AM RU FF FT SP SC VD LK PL SA KN NW g) : RU 1 = g 7 := h.2.2.2.2.2.2.2.2.2.2.2.1
theorem SRel.r2 {w n : Int} {L D I O B LY AM RU FF FT SP SC VD LK PL SA KN NW : Int → Int} {g : Int → Int} (h : SRel w n L D I O B LY AM RU FF FT SP SC VD LK PL SA KN NW g) : RU 2 = g 8 := h.2.2.2.2.2.2.2.2.2.2.2.2.1
theorem SRel.r3 {w n : Int} {L D I O B LY AM RU FF FT SP SC VD LK PL SA KN NW : Int → Int} {g : Int → Int} (h : SRel w n L D I O B LY AM RU FF FT SP SC VD LK PL SA KN NW g) : RU 3 = g 9 := h.2.2.2.2.2.2.2.2.2.2.2.2.2.1
theorem SRel.r4 {w n : Int} {L D I O B LY AM RU FF FT SP SC VD LK PL SA KN NW : Int → Int} {g : Int → Int} (h : SRel w n L D I O B LY AM RU FF FT SP SC VD LK PL SA KN NW g) : RU 4 = g 10 := h.2.2.2.2.2.2.2.2.2.2.2.2.2.2.1
theorem SRel.r5 {w n : Int} {L D I O B LY AM RU FF FT SP SC VD LK PL SA KN NW : Int → Int} {g : Int → Int} (h : SRel w n L D I O B LY AM RU FF FT SP SC VD LK PL SA KN NW g) : RU 5 = g 5 := h.2.2.2.2.2.2.2.2.2.2.2.2.2.2.2.1
theorem SRel.ff {w n : Int} {L D I O B LY AM RU FF FT SP SC VD LK PL SA KN NW : Int → Int} {g : Int → Int} (h : SRel w n L D I O B LY AM RU FF FT SP SC VD LK PL SA KN NW g) : ∀ s, 0 ≤ s → s < 5 → FF s = g (600 + 2 * s) := h.2.2.2.2.2.2.2.2.2.2.2.2.2.2.2.2.1
theorem SRel.ft {w n : Int} {L D I O B LY AM RU FF FT SP SC VD LK PL SA KN NW : Int → Int} {g : Int → Int} (h : SRel w n L D I O B LY AM RU FF FT SP SC VD LK PL SA KN NW g) : ∀ s, 0 ≤ s → s < 5 → ¬ g (600 + 2 * s) = -1 → FT s = g (601 + 2 * s) := h.2.2.2.2.2.2.2.2.2.2.2.2.2.2.2.2.2.1
theorem SRel.sp {w n : Int} {L D I O B LY AM RU FF FT SP SC VD LK PL SA KN NW : Int → Int} {g : Int → Int} (h : SRel w n L D I O B LY AM RU FF FT SP SC VD LK PL SA KN NW g) : ∀ k, 0 ≤ k → k < 240 → SP k = g (620 + k) := h.2.2.2.2.2.2.2.2.2.2.2.2.2.2.2.2.2.2.1
theorem SRel.sc {w n : Int} {L D I O B LY AM RU FF FT SP SC VD LK PL SA KN NW : Int → Int} {g : Int → Int} (h : SRel w n L D I O B LY AM RU FF FT SP SC VD LK PL SA KN NW g) : ∀ s, 0 ≤ s → s < 4 → SC s = g (610 + s) := h.2.2.2.2.2.2.2.2.2.2.2.2.2.2.2.2.2.2.2.1
theorem SRel.v4 {w n : Int} {L D I O B LY AM RU FF FT SP SC VD LK PL SA KN NW : Int → Int} {g : Int → Int} (h : SRel w n L D I O B LY AM RU FF FT SP SC VD LK PL SA KN NW g) : VD 4 = g 4 := h.2.2.2.2.2.2.2.2.2.2.2.2.2.2.2.2.2.2.2.2.1
theorem SRel.lk {w n : Int} {L D I O B LY AM RU FF FT SP SC VD LK PL SA KN NW : Int → Int} {g : Int → Int} (h : SRel w n L D I O B LY AM RU FF FT SP SC VD LK PL SA KN NW g) : ∀ i, 0 ≤ i → i < g 4 → LK i = g (870 + 5 * i) := h.2.2.2.2.2.2.2.2.2.2.2.2.2.2.2.2.2.2.2.2.2.1
theorem SRel.pl {w n : Int} {L D I O B LY AM RU FF FT SP SC VD LK PL SA KN NW : Int → Int} {g : Int → Int} (h : SRel w n L D I O B LY AM RU FF FT SP SC VD LK PL SA KN NW g) : ∀ i, 0 ≤ i → i < g 4 → PL i = 64 * g (871 + 5 * i) + g (872 + 5 * i) := h.2.2.2.2.2.2.2.2.2.2.2.2.2.2.2.2.2.2.2.2.2.2.1
theorem SRel.sa {w n : Int} {L D I O B LY AM RU FF FT SP SC VD LK PL SA KN NW : Int → Int} {g : Int → Int} (h : SRel w n L D I O B LY AM RU FF FT SP SC VD LK PL SA KN NW g) : ∀ i, 0 ≤ i → i < g 4 → SA i = g (873 + 5 * i) := h.2.2.2.2.2.2.2.2.2.2.2.2.2.2.2.2.2.2.2.2.2.2.2.1
theorem SRel.kn {w n : Int} {L D I O B LY AM RU FF FT SP SC VD LK PL SA KN NW : Int → Int} {g : Int → Int} (h : SRel w n L D I O B LY AM RU FF FT SP SC VD LK PL SA KN NW g) : ∀ i, 0 ≤ i → i < g 4 → KN i = g (874 + 5 * i) := h.2.2.2.2.2.2.2.2.2.2.2.2.2.2.2.2.2.2.2.2.2.2.2.2.1
theorem SRel.n5 {w n : Int} {L D I O B LY AM RU FF FT SP SC VD LK PL SA KN NW : Int → Int} {g : Int → Int} (h : SRel w n L D I O B LY AM RU FF FT SP SC VD LK PL SA KN NW g) : NW 5 = g 2 := h.2.2.2.2.2.2.2.2.2.2.2.2.2.2.2.2.2.2.2.2.2.2.2.2.2.1
theorem SRel.n6 {w n : Int} {L D I O B LY AM RU FF FT SP SC VD LK PL SA KN NW : Int → Int} {g : Int → Int} (h : SRel w n L D I O B LY AM RU FF FT SP SC VD LK PL SA KN NW g) : NW 6 = g 3 := h.2.2.2.2.2.2.2.2.2.2.2.2.2.2.2.2.2.2.2.2.2.2.2.2.2.2
/-- the state that is now: the objects 1 to 19 and the model's row -/
def InvS (H : XH) : Prop := GOk (H 67 0) (H 67 1) (H 68) ∧ SRel (H 67 0) (H 67 1) (H 2) (H 3) (H 4) (H 5) (H 6) (H 7) (H 8) (H 9) (H 10) (H 11) (H 13) (H 14) (H 15) (H 16) (H 17) (H 18) (H 19) (H 1) (H 68)
/-- the image: the objects 20 to 38 and the model's image -/
def InvK (H : XH) : Prop := GOk (H 67 0) (H 67 1) (H 69) ∧ SRel (H 67 0) (H 67 1) (H 21) (H 22) (H 23) (H 24) (H 25) (H 26) (H 27) (H 28) (H 29) (H 30) (H 32) (H 33) (H 34) (H 35) (H 36) (H 37) (H 38) (H 20) (H 69)
/-- H' says of the state what H says -/
def frS (H H' : XH) : Prop := (∀ o, 1 ≤ o → o < 39 → H' o = H o) ∧ H' 68 = H 68 ∧ H' 69 = H 69 ∧ H' 67 0 = H 67 0 ∧ H' 67 1 = H 67 1
theorem frS_refl (H : XH) : frS H H := ⟨fun _ _ _ => rfl, rfl, rfl, rfl, rfl⟩
theorem frS_trans {H H' H'' : XH} (h : frS H H') (h' : frS H' H'') : frS H H'' :=
  ⟨fun o a b => (h'.1 o a b).trans (h.1 o a b), h'.2.1.trans h.2.1, h'.2.2.1.trans h.2.2.1, h'.2.2.2.1.trans h.2.2.2.1, h'.2.2.2.2.trans h.2.2.2.2⟩
theorem frS_S {H H' : XH} (h : frS H H') (hi : InvS H) : InvS H' := by
  obtain ⟨a, b, c, d, e⟩ := h
  have a' : ∀ o, (1 ≤ o ∧ o < 39) → H' o = H o := fun o q => a o q.1 q.2
  unfold InvS
  rw [b, d, e, a' 1 (by decide), a' 2 (by decide), a' 3 (by decide), a' 4 (by decide), a' 5 (by decide), a' 6 (by decide), a' 7 (by decide), a' 8 (by decide), a' 9 (by decide), a' 10 (by decide), a' 11 (by decide), a' 13 (by decide), a' 14 (by decide), a' 15 (by decide), a' 16 (by decide), a' 17 (by decide), a' 18 (by decide), a' 19 (by decide)]
  exact hi
theorem frS_K {H H' : XH} (h : frS H H') (hi : InvK H) : InvK H' := by
  obtain ⟨a, b, c, d, e⟩ := h
  have a' : ∀ o, (1 ≤ o ∧ o < 39) → H' o = H o := fun o q => a o q.1 q.2
  unfold InvK
  rw [c, d, e, a' 20 (by decide), a' 21 (by decide), a' 22 (by decide), a' 23 (by decide), a' 24 (by decide), a' 25 (by decide), a' 26 (by decide), a' 27 (by decide), a' 28 (by decide), a' 29 (by decide), a' 30 (by decide), a' 32 (by decide), a' 33 (by decide), a' 34 (by decide), a' 35 (by decide), a' 36 (by decide), a' 37 (by decide), a' 38 (by decide)]
  exact hi
theorem frS_set {H : XH} {a : Int} {g : Int → Int} (h : 39 ≤ a ∧ ¬ a = 67 ∧ ¬ a = 68 ∧ ¬ a = 69) : frS H (xset H a g) := by
  refine ⟨fun o x y => xset_o (by omega), xset_o (by omega), xset_o (by omega), ?_, ?_⟩
  · rw [xset_o (by omega)]
  · rw [xset_o (by omega)]
theorem frS_up {H : XH} {a i x : Int} (h : 39 ≤ a ∧ ¬ a = 67 ∧ ¬ a = 68 ∧ ¬ a = 69) : frS H (xup H a i x) := by
  rw [xup_set]
  exact frS_set h
theorem frS_67 {H : XH} {i x : Int} (h : 2 ≤ i) : frS H (xup H 67 i x) :=
  ⟨fun o a b => xup_ne (by omega), xup_ne (by decide), xup_ne (by decide), xup_k (by omega), xup_k (by omega)⟩
/-- both sides' soils are one -/
theorem xfor_congr_n {σ : Type} {f g : Int → σ → σ} {n : Int} {s : σ} (h : ∀ j s, 0 ≤ j → j < n → f j s = g j s) : xfor f 0 n s = xfor g 0 n s := xfor_congr h s
theorem srcS_congr {n : Int} {dg og dg' og' : Int → Int} (hd : ∀ e, 0 ≤ e → e < n → dg e = dg' e) (ho : ∀ e, 0 ≤ e → e < n → og e = og' e) : ∀ (k : Nat) (c : Int), 0 ≤ c ∧ c < n → srcS n dg og k c = srcS n dg' og' k c
  | 0, _, _ => rfl
  | k + 1, c, h => by
    unfold srcS
    rw [hd c h.1 h.2, ho c h.1 h.2]
    split
    · split
      · next q => exact srcS_congr hd ho k _ q
      · rfl
    · rfl
theorem nrS_congr {w n : Int} {dg dg' : Int → Int} (hd : ∀ e, 0 ≤ e → e < n → dg e = dg' e) (c : Int) : nrS w n dg c = nrS w n dg' c := by
  unfold nrS
  refine xfor_congr_n fun j s h0 hn => ?_
  unfold nrF
  rw [hd j h0 hn]
theorem slS_congr {w n : Int} {dg am dg' am' : Int → Int} (hn : n ≤ 64) (hd : ∀ e, 0 ≤ e → e < n → dg e = dg' e) (ha : ∀ k, 0 ≤ k → k < 320 → am k = am' k) (c near s : Int) (hs : 0 ≤ s ∧ s < 5) : slS w n dg am c near s = slS w n dg' am' c near s := by
  unfold slS
  refine xfor_congr_n fun j v h0 hj => ?_
  unfold slF
  rw [hd j h0 hj, ha (j * 5 + s) (by omega) (by omega)]
theorem soilF_congr {w n : Int} {dg og am dg' og' am' : Int → Int} (hn : n ≤ 64) (hd : ∀ e, 0 ≤ e → e < n → dg e = dg' e) (ho : ∀ e, 0 ≤ e → e < n → og e = og' e) (ha : ∀ k, 0 ≤ k → k < 320 → am k = am' k) {c s : Int} (hc : 0 ≤ c ∧ c < n) (hs : 0 ≤ s ∧ s < 5) : soilF w n dg og am c s = soilF w n dg' og' am' c s := by
  unfold soilF
  rw [srcS_congr hd ho 64 c hc, nrS_congr hd, slS_congr hn hd ha _ _ s hs]
theorem soilT_congr {w n : Int} {dg og am dg' og' am' : Int → Int} (hn : n ≤ 64) (hd : ∀ e, 0 ≤ e → e < n → dg e = dg' e) (ho : ∀ e, 0 ≤ e → e < n → og e = og' e) (ha : ∀ k, 0 ≤ k → k < 320 → am k = am' k) {c : Int} (hc : 0 ≤ c ∧ c < n) : soilT w n dg og am c = soilT w n dg' og' am' c := by
  unfold soilT sum5
  rw [soilF_congr hn hd ho ha hc ⟨by decide, by decide⟩, soilF_congr hn hd ho ha hc (s := 0 + 1) ⟨by decide, by decide⟩, soilF_congr hn hd ho ha hc (s := 0 + 2) ⟨by decide, by decide⟩, soilF_congr hn hd ho ha hc (s := 0 + 3) ⟨by decide, by decide⟩, soilF_congr hn hd ho ha hc (s := 0 + 4) ⟨by decide, by decide⟩]
