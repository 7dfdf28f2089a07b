/-! THE PURE LAYER 18: steps of stories, the pair; verdicts -/
def stD (H : XH) (s c w h : Int) : XH := xup (xup (xup (xup H 13 ((s * 20 + H 14 s) * 3) c) 13 ((s * 20 + H 14 s) * 3 + 1) w) 13 ((s * 20 + H 14 s) * 3 + 2) h) 14 s (H 14 s + 1)
def stM (H : XH) (s c w h : Int) : XH := xup (xup (xup (xup H 68 (620 + 60 * s + 3 * H 68 (610 + s)) c) 68 (620 + 60 * s + 3 * H 68 (610 + s) + 1) w) 68 (620 + 60 * s + 3 * H 68 (610 + s) + 2) h) 68 (610 + s) (H 68 (610 + s) + 1)

theorem s_201 {X : Int × (Int → Int)} {d : Nat} {Q : Int → XH → Prop} (hd : 3 ≤ d) (s c w u : Int) (H : XH) (p0 : -2147483648 < H 67 1 ∧ H 67 1 ≤ 2147483647) (p1 : 0 ≤ s → s ≤ 3 → 0 ≤ H 68 (610 + s) ∧ H 68 (610 + s) ≤ 20) (hY : (0 ≤ s ∧ s ≤ 3) ∧ (0 ≤ c ∧ c < H 67 1) ∧ (0 ≤ w ∧ w ≤ 9) ∧ (0 ≤ u ∧ u ≤ 23) ∧ ¬ H 68 (610 + s) = 20 → Q (H 68 (610 + s) + 1) (stM H s c w u)) (hN : ¬ ((0 ≤ s ∧ s ≤ 3) ∧ (0 ≤ c ∧ c < H 67 1) ∧ (0 ≤ w ∧ w ≤ 9) ∧ (0 ≤ u ∧ u ≤ 23) ∧ ¬ H 68 (610 + s) = 20) → Q (-1) H) : xc X d 201 [(2, 67), (0, s), (0, c), (0, w), (0, u)] H Q := by
  cases d with
  | zero => omega
  | succ d =>
  refine U_201 (by omega) s c w u H ?_
  refine ⟨fun c1 => ?_, fun c1 => ?_⟩
  · skip
    refine ⟨?_, ?_⟩
    · first | omega | (unfold xI; omega) | (simp (disch := omega) only [xup_self, xup_k]; unfold xI; omega) | (exfalso; omega)
    refine ⟨fun c2 => ?_, fun c2 => ?_⟩
    · skip
      refine ⟨fun c3 => ?_, fun c3 => ?_⟩
      · skip
        refine ⟨fun c4 => ?_, fun c4 => ?_⟩
        · skip
          refine ⟨?_, ?_⟩
          · first | omega | (unfold xI; omega) | (simp (disch := omega) only [xup_self, xup_k]; unfold xI; omega) | (exfalso; omega)
          refine ⟨?_, ?_⟩
          · first | omega | (unfold xI; omega) | (simp (disch := omega) only [xup_self, xup_k]; unfold xI; omega) | (exfalso; omega)
          refine ⟨fun c5 => ?_, fun c5 => ?_⟩
          · skip
            refine ⟨?_, ?_⟩
            · first | omega | (unfold xI; omega) | (simp (disch := omega) only [xup_self, xup_k]; unfold xI; omega) | (exfalso; omega)
            refine ⟨?_, ?_⟩
            · first | omega | (unfold xI; omega) | (simp (disch := omega) only [xup_self, xup_k]; unfold xI; omega) | (exfalso; omega)
            refine ⟨?_, ?_⟩
            · first | omega | (unfold xI; omega) | (simp (disch := omega) only [xup_self, xup_k]; unfold xI; omega) | (exfalso; omega)
            refine ⟨?_, ?_⟩
            · first | omega | (unfold xI; omega) | (simp (disch := omega) only [xup_self, xup_k]; unfold xI; omega) | (exfalso; omega)
            refine ⟨?_, ?_⟩
            · first | omega | (unfold xI; omega) | (simp (disch := omega) only [xup_self, xup_k]; unfold xI; omega) | (exfalso; omega)
            refine ⟨?_, ?_⟩
            · first | omega | (unfold xI; omega) | (simp (disch := omega) only [xup_self, xup_k]; unfold xI; omega) | (exfalso; omega)
            refine ⟨?_, ?_⟩
            · first | omega | (unfold xI; omega) | (simp (disch := omega) only [xup_self, xup_k]; unfold xI; omega) | (exfalso; omega)
            refine ⟨?_, ?_⟩
            · first | omega | (unfold xI; omega) | (simp (disch := omega) only [xup_self, xup_k]; unfold xI; omega) | (exfalso; omega)
            refine ⟨?_, ?_⟩
            · first | omega | (unfold xI; omega) | (simp (disch := omega) only [xup_self, xup_k]; unfold xI; omega) | (exfalso; omega)
            refine ⟨?_, ?_⟩
            · first | omega | (unfold xI; omega) | (simp (disch := omega) only [xup_self, xup_k]; unfold xI; omega) | (exfalso; omega)
            refine ⟨?_, ?_⟩
            · first | omega | (unfold xI; omega) | (simp (disch := omega) only [xup_self, xup_k]; unfold xI; omega) | (exfalso; omega)
            refine ⟨?_, ?_⟩
            · first | omega | (unfold xI; omega) | (simp (disch := omega) only [xup_self, xup_k]; unfold xI; omega) | (exfalso; omega)
            refine ⟨?_, ?_⟩
            · first | omega | (unfold xI; omega) | (simp (disch := omega) only [xup_self, xup_k]; unfold xI; omega) | (exfalso; omega)
            refine ⟨?_, ?_⟩
            · first | omega | (unfold xI; omega) | (simp (disch := omega) only [xup_self, xup_k]; unfold xI; omega) | (exfalso; omega)
            refine ⟨?_, ?_⟩
            · first | omega | (unfold xI; omega) | (simp (disch := omega) only [xup_self, xup_k]; unfold xI; omega) | (exfalso; omega)
            refine ⟨?_, ?_⟩
            · first | omega | (unfold xI; omega) | (simp (disch := omega) only [xup_self, xup_k]; unfold xI; omega) | (exfalso; omega)
            refine ⟨?_, ?_⟩
            · first | omega | (unfold xI; omega) | (simp (disch := omega) only [xup_self, xup_k]; unfold xI; omega) | (exfalso; omega)
            first | (exact hN (fun q => by omega)) | ((simp (disch := omega) only [xup_self, xup_k]; exact hY (by omega))) | (exfalso; omega)
          · skip
            first | (exact hN (fun q => by omega)) | ((simp (disch := omega) only [xup_self, xup_k]; exact hY (by omega))) | (exfalso; omega)
        · skip
          first | (exact hN (fun q => by omega)) | ((simp (disch := omega) only [xup_self, xup_k]; exact hY (by omega))) | (exfalso; omega)
      · skip
        first | (exact hN (fun q => by omega)) | ((simp (disch := omega) only [xup_self, xup_k]; exact hY (by omega))) | (exfalso; omega)
    · skip
      first | (exact hN (fun q => by omega)) | ((simp (disch := omega) only [xup_self, xup_k]; exact hY (by omega))) | (exfalso; omega)
  · skip
    first | (exact hN (fun q => by omega)) | ((simp (disch := omega) only [xup_self, xup_k]; exact hY (by omega))) | (exfalso; omega)

theorem step_inv (H : XH) (hi : InvS H) (s c w u : Int) (ps : 0 ≤ s ∧ s ≤ 3) (pc : 0 ≤ c ∧ c < H 67 1) (pw : 0 ≤ w ∧ w ≤ 9) (pu : 0 ≤ u ∧ u ≤ 23) (h20 : H 14 s < 20) : InvS (stM (stD H s c w u) s c w u) := by
  have hg := hi.1
  have hs := hi.2
  have hs14 := hs.sc s (by omega) (by omega)
  have hsp := hg.spc s (by omega) (by omega)
  have e67 : stM (stD H s c w u) s c w u 67 1 = H 67 1 := rfl
  generalize hn : H 14 s = n at *
  have hG : ∀ k, stM (stD H s c w u) s c w u 68 k = if k = 610 + s then n + 1 else if k = 620 + 60 * s + 3 * n + 2 then u else if k = 620 + 60 * s + 3 * n + 1 then w else if k = 620 + 60 * s + 3 * n then c else H 68 k := by
    intro k
    show xup (xup (xup (xup (stD H s c w u) 68 (620 + 60 * s + 3 * H 68 (610 + s)) c) 68 (620 + 60 * s + 3 * H 68 (610 + s) + 1) w) 68 (620 + 60 * s + 3 * H 68 (610 + s) + 2) u) 68 (610 + s) (H 68 (610 + s) + 1) 68 k = _
    rw [xup_eq, xup_eq, xup_eq, xup_eq, ← hs14]
    rfl
  have hD : ∀ k, stM (stD H s c w u) s c w u 13 k = if k = (s * 20 + n) * 3 + 2 then u else if k = (s * 20 + n) * 3 + 1 then w else if k = (s * 20 + n) * 3 then c else H 13 k := by
    intro k
    show xup (xup (xup H 13 ((s * 20 + H 14 s) * 3) c) 13 ((s * 20 + H 14 s) * 3 + 1) w) 13 ((s * 20 + H 14 s) * 3 + 2) u 13 k = _
    rw [xup_eq, xup_eq, xup_eq, hn]
  have hC : ∀ k, stM (stD H s c w u) s c w u 14 k = if k = s then n + 1 else H 14 k := by
    intro k
    show xup H 14 s (H 14 s + 1) 14 k = _
    rw [xup_eq, hn]
  refine ⟨?_, ?_⟩
  · refine GOk_sp (g := H 68) hg (fun k hk => ?_) (fun t a b => ?_) (fun t k a b e f => ?_)
    · rw [hG]
      repeat' split
      all_goals omega
    · have z := hg.spc t a b
      rw [hG]
      repeat' split
      all_goals omega
    · rw [hG] at f
      by_cases hts : t = s
      · subst hts
        rw [if_pos rfl] at f
        by_cases hk : k = n
        · rw [hG, hG, hG]
          repeat' split
          all_goals omega
        · have z := hg.spb t k a b e (by omega)
          rw [hG, hG, hG]
          repeat' split
          all_goals omega
      · rw [if_neg (by omega), if_neg (by omega), if_neg (by omega), if_neg (by omega)] at f
        have y := hg.spc t a b
        have z := hg.spb t k a b e f
        rw [hG, hG, hG]
        repeat' split
        all_goals omega
  · refine SRel_sp (g := H 68) hg hs (fun k hk => ?_) (fun k a b => ?_) (fun t a b => ?_)
    · rw [hG]
      repeat' split
      all_goals omega
    · have z := hs.sp k a b
      rw [hG, hD]
      repeat' split
      all_goals omega
    · have z := hs.sc t a b
      rw [hG, hC]
      repeat' split
      all_goals omega

theorem p_step {X : Int × (Int → Int)} {d : Nat} (hd : 4 ≤ d) (s c w u : Int) (H : XH) (hi : InvS H) : xc X d 200 [(2, 0), (0, s), (0, c), (0, w), (0, u)] H (fun r H1 => xc X d 201 [(2, 67), (0, s), (0, c), (0, w), (0, u)] H1 (pOk H r)) := by
  have hg := hi.1
  have hs := hi.2
  have nn := hg.nn
  have l2 := hs.l2
  have hs14 : 0 ≤ s → s ≤ 3 → H 14 s = H 68 (610 + s) := fun a b => hs.sc s a (by omega)
  have hsp : 0 ≤ s → s ≤ 3 → 0 ≤ H 68 (610 + s) ∧ H 68 (610 + s) ≤ 20 := fun a b => hg.spc s a (by omega)
  have no : ¬ ((0 ≤ s ∧ s ≤ 3) ∧ (0 ≤ c ∧ c < H 67 1) ∧ (0 ≤ w ∧ w ≤ 9) ∧ (0 ≤ u ∧ u ≤ 23) ∧ ¬ H 68 (610 + s) = 20) → xc X d 201 [(2, 67), (0, s), (0, c), (0, w), (0, u)] H (pOk H (-1)) := fun q =>
    s_201 (by omega) s c w u H (by omega) hsp (fun z => absurd z q) (fun _ => ⟨rfl, hi, frO_refl H⟩)
  cases d with
  | zero => omega
  | succ d =>
  refine U_200 (by omega) s c w u H ?_
  refine ⟨fun c1 => ?_, fun c1 => ?_⟩
  · skip
    refine ⟨fun c2 => ?_, fun c2 => ?_⟩
    · skip
      refine ⟨fun c3 => ?_, fun c3 => ?_⟩
      · skip
        refine ⟨fun c4 => ?_, fun c4 => ?_⟩
        · skip
          refine ⟨?_, ?_⟩
          · first | omega | (unfold xI; omega) | (unfold xJ; omega) | assumption | (exfalso; omega)
          refine ⟨?_, ?_⟩
          · first | omega | (unfold xI; omega) | (unfold xJ; omega) | assumption | (exfalso; omega)
          by_cases h20 : H 14 s < 20
          · have e1 : (if H 14 s < 20 then H 14 s + 1 else (-1)) = H 14 s + 1 := if_pos h20
            have e2 : stC H s c w u = stD H s c w u := if_pos h20
            rw [e1, e2]
            have nn' : (-2147483648 : Int) < H 67 1 ∧ H 67 1 ≤ 2147483647 := by omega
            refine s_201 (by omega) s c w u (stD H s c w u) nn' hsp (fun z => ⟨?_, step_inv H hi s c w u (by omega) (by omega) (by omega) (by omega) h20, ?_⟩) (fun z => absurd ⟨by omega, (show 0 ≤ c ∧ c < H 67 1 by omega), by omega, by omega, (show ¬ H 68 (610 + s) = 20 by omega)⟩ z)
            · show H 68 (610 + s) + 1 = H 14 s + 1
              omega
            · have q8 : stD H s c w u 68 (610 + s) = H 68 (610 + s) := rfl
              unfold stM
              unfold stD
              have q9 : stD H s c w u 68 (610 + s) = xup (xup (xup (xup H 13 ((s * 20 + H 14 s) * 3) c) 13 ((s * 20 + H 14 s) * 3 + 1) w) 13 ((s * 20 + H 14 s) * 3 + 2) u) 14 s (H 14 s + 1) 68 (610 + s) := rfl
              exact frO_up (frO_up (frO_up (frO_up (frO_up (frO_up (frO_up (frO_up (frO_refl H) (by omega)) (by omega)) (by omega)) (by omega)) (by omega)) (by omega)) (by omega)) (by omega)
          · have e1 : (if H 14 s < 20 then H 14 s + 1 else (-1)) = -1 := if_neg h20
            have e2 : stC H s c w u = H := if_neg h20
            rw [e1, e2]
            exact no (by omega)
        · skip
          exact no (by omega)
      · skip
        exact no (by omega)
    · skip
      exact no (by omega)
  · skip
    exact no (by omega)

theorem U_242 {X : Int × (Int → Int)} {d : Nat} {Q : Int → XH → Prop} (hd : 0 ≤ d) (l p y k : Int) (H : XH) (h : ((H 15 4 < 60) → ((0 : Int) ≤ H 15 4 ∧ (H 15 4 : Int) < 60) ∧ ((0 : Int) ≤ H 15 4 ∧ (H 15 4 : Int) < 60) ∧ (((0 : Int) ≤ H 15 4 ∧ (H 15 4 : Int) < 60) ∧ (0 : Int) ≤ y ∧ (y : Int) ≤ 1) ∧ (((0 : Int) ≤ H 15 4 ∧ (H 15 4 : Int) < 60) ∧ (0 : Int) ≤ k ∧ (k : Int) ≤ 1) ∧ (xI ((H 15 4) + 1)) ∧ Q ((H 15 4) + 1) (xup (xup (xup (xup (xup H 16 (H 15 4) l) 17 (H 15 4) p) 18 (H 15 4) y) 19 (H 15 4) k) 15 4 ((H 15 4) + 1))) ∧ (¬ (H 15 4 < 60) → Q (-1) H)) : xc X (d + 1) 242 [(2, 15), (0, l), (0, p), (0, y), (0, k)] H Q := by
  refine ⟨rfl, ?_⟩
  show xq X d 242 Q 100000 [(0, (2, 15)), (1, (0, l)), (2, (0, p)), (3, (0, y)), (4, (0, k))] [] H
  refine xq_run [] 300 ?_
  show ((H 15 4 < 60) → ((0 : Int) ≤ H 15 4 ∧ (H 15 4 : Int) < 60) ∧ ((0 : Int) ≤ H 15 4 ∧ (H 15 4 : Int) < 60) ∧ (((0 : Int) ≤ H 15 4 ∧ (H 15 4 : Int) < 60) ∧ xfB (xTy xKZ 18) y) ∧ (((0 : Int) ≤ H 15 4 ∧ (H 15 4 : Int) < 60) ∧ xfB (xTy xKZ 19) k) ∧ (xI ((H 15 4) + 1)) ∧ xfR 0 ((H 15 4) + 1) ∧ xKZ = xKZ ∧ Q ((H 15 4) + 1) (xup (xup (xup (xup (xup H 16 (H 15 4) l) 17 (H 15 4) p) 18 (H 15 4) y) 19 (H 15 4) k) 15 4 ((H 15 4) + 1))) ∧ (¬ (H 15 4 < 60) → xfR 0 (-1) ∧ xKZ = xKZ ∧ Q (-1) H)
  refine ⟨fun k_ => ?_, fun k_ => ?_⟩
  · replace h := h.1 k_
    refine ⟨h.1, ?_⟩
    replace h := h.2
    refine ⟨h.1, ?_⟩
    replace h := h.2
    refine ⟨⟨h.1.1, ⟨fun q => absurd q (by decide), fun _ => h.1.2⟩⟩, ?_⟩
    replace h := h.2
    refine ⟨⟨h.1.1, ⟨fun q => absurd q (by decide), fun _ => h.1.2⟩⟩, ?_⟩
    replace h := h.2
    refine ⟨h.1, ?_⟩
    replace h := h.2
    exact ⟨trivial, rfl, h⟩
  · replace h := h.2 k_
    exact ⟨trivial, rfl, h⟩

def vdC (H : XH) (l p y k : Int) : XH := xup (xup (xup (xup (xup H 16 (H 15 4) l) 17 (H 15 4) p) 18 (H 15 4) y) 19 (H 15 4) k) 15 4 (H 15 4 + 1)
def vdM (H : XH) (l p c y k : Int) : XH := xup (xup (xup (xup (xup (xup H 68 (870 + 5 * H 68 4) l) 68 (870 + 5 * H 68 4 + 1) p) 68 (870 + 5 * H 68 4 + 2) c) 68 (870 + 5 * H 68 4 + 3) y) 68 (870 + 5 * H 68 4 + 4) k) 68 4 (H 68 4 + 1)

theorem s_242 {X : Int × (Int → Int)} {d : Nat} {Q : Int → XH → Prop} (hd : 1 ≤ d) (l p y k : Int) (H : XH) (p0 : 0 ≤ H 15 4) (p1 : 0 ≤ y ∧ y ≤ 1) (p2 : 0 ≤ k ∧ k ≤ 1) (hY : H 15 4 < 60 → Q (H 15 4 + 1) (vdC H l p y k)) (hN : ¬ (H 15 4 < 60) → Q (-1) H) : xc X d 242 [(2, 15), (0, l), (0, p), (0, y), (0, k)] H Q := by
  cases d with
  | zero => omega
  | succ d =>
  refine U_242 (by omega) l p y k H ?_
  refine ⟨fun c1 => ?_, fun c1 => ?_⟩
  · skip
    refine ⟨?_, ?_⟩
    · first | omega | (unfold xI; omega) | (unfold xJ; omega) | assumption | (exfalso; omega)
    refine ⟨?_, ?_⟩
    · first | omega | (unfold xI; omega) | (unfold xJ; omega) | assumption | (exfalso; omega)
    refine ⟨?_, ?_⟩
    · first | omega | (unfold xI; omega) | (unfold xJ; omega) | assumption | (exfalso; omega)
    refine ⟨?_, ?_⟩
    · first | omega | (unfold xI; omega) | (unfold xJ; omega) | assumption | (exfalso; omega)
    refine ⟨?_, ?_⟩
    · first | omega | (unfold xI; omega) | (unfold xJ; omega) | assumption | (exfalso; omega)
    first | (exact hN (fun q => by omega)) | (exact xQrh (hY (by omega)) (by omega) rfl) | (exfalso; omega)
  · skip
    first | (exact hN (fun q => by omega)) | (exact xQrh (hY (by omega)) (by omega) rfl) | (exfalso; omega)

theorem s_242b {X : Int × (Int → Int)} {d : Nat} {Q : Int → XH → Prop} (hd : 3 ≤ d) (l p y k : Int) (H : XH) (p0 : 0 ≤ H 15 4) (p1 : 0 ≤ y ∧ y ≤ 1) (p2 : 0 ≤ k ∧ k ≤ 1) (hQ : Q (if H 15 4 < 60 then H 15 4 + 1 else (-1)) (if H 15 4 < 60 then vdC H l p y k else H)) : xc X d 242 [(2, 15), (0, l), (0, p), (0, y), (0, k)] H Q :=
  s_242 (by omega) l p y k H p0 p1 p2 (fun q => by rw [if_pos q, if_pos q] at hQ; exact hQ) (fun q => by rw [if_neg q, if_neg q] at hQ; exact hQ)

theorem U_243 {X : Int × (Int → Int)} {d : Nat} {Q : Int → XH → Prop} (hd : 3 ≤ d) (l p c y k : Int) (H : XH) (h : ((((0 ≤ l ∧ l ≤ 3)) → ((((0 ≤ p ∧ p ≤ 7)) → ((((0 ≤ c ∧ c < H 2 2)) → (xI (p * 64)) ∧ (xI ((p * 64) + c)) ∧ (0 ≤ H 15 4) ∧ (0 ≤ y ∧ y ≤ 1) ∧ (0 ≤ k ∧ k ≤ 1) ∧ (Q (if H 15 4 < 60 then H 15 4 + 1 else (-1)) (if H 15 4 < 60 then vdC H l ((p * 64) + c) y k else H))) ∧ (¬ ((0 ≤ c ∧ c < H 2 2)) → Q (-1) H))) ∧ (¬ ((0 ≤ p ∧ p ≤ 7)) → Q (-1) H))) ∧ (¬ ((0 ≤ l ∧ l ≤ 3)) → Q (-1) H))) : xc X (d + 1) 243 [(2, 0), (0, l), (0, p), (0, c), (0, y), (0, k)] H Q := by
  refine ⟨rfl, ?_⟩
  show xq X d 243 Q 100000 [(0, (2, 0)), (1, (0, l)), (2, (0, p)), (3, (0, c)), (4, (0, y)), (5, (0, k))] [] H
  refine xq_run [6, 16, 32, 58] 300 ?_
  show xWM (xE X) xMC d 19 [(0, l), (0, 0), (0, 3)] xKZ H _
  refine xc_in (s_19 (by omega) l 0 3 H  ?_)
  replace h := h
  show xq X d 243 Q 6 [(0, (2, 0)), (1, (0, l)), (2, (0, p)), (3, (0, c)), (4, (0, y)), (5, (0, k))] [(0, xb (0 ≤ l ∧ l ≤ 3))] H
  refine xq_run [6, 16, 32, 58] 300 ?_
  show ((xb (0 ≤ l ∧ l ≤ 3) = 0) → xfR 0 (-1) ∧ xKZ = xKZ ∧ Q (-1) H) ∧ (¬ (xb (0 ≤ l ∧ l ≤ 3) = 0) → xWM (xE X) xMC d 19 [(0, p), (0, 0), (0, 7)] xKZ H _)
  refine ⟨fun k_ => ?_, fun k_ => ?_⟩
  · replace h := h.2 (xbe_0.mp k_)
    exact ⟨trivial, rfl, h⟩
  · replace h := h.1 (xbe_1.mp k_)
    refine xc_in (s_19 (by omega) p 0 7 H  ?_)
    replace h := h
    show xq X d 243 Q 16 [(0, (2, 0)), (1, (0, l)), (2, (0, p)), (3, (0, c)), (4, (0, y)), (5, (0, k))] [(0, xb (0 ≤ p ∧ p ≤ 7))] H
    refine xq_run [6, 16, 32, 58] 300 ?_
    show ((¬ xb (0 ≤ p ∧ p ≤ 7) = 0) → xWM (xE X) xMC d 18 [(2, 2), (0, c)] xKZ H _) ∧ (¬ (¬ xb (0 ≤ p ∧ p ≤ 7) = 0) → xfR 0 (-1) ∧ xKZ = xKZ ∧ Q (-1) H)
    refine ⟨fun k_ => ?_, fun k_ => ?_⟩
    · replace h := h.1 (xbe_1.mp k_)
      refine xc_in (s_18 (by omega) c H  ?_)
      replace h := h
      show xq X d 243 Q 32 [(0, (2, 0)), (1, (0, l)), (2, (0, p)), (3, (0, c)), (4, (0, y)), (5, (0, k))] [(0, xb (0 ≤ c ∧ c < H 2 2))] H
      refine xq_run [6, 16, 32, 58] 300 ?_
      show ((¬ xb (0 ≤ c ∧ c < H 2 2) = 0) → (xI (p * 64)) ∧ (xI ((p * 64) + c)) ∧ xWM (xE X) xMC d 242 [(2, 15), (0, l), (0, (p * 64) + c), (0, y), (0, k)] xKZ H _) ∧ (¬ (¬ xb (0 ≤ c ∧ c < H 2 2) = 0) → xfR 0 (-1) ∧ xKZ = xKZ ∧ Q (-1) H)
      refine ⟨fun k_ => ?_, fun k_ => ?_⟩
      · replace h := h.1 (xbe_1.mp k_)
        refine ⟨h.1, ?_⟩
        replace h := h.2
        refine ⟨h.1, ?_⟩
        replace h := h.2
        refine xc_in (s_242b (by omega) l ((p * 64) + c) y k H (h.1) (h.2.1) (h.2.2.1) ?_)
        replace h := h.2.2.2
        show xq X d 243 Q 58 [(0, (2, 0)), (1, (0, l)), (2, (0, p)), (3, (0, c)), (4, (0, y)), (5, (0, k))] [(0, if H 15 4 < 60 then H 15 4 + 1 else (-1))] (if H 15 4 < 60 then vdC H l ((p * 64) + c) y k else H)
        refine xq_run [6, 16, 32, 58] 300 ?_
        show xfR 0 (if H 15 4 < 60 then H 15 4 + 1 else (-1)) ∧ xKZ = xKZ ∧ Q (if H 15 4 < 60 then H 15 4 + 1 else (-1)) (if H 15 4 < 60 then vdC H l ((p * 64) + c) y k else H)
        exact ⟨trivial, rfl, h⟩
      · replace h := h.2 (xbe_n.mp k_)
        exact ⟨trivial, rfl, h⟩
    · replace h := h.2 (xbe_n.mp k_)
      exact ⟨trivial, rfl, h⟩

theorem U_244 {X : Int × (Int → Int)} {d : Nat} {Q : Int → XH → Prop} (hd : 2 ≤ d) (l p c y k : Int) (H : XH) (h : ((((0 ≤ l ∧ l ≤ 3)) → ((((0 ≤ p ∧ p ≤ 7)) → (-2147483648 < H 67 1 ∧ H 67 1 ≤ 2147483647) ∧ ((((0 ≤ c ∧ c < H 67 1)) → ((¬ H 68 4 = 60) → (xI (5 * (H 68 4))) ∧ (xI (870 + (5 * (H 68 4)))) ∧ ((0 : Int) ≤ 870 + (5 * (H 68 4)) ∧ (870 + (5 * (H 68 4)) : Int) < 1180) ∧ (xI ((870 + (5 * (H 68 4))) + 1)) ∧ ((0 : Int) ≤ (870 + (5 * (H 68 4))) + 1 ∧ ((870 + (5 * (H 68 4))) + 1 : Int) < 1180) ∧ (xI ((870 + (5 * (H 68 4))) + 2)) ∧ ((0 : Int) ≤ (870 + (5 * (H 68 4))) + 2 ∧ ((870 + (5 * (H 68 4))) + 2 : Int) < 1180) ∧ (xI ((870 + (5 * (H 68 4))) + 3)) ∧ ((y = 0) → ((0 : Int) ≤ (870 + (5 * (H 68 4))) + 3 ∧ ((870 + (5 * (H 68 4))) + 3 : Int) < 1180) ∧ (xI ((870 + (5 * (H 68 4))) + 4)) ∧ ((k = 0) → ((0 : Int) ≤ (870 + (5 * (H 68 4))) + 4 ∧ ((870 + (5 * (H 68 4))) + 4 : Int) < 1180) ∧ (xI (((xup (xup (xup (xup (xup H 68 (870 + (5 * (H 68 4))) l) 68 ((870 + (5 * (H 68 4))) + 1) p) 68 ((870 + (5 * (H 68 4))) + 2) c) 68 ((870 + (5 * (H 68 4))) + 3) 0) 68 ((870 + (5 * (H 68 4))) + 4) 0) 68 4) + 1)) ∧ Q (((xup (xup (xup (xup (xup H 68 (870 + (5 * (H 68 4))) l) 68 ((870 + (5 * (H 68 4))) + 1) p) 68 ((870 + (5 * (H 68 4))) + 2) c) 68 ((870 + (5 * (H 68 4))) + 3) 0) 68 ((870 + (5 * (H 68 4))) + 4) 0) 68 4) + 1) (xup (xup (xup (xup (xup (xup H 68 (870 + (5 * (H 68 4))) l) 68 ((870 + (5 * (H 68 4))) + 1) p) 68 ((870 + (5 * (H 68 4))) + 2) c) 68 ((870 + (5 * (H 68 4))) + 3) 0) 68 ((870 + (5 * (H 68 4))) + 4) 0) 68 4 (((xup (xup (xup (xup (xup H 68 (870 + (5 * (H 68 4))) l) 68 ((870 + (5 * (H 68 4))) + 1) p) 68 ((870 + (5 * (H 68 4))) + 2) c) 68 ((870 + (5 * (H 68 4))) + 3) 0) 68 ((870 + (5 * (H 68 4))) + 4) 0) 68 4) + 1))) ∧ (¬ (k = 0) → ((0 : Int) ≤ (870 + (5 * (H 68 4))) + 4 ∧ ((870 + (5 * (H 68 4))) + 4 : Int) < 1180) ∧ (xI (((xup (xup (xup (xup (xup H 68 (870 + (5 * (H 68 4))) l) 68 ((870 + (5 * (H 68 4))) + 1) p) 68 ((870 + (5 * (H 68 4))) + 2) c) 68 ((870 + (5 * (H 68 4))) + 3) 0) 68 ((870 + (5 * (H 68 4))) + 4) 1) 68 4) + 1)) ∧ Q (((xup (xup (xup (xup (xup H 68 (870 + (5 * (H 68 4))) l) 68 ((870 + (5 * (H 68 4))) + 1) p) 68 ((870 + (5 * (H 68 4))) + 2) c) 68 ((870 + (5 * (H 68 4))) + 3) 0) 68 ((870 + (5 * (H 68 4))) + 4) 1) 68 4) + 1) (xup (xup (xup (xup (xup (xup H 68 (870 + (5 * (H 68 4))) l) 68 ((870 + (5 * (H 68 4))) + 1) p) 68 ((870 + (5 * (H 68 4))) + 2) c) 68 ((870 + (5 * (H 68 4))) + 3) 0) 68 ((870 + (5 * (H 68 4))) + 4) 1) 68 4 (((xup (xup (xup (xup (xup H 68 (870 + (5 * (H 68 4))) l) 68 ((870 + (5 * (H 68 4))) + 1) p) 68 ((870 + (5 * (H 68 4))) + 2) c) 68 ((870 + (5 * (H 68 4))) + 3) 0) 68 ((870 + (5 * (H 68 4))) + 4) 1) 68 4) + 1)))) ∧ (¬ (y = 0) → ((0 : Int) ≤ (870 + (5 * (H 68 4))) + 3 ∧ ((870 + (5 * (H 68 4))) + 3 : Int) < 1180) ∧ (xI ((870 + (5 * (H 68 4))) + 4)) ∧ ((k = 0) → ((0 : Int) ≤ (870 + (5 * (H 68 4))) + 4 ∧ ((870 + (5 * (H 68 4))) + 4 : Int) < 1180) ∧ (xI (((xup (xup (xup (xup (xup H 68 (870 + (5 * (H 68 4))) l) 68 ((870 + (5 * (H 68 4))) + 1) p) 68 ((870 + (5 * (H 68 4))) + 2) c) 68 ((870 + (5 * (H 68 4))) + 3) 1) 68 ((870 + (5 * (H 68 4))) + 4) 0) 68 4) + 1)) ∧ Q (((xup (xup (xup (xup (xup H 68 (870 + (5 * (H 68 4))) l) 68 ((870 + (5 * (H 68 4))) + 1) p) 68 ((870 + (5 * (H 68 4))) + 2) c) 68 ((870 + (5 * (H 68 4))) + 3) 1) 68 ((870 + (5 * (H 68 4))) + 4) 0) 68 4) + 1) (xup (xup (xup (xup (xup (xup H 68 (870 + (5 * (H 68 4))) l) 68 ((870 + (5 * (H 68 4))) + 1) p) 68 ((870 + (5 * (H 68 4))) + 2) c) 68 ((870 + (5 * (H 68 4))) + 3) 1) 68 ((870 + (5 * (H 68 4))) + 4) 0) 68 4 (((xup (xup (xup (xup (xup H 68 (870 + (5 * (H 68 4))) l) 68 ((870 + (5 * (H 68 4))) + 1) p) 68 ((870 + (5 * (H 68 4))) + 2) c) 68 ((870 + (5 * (H 68 4))) + 3) 1) 68 ((870 + (5 * (H 68 4))) + 4) 0) 68 4) + 1))) ∧ (¬ (k = 0) → ((0 : Int) ≤ (870 + (5 * (H 68 4))) + 4 ∧ ((870 + (5 * (H 68 4))) + 4 : Int) < 1180) ∧ (xI (((xup (xup (xup (xup (xup H 68 (870 + (5 * (H 68 4))) l) 68 ((870 + (5 * (H 68 4))) + 1) p) 68 ((870 + (5 * (H 68 4))) + 2) c) 68 ((870 + (5 * (H 68 4))) + 3) 1) 68 ((870 + (5 * (H 68 4))) + 4) 1) 68 4) + 1)) ∧ Q (((xup (xup (xup (xup (xup H 68 (870 + (5 * (H 68 4))) l) 68 ((870 + (5 * (H 68 4))) + 1) p) 68 ((870 + (5 * (H 68 4))) + 2) c) 68 ((870 + (5 * (H 68 4))) + 3) 1) 68 ((870 + (5 * (H 68 4))) + 4) 1) 68 4) + 1) (xup (xup (xup (xup (xup (xup H 68 (870 + (5 * (H 68 4))) l) 68 ((870 + (5 * (H 68 4))) + 1) p) 68 ((870 + (5 * (H 68 4))) + 2) c) 68 ((870 + (5 * (H 68 4))) + 3) 1) 68 ((870 + (5 * (H 68 4))) + 4) 1) 68 4 (((xup (xup (xup (xup (xup H 68 (870 + (5 * (H 68 4))) l) 68 ((870 + (5 * (H 68 4))) + 1) p) 68 ((870 + (5 * (H 68 4))) + 2) c) 68 ((870 + (5 * (H 68 4))) + 3) 1) 68 ((870 + (5 * (H 68 4))) + 4) 1) 68 4) + 1))))) ∧ (¬ (¬ H 68 4 = 60) → Q (-1) H)) ∧ (¬ ((0 ≤ c ∧ c < H 67 1)) → Q (-1) H))) ∧ (¬ ((0 ≤ p ∧ p ≤ 7)) → Q (-1) H))) ∧ (¬ ((0 ≤ l ∧ l ≤ 3)) → Q (-1) H))) : xc X (d + 1) 244 [(2, 67), (0, l), (0, p), (0, c), (0, y), (0, k)] H Q := by
  refine ⟨rfl, ?_⟩
  show xq X d 244 Q 100000 [(0, (2, 67)), (1, (0, l)), (2, (0, p)), (3, (0, c)), (4, (0, y)), (5, (0, k))] [] H
  refine xq_run [6, 16, 24] 300 ?_
  show xWM (xE X) xMC d 23 [(0, l), (0, 0), (0, 3)] xKZ H _
  refine xc_in (s_23 (by omega) l 0 3 H  ?_)
  replace h := h
  show xq X d 244 Q 6 [(0, (2, 67)), (1, (0, l)), (2, (0, p)), (3, (0, c)), (4, (0, y)), (5, (0, k))] [(0, xb (0 ≤ l ∧ l ≤ 3))] H
  refine xq_run [6, 16, 24] 300 ?_
  show ((xb (0 ≤ l ∧ l ≤ 3) = 0) → xfR 0 (-1) ∧ xKZ = xKZ ∧ Q (-1) H) ∧ (¬ (xb (0 ≤ l ∧ l ≤ 3) = 0) → xWM (xE X) xMC d 23 [(0, p), (0, 0), (0, 7)] xKZ H _)
  refine ⟨fun k_ => ?_, fun k_ => ?_⟩
  · replace h := h.2 (xbe_0.mp k_)
    exact ⟨trivial, rfl, h⟩
  · replace h := h.1 (xbe_1.mp k_)
    refine xc_in (s_23 (by omega) p 0 7 H  ?_)
    replace h := h
    show xq X d 244 Q 16 [(0, (2, 67)), (1, (0, l)), (2, (0, p)), (3, (0, c)), (4, (0, y)), (5, (0, k))] [(0, xb (0 ≤ p ∧ p ≤ 7))] H
    refine xq_run [6, 16, 24] 300 ?_
    show ((xb (0 ≤ p ∧ p ≤ 7) = 0) → xfR 0 (-1) ∧ xKZ = xKZ ∧ Q (-1) H) ∧ (¬ (xb (0 ≤ p ∧ p ≤ 7) = 0) → xWM (xE X) xMC d 24 [(2, 67), (0, c)] xKZ H _)
    refine ⟨fun k_ => ?_, fun k_ => ?_⟩
    · replace h := h.2 (xbe_0.mp k_)
      exact ⟨trivial, rfl, h⟩
    · replace h := h.1 (xbe_1.mp k_)
      refine xc_in (s_24 (by omega) c H (h.1) ?_)
      replace h := h.2
      show xq X d 244 Q 24 [(0, (2, 67)), (1, (0, l)), (2, (0, p)), (3, (0, c)), (4, (0, y)), (5, (0, k))] [(0, xb (0 ≤ c ∧ c < H 67 1))] H
      refine xq_run [6, 16, 24] 300 ?_
      show ((xb (0 ≤ c ∧ c < H 67 1) = 0) → xfR 0 (-1) ∧ xKZ = xKZ ∧ Q (-1) H) ∧ (¬ (xb (0 ≤ c ∧ c < H 67 1) = 0) → ((0 : Int) ≤ 4 ∧ (4 : Int) < 1180) ∧ ((¬ H 68 4 = 60) → ((0 : Int) ≤ 4 ∧ (4 : Int) < 1180) ∧ (xI (5 * (H 68 4))) ∧ (xI (870 + (5 * (H 68 4)))) ∧ ((0 : Int) ≤ 870 + (5 * (H 68 4)) ∧ (870 + (5 * (H 68 4)) : Int) < 1180) ∧ (xI ((870 + (5 * (H 68 4))) + 1)) ∧ ((0 : Int) ≤ (870 + (5 * (H 68 4))) + 1 ∧ ((870 + (5 * (H 68 4))) + 1 : Int) < 1180) ∧ (xI ((870 + (5 * (H 68 4))) + 2)) ∧ ((0 : Int) ≤ (870 + (5 * (H 68 4))) + 2 ∧ ((870 + (5 * (H 68 4))) + 2 : Int) < 1180) ∧ (xI ((870 + (5 * (H 68 4))) + 3)) ∧ ((y = 0) → ((0 : Int) ≤ (870 + (5 * (H 68 4))) + 3 ∧ ((870 + (5 * (H 68 4))) + 3 : Int) < 1180) ∧ (xI ((870 + (5 * (H 68 4))) + 4)) ∧ ((k = 0) → ((0 : Int) ≤ (870 + (5 * (H 68 4))) + 4 ∧ ((870 + (5 * (H 68 4))) + 4 : Int) < 1180) ∧ ((0 : Int) ≤ 4 ∧ (4 : Int) < 1180) ∧ (xI (((xup (xup (xup (xup (xup H 68 (870 + (5 * (H 68 4))) l) 68 ((870 + (5 * (H 68 4))) + 1) p) 68 ((870 + (5 * (H 68 4))) + 2) c) 68 ((870 + (5 * (H 68 4))) + 3) 0) 68 ((870 + (5 * (H 68 4))) + 4) 0) 68 4) + 1)) ∧ ((0 : Int) ≤ 4 ∧ (4 : Int) < 1180) ∧ ((0 : Int) ≤ 4 ∧ (4 : Int) < 1180) ∧ xfR 0 (((xup (xup (xup (xup (xup H 68 (870 + (5 * (H 68 4))) l) 68 ((870 + (5 * (H 68 4))) + 1) p) 68 ((870 + (5 * (H 68 4))) + 2) c) 68 ((870 + (5 * (H 68 4))) + 3) 0) 68 ((870 + (5 * (H 68 4))) + 4) 0) 68 4) + 1) ∧ xKZ = xKZ ∧ Q (((xup (xup (xup (xup (xup H 68 (870 + (5 * (H 68 4))) l) 68 ((870 + (5 * (H 68 4))) + 1) p) 68 ((870 + (5 * (H 68 4))) + 2) c) 68 ((870 + (5 * (H 68 4))) + 3) 0) 68 ((870 + (5 * (H 68 4))) + 4) 0) 68 4) + 1) (xup (xup (xup (xup (xup (xup H 68 (870 + (5 * (H 68 4))) l) 68 ((870 + (5 * (H 68 4))) + 1) p) 68 ((870 + (5 * (H 68 4))) + 2) c) 68 ((870 + (5 * (H 68 4))) + 3) 0) 68 ((870 + (5 * (H 68 4))) + 4) 0) 68 4 (((xup (xup (xup (xup (xup H 68 (870 + (5 * (H 68 4))) l) 68 ((870 + (5 * (H 68 4))) + 1) p) 68 ((870 + (5 * (H 68 4))) + 2) c) 68 ((870 + (5 * (H 68 4))) + 3) 0) 68 ((870 + (5 * (H 68 4))) + 4) 0) 68 4) + 1))) ∧ (¬ (k = 0) → ((0 : Int) ≤ (870 + (5 * (H 68 4))) + 4 ∧ ((870 + (5 * (H 68 4))) + 4 : Int) < 1180) ∧ ((0 : Int) ≤ 4 ∧ (4 : Int) < 1180) ∧ (xI (((xup (xup (xup (xup (xup H 68 (870 + (5 * (H 68 4))) l) 68 ((870 + (5 * (H 68 4))) + 1) p) 68 ((870 + (5 * (H 68 4))) + 2) c) 68 ((870 + (5 * (H 68 4))) + 3) 0) 68 ((870 + (5 * (H 68 4))) + 4) 1) 68 4) + 1)) ∧ ((0 : Int) ≤ 4 ∧ (4 : Int) < 1180) ∧ ((0 : Int) ≤ 4 ∧ (4 : Int) < 1180) ∧ xfR 0 (((xup (xup (xup (xup (xup H 68 (870 + (5 * (H 68 4))) l) 68 ((870 + (5 * (H 68 4))) + 1) p) 68 ((870 + (5 * (H 68 4))) + 2) c) 68 ((870 + (5 * (H 68 4))) + 3) 0) 68 ((870 + (5 * (H 68 4))) + 4) 1) 68 4) + 1) ∧ xKZ = xKZ ∧ Q (((xup (xup (xup (xup (xup H 68 (870 + (5 * (H 68 4))) l) 68 ((870 + (5 * (H 68 4))) + 1) p) 68 ((870 + (5 * (H 68 4))) + 2) c) 68 ((870 + (5 * (H 68 4))) + 3) 0) 68 ((870 + (5 * (H 68 4))) + 4) 1) 68 4) + 1) (xup (xup (xup (xup (xup (xup H 68 (870 + (5 * (H 68 4))) l) 68 ((870 + (5 * (H 68 4))) + 1) p) 68 ((870 + (5 * (H 68 4))) + 2) c) 68 ((870 + (5 * (H 68 4))) + 3) 0) 68 ((870 + (5 * (H 68 4))) + 4) 1) 68 4 (((xup (xup (xup (xup (xup H 68 (870 + (5 * (H 68 4))) l) 68 ((870 + (5 * (H 68 4))) + 1) p) 68 ((870 + (5 * (H 68 4))) + 2) c) 68 ((870 + (5 * (H 68 4))) + 3) 0) 68 ((870 + (5 * (H 68 4))) + 4) 1) 68 4) + 1)))) ∧ (¬ (y = 0) → ((0 : Int) ≤ (870 + (5 * (H 68 4))) + 3 ∧ ((870 + (5 * (H 68 4))) + 3 : Int) < 1180) ∧ (xI ((870 + (5 * (H 68 4))) + 4)) ∧ ((k = 0) → ((0 : Int) ≤ (870 + (5 * (H 68 4))) + 4 ∧ ((870 + (5 * (H 68 4))) + 4 : Int) < 1180) ∧ ((0 : Int) ≤ 4 ∧ (4 : Int) < 1180) ∧ (xI (((xup (xup (xup (xup (xup H 68 (870 + (5 * (H 68 4))) l) 68 ((870 + (5 * (H 68 4))) + 1) p) 68 ((870 + (5 * (H 68 4))) + 2) c) 68 ((870 + (5 * (H 68 4))) + 3) 1) 68 ((870 + (5 * (H 68 4))) + 4) 0) 68 4) + 1)) ∧ ((0 : Int) ≤ 4 ∧ (4 : Int) < 1180) ∧ ((0 : Int) ≤ 4 ∧ (4 : Int) < 1180) ∧ xfR 0 (((xup (xup (xup (xup (xup H 68 (870 + (5 * (H 68 4))) l) 68 ((870 + (5 * (H 68 4))) + 1) p) 68 ((870 + (5 * (H 68 4))) + 2) c) 68 ((870 + (5 * (H 68 4))) + 3) 1) 68 ((870 + (5 * (H 68 4))) + 4) 0) 68 4) + 1) ∧ xKZ = xKZ ∧ Q (((xup (xup (xup (xup (xup H 68 (870 + (5 * (H 68 4))) l) 68 ((870 + (5 * (H 68 4))) + 1) p) 68 ((870 + (5 * (H 68 4))) + 2) c) 68 ((870 + (5 * (H 68 4))) + 3) 1) 68 ((870 + (5 * (H 68 4))) + 4) 0) 68 4) + 1) (xup (xup (xup (xup (xup (xup H 68 (870 + (5 * (H 68 4))) l) 68 ((870 + (5 * (H 68 4))) + 1) p) 68 ((870 + (5 * (H 68 4))) + 2) c) 68 ((870 + (5 * (H 68 4))) + 3) 1) 68 ((870 + (5 * (H 68 4))) + 4) 0) 68 4 (((xup (xup (xup (xup (xup H 68 (870 + (5 * (H 68 4))) l) 68 ((870 + (5 * (H 68 4))) + 1) p) 68 ((870 + (5 * (H 68 4))) + 2) c) 68 ((870 + (5 * (H 68 4))) + 3) 1) 68 ((870 + (5 * (H 68 4))) + 4) 0) 68 4) + 1))) ∧ (¬ (k = 0) → ((0 : Int) ≤ (870 + (5 * (H 68 4))) + 4 ∧ ((870 + (5 * (H 68 4))) + 4 : Int) < 1180) ∧ ((0 : Int) ≤ 4 ∧ (4 : Int) < 1180) ∧ (xI (((xup (xup (xup (xup (xup H 68 (870 + (5 * (H 68 4))) l) 68 ((870 + (5 * (H 68 4))) + 1) p) 68 ((870 + (5 * (H 68 4))) + 2) c) 68 ((870 + (5 * (H 68 4))) + 3) 1) 68 ((870 + (5 * (H 68 4))) + 4) 1) 68 4) + 1)) ∧ ((0 : Int) ≤ 4 ∧ (4 : Int) < 1180) ∧ ((0 : Int) ≤ 4 ∧ (4 : Int) < 1180) ∧ xfR 0 (((xup (xup (xup (xup (xup H 68 (870 + (5 * (H 68 4))) l) 68 ((870 + (5 * (H 68 4))) + 1) p) 68 ((870 + (5 * (H 68 4))) + 2) c) 68 ((870 + (5 * (H 68 4))) + 3) 1) 68 ((870 + (5 * (H 68 4))) + 4) 1) 68 4) + 1) ∧ xKZ = xKZ ∧ Q (((xup (xup (xup (xup (xup H 68 (870 + (5 * (H 68 4))) l) 68 ((870 + (5 * (H 68 4))) + 1) p) 68 ((870 + (5 * (H 68 4))) + 2) c) 68 ((870 + (5 * (H 68 4))) + 3) 1) 68 ((870 + (5 * (H 68 4))) + 4) 1) 68 4) + 1) (xup (xup (xup (xup (xup (xup H 68 (870 + (5 * (H 68 4))) l) 68 ((870 + (5 * (H 68 4))) + 1) p) 68 ((870 + (5 * (H 68 4))) + 2) c) 68 ((870 + (5 * (H 68 4))) + 3) 1) 68 ((870 + (5 * (H 68 4))) + 4) 1) 68 4 (((xup (xup (xup (xup (xup H 68 (870 + (5 * (H 68 4))) l) 68 ((870 + (5 * (H 68 4))) + 1) p) 68 ((870 + (5 * (H 68 4))) + 2) c) 68 ((870 + (5 * (H 68 4))) + 3) 1) 68 ((870 + (5 * (H 68 4))) + 4) 1) 68 4) + 1))))) ∧ (¬ (¬ H 68 4 = 60) → xfR 0 (-1) ∧ xKZ = xKZ ∧ Q (-1) H))
      refine ⟨fun k_ => ?_, fun k_ => ?_⟩
      · replace h := h.2 (xbe_0.mp k_)
        exact ⟨trivial, rfl, h⟩
      · replace h := h.1 (xbe_1.mp k_)
        refine ⟨⟨by decide, by decide⟩, ?_⟩
        refine ⟨fun k_ => ?_, fun k_ => ?_⟩
        · replace h := h.1 k_
          refine ⟨⟨by decide, by decide⟩, ?_⟩
          refine ⟨h.1, ?_⟩
          replace h := h.2
          refine ⟨h.1, ?_⟩
          replace h := h.2
          refine ⟨h.1, ?_⟩
          replace h := h.2
          refine ⟨h.1, ?_⟩
          replace h := h.2
          refine ⟨h.1, ?_⟩
          replace h := h.2
          refine ⟨h.1, ?_⟩
          replace h := h.2
          refine ⟨h.1, ?_⟩
          replace h := h.2
          refine ⟨h.1, ?_⟩
          replace h := h.2
          refine ⟨fun k_ => ?_, fun k_ => ?_⟩
          · replace h := h.1 k_
            refine ⟨h.1, ?_⟩
            replace h := h.2
            refine ⟨h.1, ?_⟩
            replace h := h.2
            refine ⟨fun k_ => ?_, fun k_ => ?_⟩
            · replace h := h.1 k_
              refine ⟨h.1, ?_⟩
              replace h := h.2
              refine ⟨⟨by decide, by decide⟩, ?_⟩
              refine ⟨h.1, ?_⟩
              replace h := h.2
              refine ⟨⟨by decide, by decide⟩, ?_⟩
              refine ⟨⟨by decide, by decide⟩, ?_⟩
              exact ⟨trivial, rfl, h⟩
            · replace h := h.2 k_
              refine ⟨h.1, ?_⟩
              replace h := h.2
              refine ⟨⟨by decide, by decide⟩, ?_⟩
              refine ⟨h.1, ?_⟩
              replace h := h.2
              refine ⟨⟨by decide, by decide⟩, ?_⟩
              refine ⟨⟨by decide, by decide⟩, ?_⟩
              exact ⟨trivial, rfl, h⟩
          · replace h := h.2 k_
            refine ⟨h.1, ?_⟩
            replace h := h.2
            refine ⟨h.1, ?_⟩
            replace h := h.2
            refine ⟨fun k_ => ?_, fun k_ => ?_⟩
            · replace h := h.1 k_
              refine ⟨h.1, ?_⟩
              replace h := h.2
              refine ⟨⟨by decide, by decide⟩, ?_⟩
              refine ⟨h.1, ?_⟩
              replace h := h.2
              refine ⟨⟨by decide, by decide⟩, ?_⟩
              refine ⟨⟨by decide, by decide⟩, ?_⟩
              exact ⟨trivial, rfl, h⟩
            · replace h := h.2 k_
              refine ⟨h.1, ?_⟩
              replace h := h.2
              refine ⟨⟨by decide, by decide⟩, ?_⟩
              refine ⟨h.1, ?_⟩
              replace h := h.2
              refine ⟨⟨by decide, by decide⟩, ?_⟩
              refine ⟨⟨by decide, by decide⟩, ?_⟩
              exact ⟨trivial, rfl, h⟩
        · replace h := h.2 k_
          exact ⟨trivial, rfl, h⟩

theorem s_244 {X : Int × (Int → Int)} {d : Nat} {Q : Int → XH → Prop} (hd : 3 ≤ d) (l p c y k : Int) (H : XH) (p0 : -2147483648 < H 67 1 ∧ H 67 1 ≤ 2147483647) (p1 : 0 ≤ H 68 4 ∧ H 68 4 ≤ 60) (p2 : y = 0 ∨ y = 1) (p3 : k = 0 ∨ k = 1) (hY : (0 ≤ l ∧ l ≤ 3) ∧ (0 ≤ p ∧ p ≤ 7) ∧ (0 ≤ c ∧ c < H 67 1) ∧ ¬ H 68 4 = 60 → Q (H 68 4 + 1) (vdM H l p c y k)) (hN : ¬ ((0 ≤ l ∧ l ≤ 3) ∧ (0 ≤ p ∧ p ≤ 7) ∧ (0 ≤ c ∧ c < H 67 1) ∧ ¬ H 68 4 = 60) → Q (-1) H) : xc X d 244 [(2, 67), (0, l), (0, p), (0, c), (0, y), (0, k)] H Q := by
  cases d with
  | zero => omega
  | succ d =>
  refine U_244 (by omega) l p c y k H ?_
  refine ⟨fun c1 => ?_, fun c1 => ?_⟩
  · skip
    refine ⟨fun c2 => ?_, fun c2 => ?_⟩
    · skip
      refine ⟨?_, ?_⟩
      · first | omega | (unfold xI; omega) | (simp (disch := omega) only [xup_self, xup_k]; unfold xI; omega) | (exfalso; omega)
      refine ⟨fun c3 => ?_, fun c3 => ?_⟩
      · skip
        refine ⟨fun c4 => ?_, fun c4 => ?_⟩
        · skip
          refine ⟨?_, ?_⟩
          · first | omega | (unfold xI; omega) | (simp (disch := omega) only [xup_self, xup_k]; unfold xI; omega) | (exfalso; omega)
          refine ⟨?_, ?_⟩
          · first | omega | (unfold xI; omega) | (simp (disch := omega) only [xup_self, xup_k]; unfold xI; omega) | (exfalso; omega)
          refine ⟨?_, ?_⟩
          · first | omega | (unfold xI; omega) | (simp (disch := omega) only [xup_self, xup_k]; unfold xI; omega) | (exfalso; omega)
          refine ⟨?_, ?_⟩
          · first | omega | (unfold xI; omega) | (simp (disch := omega) only [xup_self, xup_k]; unfold xI; omega) | (exfalso; omega)
          refine ⟨?_, ?_⟩
          · first | omega | (unfold xI; omega) | (simp (disch := omega) only [xup_self, xup_k]; unfold xI; omega) | (exfalso; omega)
          refine ⟨?_, ?_⟩
          · first | omega | (unfold xI; omega) | (simp (disch := omega) only [xup_self, xup_k]; unfold xI; omega) | (exfalso; omega)
          refine ⟨?_, ?_⟩
          · first | omega | (unfold xI; omega) | (simp (disch := omega) only [xup_self, xup_k]; unfold xI; omega) | (exfalso; omega)
          refine ⟨?_, ?_⟩
          · first | omega | (unfold xI; omega) | (simp (disch := omega) only [xup_self, xup_k]; unfold xI; omega) | (exfalso; omega)
          refine ⟨fun c5 => ?_, fun c5 => ?_⟩
          · skip
            refine ⟨?_, ?_⟩
            · first | omega | (unfold xI; omega) | (simp (disch := omega) only [xup_self, xup_k]; unfold xI; omega) | (exfalso; omega)
            refine ⟨?_, ?_⟩
            · first | omega | (unfold xI; omega) | (simp (disch := omega) only [xup_self, xup_k]; unfold xI; omega) | (exfalso; omega)
            refine ⟨fun c6 => ?_, fun c6 => ?_⟩
            · skip
              refine ⟨?_, ?_⟩
              · first | omega | (unfold xI; omega) | (simp (disch := omega) only [xup_self, xup_k]; unfold xI; omega) | (exfalso; omega)
              refine ⟨?_, ?_⟩
              · first | omega | (unfold xI; omega) | (simp (disch := omega) only [xup_self, xup_k]; unfold xI; omega) | (exfalso; omega)
              first | (exact hN (fun q => by omega)) | (first | (have hY := hY (by omega); rw [show y = 0 by omega, show k = 0 by omega] at hY; simp (disch := omega) only [xup_self, xup_k]; exact hY) | (have hY := hY (by omega); rw [show y = 0 by omega, show k = 1 by omega] at hY; simp (disch := omega) only [xup_self, xup_k]; exact hY) | (have hY := hY (by omega); rw [show y = 1 by omega, show k = 0 by omega] at hY; simp (disch := omega) only [xup_self, xup_k]; exact hY) | (have hY := hY (by omega); rw [show y = 1 by omega, show k = 1 by omega] at hY; simp (disch := omega) only [xup_self, xup_k]; exact hY)) | (exfalso; omega)
            · skip
              refine ⟨?_, ?_⟩
              · first | omega | (unfold xI; omega) | (simp (disch := omega) only [xup_self, xup_k]; unfold xI; omega) | (exfalso; omega)
              refine ⟨?_, ?_⟩
              · first | omega | (unfold xI; omega) | (simp (disch := omega) only [xup_self, xup_k]; unfold xI; omega) | (exfalso; omega)
              first | (exact hN (fun q => by omega)) | (first | (have hY := hY (by omega); rw [show y = 0 by omega, show k = 0 by omega] at hY; simp (disch := omega) only [xup_self, xup_k]; exact hY) | (have hY := hY (by omega); rw [show y = 0 by omega, show k = 1 by omega] at hY; simp (disch := omega) only [xup_self, xup_k]; exact hY) | (have hY := hY (by omega); rw [show y = 1 by omega, show k = 0 by omega] at hY; simp (disch := omega) only [xup_self, xup_k]; exact hY) | (have hY := hY (by omega); rw [show y = 1 by omega, show k = 1 by omega] at hY; simp (disch := omega) only [xup_self, xup_k]; exact hY)) | (exfalso; omega)
          · skip
            refine ⟨?_, ?_⟩
            · first | omega | (unfold xI; omega) | (simp (disch := omega) only [xup_self, xup_k]; unfold xI; omega) | (exfalso; omega)
            refine ⟨?_, ?_⟩
            · first | omega | (unfold xI; omega) | (simp (disch := omega) only [xup_self, xup_k]; unfold xI; omega) | (exfalso; omega)
            refine ⟨fun c7 => ?_, fun c7 => ?_⟩
            · skip
              refine ⟨?_, ?_⟩
              · first | omega | (unfold xI; omega) | (simp (disch := omega) only [xup_self, xup_k]; unfold xI; omega) | (exfalso; omega)
              refine ⟨?_, ?_⟩
              · first | omega | (unfold xI; omega) | (simp (disch := omega) only [xup_self, xup_k]; unfold xI; omega) | (exfalso; omega)
              first | (exact hN (fun q => by omega)) | (first | (have hY := hY (by omega); rw [show y = 0 by omega, show k = 0 by omega] at hY; simp (disch := omega) only [xup_self, xup_k]; exact hY) | (have hY := hY (by omega); rw [show y = 0 by omega, show k = 1 by omega] at hY; simp (disch := omega) only [xup_self, xup_k]; exact hY) | (have hY := hY (by omega); rw [show y = 1 by omega, show k = 0 by omega] at hY; simp (disch := omega) only [xup_self, xup_k]; exact hY) | (have hY := hY (by omega); rw [show y = 1 by omega, show k = 1 by omega] at hY; simp (disch := omega) only [xup_self, xup_k]; exact hY)) | (exfalso; omega)
            · skip
              refine ⟨?_, ?_⟩
              · first | omega | (unfold xI; omega) | (simp (disch := omega) only [xup_self, xup_k]; unfold xI; omega) | (exfalso; omega)
              refine ⟨?_, ?_⟩
              · first | omega | (unfold xI; omega) | (simp (disch := omega) only [xup_self, xup_k]; unfold xI; omega) | (exfalso; omega)
              first | (exact hN (fun q => by omega)) | (first | (have hY := hY (by omega); rw [show y = 0 by omega, show k = 0 by omega] at hY; simp (disch := omega) only [xup_self, xup_k]; exact hY) | (have hY := hY (by omega); rw [show y = 0 by omega, show k = 1 by omega] at hY; simp (disch := omega) only [xup_self, xup_k]; exact hY) | (have hY := hY (by omega); rw [show y = 1 by omega, show k = 0 by omega] at hY; simp (disch := omega) only [xup_self, xup_k]; exact hY) | (have hY := hY (by omega); rw [show y = 1 by omega, show k = 1 by omega] at hY; simp (disch := omega) only [xup_self, xup_k]; exact hY)) | (exfalso; omega)
        · skip
          first | (exact hN (fun q => by omega)) | (first | (have hY := hY (by omega); rw [show y = 0 by omega, show k = 0 by omega] at hY; simp (disch := omega) only [xup_self, xup_k]; exact hY) | (have hY := hY (by omega); rw [show y = 0 by omega, show k = 1 by omega] at hY; simp (disch := omega) only [xup_self, xup_k]; exact hY) | (have hY := hY (by omega); rw [show y = 1 by omega, show k = 0 by omega] at hY; simp (disch := omega) only [xup_self, xup_k]; exact hY) | (have hY := hY (by omega); rw [show y = 1 by omega, show k = 1 by omega] at hY; simp (disch := omega) only [xup_self, xup_k]; exact hY)) | (exfalso; omega)
      · skip
        first | (exact hN (fun q => by omega)) | (first | (have hY := hY (by omega); rw [show y = 0 by omega, show k = 0 by omega] at hY; simp (disch := omega) only [xup_self, xup_k]; exact hY) | (have hY := hY (by omega); rw [show y = 0 by omega, show k = 1 by omega] at hY; simp (disch := omega) only [xup_self, xup_k]; exact hY) | (have hY := hY (by omega); rw [show y = 1 by omega, show k = 0 by omega] at hY; simp (disch := omega) only [xup_self, xup_k]; exact hY) | (have hY := hY (by omega); rw [show y = 1 by omega, show k = 1 by omega] at hY; simp (disch := omega) only [xup_self, xup_k]; exact hY)) | (exfalso; omega)
    · skip
      first | (exact hN (fun q => by omega)) | (first | (have hY := hY (by omega); rw [show y = 0 by omega, show k = 0 by omega] at hY; simp (disch := omega) only [xup_self, xup_k]; exact hY) | (have hY := hY (by omega); rw [show y = 0 by omega, show k = 1 by omega] at hY; simp (disch := omega) only [xup_self, xup_k]; exact hY) | (have hY := hY (by omega); rw [show y = 1 by omega, show k = 0 by omega] at hY; simp (disch := omega) only [xup_self, xup_k]; exact hY) | (have hY := hY (by omega); rw [show y = 1 by omega, show k = 1 by omega] at hY; simp (disch := omega) only [xup_self, xup_k]; exact hY)) | (exfalso; omega)
  · skip
    first | (exact hN (fun q => by omega)) | (first | (have hY := hY (by omega); rw [show y = 0 by omega, show k = 0 by omega] at hY; simp (disch := omega) only [xup_self, xup_k]; exact hY) | (have hY := hY (by omega); rw [show y = 0 by omega, show k = 1 by omega] at hY; simp (disch := omega) only [xup_self, xup_k]; exact hY) | (have hY := hY (by omega); rw [show y = 1 by omega, show k = 0 by omega] at hY; simp (disch := omega) only [xup_self, xup_k]; exact hY) | (have hY := hY (by omega); rw [show y = 1 by omega, show k = 1 by omega] at hY; simp (disch := omega) only [xup_self, xup_k]; exact hY)) | (exfalso; omega)

theorem verdict_inv (H : XH) (hi : InvS H) (l p c y k : Int) (pl : 0 ≤ l ∧ l ≤ 3) (pp : 0 ≤ p ∧ p ≤ 7) (pc : 0 ≤ c ∧ c < H 67 1) (py : y = 0 ∨ y = 1) (pk : k = 0 ∨ k = 1) (h60 : H 15 4 < 60) : InvS (vdM (vdC H l (p * 64 + c) y k) l p c y k) := by
  have hg := hi.1
  have hs := hi.2
  have hv := hs.v4
  have hvb := hg.vdb
  have e67 : vdM (vdC H l (p * 64 + c) y k) l p c y k 67 1 = H 67 1 := rfl
  generalize hn : H 15 4 = n at *
  have hG : ∀ j, vdM (vdC H l (p * 64 + c) y k) l p c y k 68 j = if j = 4 then n + 1 else if j = 870 + 5 * n + 4 then k else if j = 870 + 5 * n + 3 then y else if j = 870 + 5 * n + 2 then c else if j = 870 + 5 * n + 1 then p else if j = 870 + 5 * n then l else H 68 j := by
    intro j
    show xup (xup (xup (xup (xup (xup (vdC H l (p * 64 + c) y k) 68 (870 + 5 * H 68 4) l) 68 (870 + 5 * H 68 4 + 1) p) 68 (870 + 5 * H 68 4 + 2) c) 68 (870 + 5 * H 68 4 + 3) y) 68 (870 + 5 * H 68 4 + 4) k) 68 4 (H 68 4 + 1) 68 j = _
    rw [xup_eq, xup_eq, xup_eq, xup_eq, xup_eq, xup_eq, ← hv]
    rfl
  have h16 : ∀ j, vdM (vdC H l (p * 64 + c) y k) l p c y k 16 j = if j = n then l else H 16 j := by
    intro j
    show xup H 16 (H 15 4) l 16 j = _
    rw [xup_eq, hn]
  have h17 : ∀ j, vdM (vdC H l (p * 64 + c) y k) l p c y k 17 j = if j = n then p * 64 + c else H 17 j := by
    intro j
    show xup H 17 (H 15 4) (p * 64 + c) 17 j = _
    rw [xup_eq, hn]
  have h18 : ∀ j, vdM (vdC H l (p * 64 + c) y k) l p c y k 18 j = if j = n then y else H 18 j := by
    intro j
    show xup H 18 (H 15 4) y 18 j = _
    rw [xup_eq, hn]
  have h19 : ∀ j, vdM (vdC H l (p * 64 + c) y k) l p c y k 19 j = if j = n then k else H 19 j := by
    intro j
    show xup H 19 (H 15 4) k 19 j = _
    rw [xup_eq, hn]
  have h15 : vdM (vdC H l (p * 64 + c) y k) l p c y k 15 4 = n + 1 := by
    show xup H 15 4 (H 15 4 + 1) 15 4 = _
    rw [xup_eq, hn, if_pos rfl]
  have h4 : vdM (vdC H l (p * 64 + c) y k) l p c y k 68 4 = n + 1 := by
    rw [hG, if_pos rfl]
  refine ⟨?_, ?_⟩
  · refine GOk_vd (g := H 68) hg (fun j hj => ?_) ?_ (fun i a b => ?_)
    · rw [hG]
      repeat' split
      all_goals omega
    · rw [h4]
      omega
    · rw [h4] at b
      by_cases hin : i = n
      · rw [hG, hG, hG, hG, hG]
        simp (disch := omega) only [if_pos, if_neg]
        omega
      · have z := hg.vdi i a (by omega)
        rw [hG, hG, hG, hG, hG]
        simp (disch := omega) only [if_neg]
        rw [e67]
        exact z
  · refine SRel_vd (g := H 68) hg hs (fun j hj => ?_) (h15.trans h4.symm) (fun i a b => ?_) (fun i a b => ?_) (fun i a b => ?_) (fun i a b => ?_)
    · rw [hG]
      repeat' split
      all_goals omega
    · rw [h4] at b
      rw [hG, h16]
      by_cases hin : i = n
      · simp (disch := omega) only [if_pos, if_neg]
        try omega
      · have z := hs.lk i a (by omega)
        simp (disch := omega) only [if_neg]
        exact z
    · rw [h4] at b
      rw [hG, hG, h17]
      by_cases hin : i = n
      · simp (disch := omega) only [if_pos, if_neg]
        try omega
      · have z := hs.pl i a (by omega)
        simp (disch := omega) only [if_neg]
        exact z
    · rw [h4] at b
      rw [hG, h18]
      by_cases hin : i = n
      · simp (disch := omega) only [if_pos, if_neg]
        try omega
      · have z := hs.sa i a (by omega)
        simp (disch := omega) only [if_neg]
        exact z
    · rw [h4] at b
      rw [hG, h19]
      by_cases hin : i = n
      · simp (disch := omega) only [if_pos, if_neg]
        try omega
      · have z := hs.kn i a (by omega)
        simp (disch := omega) only [if_neg]
        exact z

theorem p_verdict {X : Int × (Int → Int)} {d : Nat} (hd : 4 ≤ d) (l p c y k : Int) (H : XH) (py : y = 0 ∨ y = 1) (pk : k = 0 ∨ k = 1) (hi : InvS H) : xc X d 243 [(2, 0), (0, l), (0, p), (0, c), (0, y), (0, k)] H (fun r H1 => xc X d 244 [(2, 67), (0, l), (0, p), (0, c), (0, y), (0, k)] H1 (pOk H r)) := by
  have hg := hi.1
  have hs := hi.2
  have nn := hg.nn
  have l2 := hs.l2
  have hv := hs.v4
  have hvb := hg.vdb
  have no : ¬ ((0 ≤ l ∧ l ≤ 3) ∧ (0 ≤ p ∧ p ≤ 7) ∧ (0 ≤ c ∧ c < H 67 1) ∧ ¬ H 68 4 = 60) → xc X d 244 [(2, 67), (0, l), (0, p), (0, c), (0, y), (0, k)] H (pOk H (-1)) := fun q =>
    s_244 (by omega) l p c y k H (by omega) hvb py pk (fun z => absurd z q) (fun _ => ⟨rfl, hi, frO_refl H⟩)
  cases d with
  | zero => omega
  | succ d =>
  refine U_243 (by omega) l p c y k H ?_
  refine ⟨fun c1 => ?_, fun c1 => ?_⟩
  · skip
    refine ⟨fun c2 => ?_, fun c2 => ?_⟩
    · skip
      refine ⟨fun c3 => ?_, fun c3 => ?_⟩
      · skip
        refine ⟨?_, ?_⟩
        · first | omega | (unfold xI; omega) | (unfold xJ; omega) | assumption | (exfalso; omega)
        refine ⟨?_, ?_⟩
        · first | omega | (unfold xI; omega) | (unfold xJ; omega) | assumption | (exfalso; omega)
        refine ⟨?_, ?_⟩
        · first | omega | (unfold xI; omega) | (unfold xJ; omega) | assumption | (exfalso; omega)
        refine ⟨?_, ?_⟩
        · first | omega | (unfold xI; omega) | (unfold xJ; omega) | assumption | (exfalso; omega)
        refine ⟨?_, ?_⟩
        · first | omega | (unfold xI; omega) | (unfold xJ; omega) | assumption | (exfalso; omega)
        by_cases h60 : H 15 4 < 60
        · have e1 : (if H 15 4 < 60 then H 15 4 + 1 else (-1)) = H 15 4 + 1 := if_pos h60
          have e2 : (if H 15 4 < 60 then vdC H l (p * 64 + c) y k else H) = vdC H l (p * 64 + c) y k := if_pos h60
          rw [e1, e2]
          have nn' : (-2147483648 : Int) < H 67 1 ∧ H 67 1 ≤ 2147483647 := by omega
          refine s_244 (by omega) l p c y k (vdC H l (p * 64 + c) y k) nn' hvb py pk (fun z => ⟨?_, verdict_inv H hi l p c y k (by omega) (by omega) (by omega) py pk h60, ?_⟩) (fun z => absurd ⟨by omega, by omega, (show 0 ≤ c ∧ c < H 67 1 by omega), (show ¬ H 68 4 = 60 by omega)⟩ z)
          · show H 68 4 + 1 = H 15 4 + 1
            omega
          · have q8 : vdC H l (p * 64 + c) y k 68 4 = H 68 4 := rfl
            unfold vdM
            unfold vdC
            have q9 : vdC H l (p * 64 + c) y k 68 4 = xup (xup (xup (xup (xup H 16 (H 15 4) l) 17 (H 15 4) (p * 64 + c)) 18 (H 15 4) y) 19 (H 15 4) k) 15 4 (H 15 4 + 1) 68 4 := rfl
            exact frO_up (frO_up (frO_up (frO_up (frO_up (frO_up (frO_up (frO_up (frO_up (frO_up (frO_up (frO_refl H) (by omega)) (by omega)) (by omega)) (by omega)) (by omega)) (by omega)) (by omega)) (by omega)) (by omega)) (by omega)) (by omega)
        · have e1 : (if H 15 4 < 60 then H 15 4 + 1 else (-1)) = -1 := if_neg h60
          have e2 : (if H 15 4 < 60 then vdC H l (p * 64 + c) y k else H) = H := if_neg h60
          rw [e1, e2]
          exact no (by omega)
      · skip
        exact no (by omega)
    · skip
      exact no (by omega)
  · skip
    exact no (by omega)
