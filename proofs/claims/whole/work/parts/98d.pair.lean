/-! THE PURE LAYER 71: held: the class -/
theorem U_236 {X : Int × (Int → Int)} {d : Nat} {Q : Int → XH → Prop} (hd : 0 ≤ d) (s : Int) (H : XH) (h : (xc X d 216 [(2, 58), (2, 1), (2, 51), (0, s)] H (fun (J2347 : Int) (h2346 : XH) => (xc X d 235 [(2, 64), (2, 59), (2, 7), (0, h2346 9 3), (0, h2346 9 4)] h2346 (fun (J2349 : Int) (h2348 : XH) => Q 0 h2348))))) : xc X (d + 1) 236 [(2, 0), (0, s)] H Q := by
  refine ⟨rfl, ?_⟩
  show xq X d 236 Q 100000 [(0, (2, 0)), (1, (0, s))] [] H
  refine xq_run [16, 57] 300 ?_
  show xWM (xE X) xMC d 216 [(2, 58), (2, 1), (2, 51), (0, s)] xKZ H _
  refine xc_in (xc_mono (fun J2347 h2346 q_ => ?_) h)
  replace h := q_
  show xq X d 236 Q 16 [(0, (2, 0)), (1, (0, s))] [] h2346
  refine xq_run [16, 57] 300 ?_
  show xWM (xE X) xMC d 235 [(2, 64), (2, 59), (2, 7), (0, h2346 9 3), (0, h2346 9 4)] xKZ h2346 _
  refine xc_in (xc_mono (fun J2349 h2348 q_ => ?_) h)
  replace h := q_
  show xq X d 236 Q 57 [(0, (2, 0)), (1, (0, s))] [] h2348
  refine xq_run [16, 57] 300 ?_
  show xfR 2 0 ∧ xKZ = xKZ ∧ Q 0 h2348
  exact ⟨trivial, rfl, h⟩

theorem U_237 {X : Int × (Int → Int)} {d : Nat} {Q : Int → XH → Prop} (hd : 1 ≤ d) (s b : Int) (H : XH) (h : ((((0 ≤ s ∧ s ≤ 3)) → (xc X d 236 [(2, 0), (0, s)] H (fun (J2351 : Int) (h2350 : XH) => ((¬ b = 0) → ((¬ b = 1) → ((¬ b = 2) → ((100 ≤ b) → (xI (b - 100)) ∧ ((((0 ≤ (b - 100) ∧ (b - 100) < h2350 7 1)) → ((0 : Int) ≤ b - 100 ∧ (b - 100 : Int) < 8) ∧ Q (h2350 65 (b - 100)) h2350) ∧ (¬ ((0 ≤ (b - 100) ∧ (b - 100) < h2350 7 1)) → Q (-1) h2350))) ∧ (¬ (100 ≤ b) → ((((0 ≤ (-1) ∧ (-1) < h2350 7 1)) → ((0 : Int) ≤ (-1) ∧ ((-1) : Int) < 8) ∧ Q (h2350 65 (-1)) h2350) ∧ (¬ ((0 ≤ (-1) ∧ (-1) < h2350 7 1)) → Q (-1) h2350)))) ∧ (¬ (¬ b = 2) → Q (h2350 64 4) h2350)) ∧ (¬ (¬ b = 1) → Q (h2350 64 3) h2350)) ∧ (¬ (¬ b = 0) → Q (h2350 64 2) h2350)))) ∧ (¬ ((0 ≤ s ∧ s ≤ 3)) → Q (-1) H))) : xc X (d + 1) 237 [(2, 0), (0, s), (0, b)] H Q := by
  refine ⟨rfl, ?_⟩
  show xq X d 237 Q 100000 [(0, (2, 0)), (1, (0, s)), (2, (0, b))] [] H
  refine xq_run [4, 14, 78] 300 ?_
  show xWM (xE X) xMC d 198 [(0, s)] xKZ H _
  refine xc_in (s_198 (by omega) s H  ?_)
  replace h := h
  show xq X d 237 Q 4 [(0, (2, 0)), (1, (0, s)), (2, (0, b))] [(0, xb (0 ≤ s ∧ s ≤ 3))] H
  refine xq_run [4, 14, 78] 300 ?_
  show ((¬ xb (0 ≤ s ∧ s ≤ 3) = 0) → xWM (xE X) xMC d 236 [(2, 0), (0, s)] xKZ H _) ∧ (¬ (¬ xb (0 ≤ s ∧ s ≤ 3) = 0) → xfR 0 (-1) ∧ xKZ = xKZ ∧ Q (-1) H)
  refine ⟨fun k_ => ?_, fun k_ => ?_⟩
  · replace h := h.1 (xbe_1.mp k_)
    refine xc_in (xc_mono (fun J2351 h2350 q_ => ?_) h)
    replace h := q_
    show xq X d 237 Q 14 [(0, (2, 0)), (1, (0, s)), (2, (0, b))] [] h2350
    refine xq_run [4, 14, 78] 300 ?_
    show ((¬ b = 0) → ((¬ b = 1) → ((¬ b = 2) → ((100 ≤ b) → (xI (b - 100)) ∧ xWM (xE X) xMC d 49 [(2, 7), (0, b - 100)] xKZ h2350 _) ∧ (¬ (100 ≤ b) → xWM (xE X) xMC d 49 [(2, 7), (0, (-1))] xKZ h2350 _)) ∧ (¬ (¬ b = 2) → xfR 0 (h2350 64 4) ∧ xKZ = xKZ ∧ Q (h2350 64 4) h2350)) ∧ (¬ (¬ b = 1) → xfR 0 (h2350 64 3) ∧ xKZ = xKZ ∧ Q (h2350 64 3) h2350)) ∧ (¬ (¬ b = 0) → xfR 0 (h2350 64 2) ∧ xKZ = xKZ ∧ Q (h2350 64 2) h2350)
    refine ⟨fun k_ => ?_, fun k_ => ?_⟩
    · replace h := h.1 k_
      refine ⟨fun k_ => ?_, fun k_ => ?_⟩
      · replace h := h.1 k_
        refine ⟨fun k_ => ?_, fun k_ => ?_⟩
        · replace h := h.1 k_
          refine ⟨fun k_ => ?_, fun k_ => ?_⟩
          · replace h := h.1 k_
            refine ⟨h.1, ?_⟩
            replace h := h.2
            refine xc_in (s_49_o7 (by omega) (b - 100) h2350  ?_)
            replace h := h
            show xq X d 237 Q 78 [(3, (0, b - 100)), (0, (2, 0)), (1, (0, s)), (2, (0, b))] [(0, xb (0 ≤ (b - 100) ∧ (b - 100) < h2350 7 1))] h2350
            refine xq_run [4, 14, 78] 300 ?_
            show ((xb (0 ≤ (b - 100) ∧ (b - 100) < h2350 7 1) = 0) → xfR 0 (-1) ∧ xKZ = xKZ ∧ Q (-1) h2350) ∧ (¬ (xb (0 ≤ (b - 100) ∧ (b - 100) < h2350 7 1) = 0) → ((0 : Int) ≤ b - 100 ∧ (b - 100 : Int) < 8) ∧ xfR 0 (h2350 65 (b - 100)) ∧ xKZ = xKZ ∧ Q (h2350 65 (b - 100)) h2350)
            refine ⟨fun k_ => ?_, fun k_ => ?_⟩
            · replace h := h.2 (xbe_0.mp k_)
              exact ⟨trivial, rfl, h⟩
            · replace h := h.1 (xbe_1.mp k_)
              refine ⟨h.1, ?_⟩
              replace h := h.2
              exact ⟨trivial, rfl, h⟩
          · replace h := h.2 k_
            refine xc_in (s_49_o7 (by omega) (-1) h2350  ?_)
            replace h := h
            show xq X d 237 Q 78 [(3, (0, (-1))), (0, (2, 0)), (1, (0, s)), (2, (0, b))] [(0, xb (0 ≤ (-1) ∧ (-1) < h2350 7 1))] h2350
            refine xq_run [4, 14, 78] 300 ?_
            show ((xb (0 ≤ (-1) ∧ (-1) < h2350 7 1) = 0) → xfR 0 (-1) ∧ xKZ = xKZ ∧ Q (-1) h2350) ∧ (¬ (xb (0 ≤ (-1) ∧ (-1) < h2350 7 1) = 0) → ((0 : Int) ≤ (-1) ∧ ((-1) : Int) < 8) ∧ xfR 0 (h2350 65 (-1)) ∧ xKZ = xKZ ∧ Q (h2350 65 (-1)) h2350)
            refine ⟨fun k_ => ?_, fun k_ => ?_⟩
            · replace h := h.2 (xbe_0.mp k_)
              exact ⟨trivial, rfl, h⟩
            · replace h := h.1 (xbe_1.mp k_)
              refine ⟨h.1, ?_⟩
              replace h := h.2
              exact ⟨trivial, rfl, h⟩
        · replace h := h.2 k_
          exact ⟨trivial, rfl, h⟩
      · replace h := h.2 k_
        exact ⟨trivial, rfl, h⟩
    · replace h := h.2 k_
      exact ⟨trivial, rfl, h⟩
  · replace h := h.2 (xbe_n.mp k_)
    exact ⟨trivial, rfl, h⟩

/-- the numbers of a pairing: cost, way -/
noncomputable def hdC (lo : Option (List (Int × List Int))) (w N : Int) (g : Int → Int) (s : Int) : Int → Int → Int := csV (lfV (wkW lo w N g s).2 (fun k => g (560 + k))) (wkW lo w N g s).1 (g 1) (g 9) (g 10)
noncomputable def hdT (lo : Option (List (Int × List Int))) (w N : Int) (g : Int → Int) (s : Int) : Int × Int × (Int → Int) := trV (hdC lo w N g s) (lfV (wkW lo w N g s).2 (fun k => g (560 + k))) (wkW lo w N g s).1 (g 1) (g 9) 16 0 0 0 0 (fun _ => -1)
theorem hcI_of {lo : Option (List (Int × List Int))} {w N : Int} {g : Int → Int} (hg : GOk w N g) {s : Int} (hs : 0 ≤ s ∧ s ≤ 3) : hcI (wkW lo w N g s).1 (g 1) (g 9) (g 10) (wkW lo w N g s).2 (fun k => g (560 + k)) := by
  have ok := wkW_ok (lo := lo) hg hs
  exact ⟨ok.1, hg.lyb, hg.msg, hg.odd, ok.2.1, fun k a b => by
    have := hg.lya k a b
    dsimp only
    omega⟩
theorem s_236w {X : Int × (Int → Int)} {d : Nat} {Q : Int → XH → Prop} (hd : 14 ≤ d) {lo : Option (List (Int × List Int))} (s : Int) (H : XH) (hi : InvS H) (hl : loC lo H) (ps : 0 ≤ s ∧ s ≤ 3) (hQ : ∀ h1, frC H h1 → h1 64 2 = hdC lo (H 67 0) (H 67 1) (H 68) s 0 0 → h1 64 3 = (hdT lo (H 67 0) (H 67 1) (H 68) s).1 → h1 64 4 = (hdT lo (H 67 0) (H 67 1) (H 68) s).2.1 → (∀ k, 0 ≤ k → k < 8 → h1 65 k = (hdT lo (H 67 0) (H 67 1) (H 68) s).2.2 k) → Q 0 h1) : xc X d 236 [(2, 0), (0, s)] H Q := by
  cases d with
  | zero => omega
  | succ d =>
  have hg := hi.1
  have hs := hi.2
  have I := hcI_of (lo := lo) hg ps
  have lyb := hg.lyb
  refine U_236 (by omega) s H ?_
  refine s_216w (by omega) s H hi hl ps (fun hA F kk => ?_)
  have KA : hCo (wkW lo (H 67 0) (H 67 1) (H 68) s).1 (H 68 1) (wkW lo (H 67 0) (H 67 1) (H 68) s).2 (fun k => H 68 (560 + k)) hA := ⟨kk.1, kk.2, by rw [F 7 (by decide)]; exact hs.c, by rw [F 8 (by decide)]; exact hs.am⟩
  have e3 : hA 9 3 = H 68 9 := by rw [F 9 (by decide)]; exact hs.r3
  have e4 : hA 9 4 = H 68 10 := by rw [F 9 (by decide)]; exact hs.r4
  rw [e3, e4]
  refine s_235w (by omega) KA I (fun hB fB tB => ?_)
  have tB' : tbC (wkW lo (H 67 0) (H 67 1) (H 68) s).1 (H 68 1) (H 68 9) (H 68 10) (wkW lo (H 67 0) (H 67 1) (H 68) s).2 (fun k => H 68 (560 + k)) (xup hB 64 2 (hB 66 0)) := fun i j p q r t => by
    rw [xup_ne (by decide)]
    exact tB i j p q r t
  have KB : hCo (wkW lo (H 67 0) (H 67 1) (H 68) s).1 (H 68 1) (wkW lo (H 67 0) (H 67 1) (H 68) s).2 (fun k => H 68 (560 + k)) (xup hB 64 2 (hB 66 0)) := hCo_fr KA (by rw [xup_ne (by decide), fB 59 (by decide)]) (by rw [xup_ne (by decide), fB 60 (by decide)]) (by rw [xup_ne (by decide), fB 7 (by decide)]) (by rw [xup_ne (by decide), fB 8 (by decide)])
  refine s_234w (by omega) KB I tB' (fun hC fC gC c3 c4 c5 => ?_)
  refine hQ hC (fun o p q => ?_) ?_ c3 c4 c5
  · rw [fC o (by omega) (by omega), xup_ne (by omega), fB o (by omega)]
    exact F o (by omega)
  · rw [gC 2 (by decide) (by decide), xup_self]
    have z := tB 0 0 (by decide) I.1.1 (by decide) lyb.1
    exact z

/-- what held answers -/
noncomputable def vHd (lo : Option (List (Int × List Int))) (w N : Int) (g : Int → Int) (s b : Int) : Int := if 0 ≤ s ∧ s ≤ 3 then (if b = 0 then hdC lo w N g s 0 0 else if b = 1 then (hdT lo w N g s).1 else if b = 2 then (hdT lo w N g s).2.1 else if 100 ≤ b ∧ b - 100 < g 1 then (hdT lo w N g s).2.2 (b - 100) else -1) else -1
theorem s_237w {X : Int × (Int → Int)} {d : Nat} {Q : Int → XH → Prop} (hd : 15 ≤ d) {lo : Option (List (Int × List Int))} (s b : Int) (hb : b ≤ 2147483647) (H : XH) (hi : InvS H) (hl : loC lo H) (hQ : ∀ h1 : XH, frC H h1 → Q (vHd lo (H 67 0) (H 67 1) (H 68) s b) h1) : xc X d 237 [(2, 0), (0, s), (0, b)] H Q := by
  cases d with
  | zero => omega
  | succ d =>
  have hs := hi.2
  have lyb := hi.1.lyb
  have hc := hs.c
  unfold vHd at hQ
  refine U_237 (by omega) s b H ?_
  refine ⟨fun c1 => ?_, fun c1 => ?_⟩
  · skip
    refine s_236w (by omega) s H hi hl (by omega) (fun h2356 F g2 g3 g4 g5 => ?_)
    have e7_h2356 : h2356 7 1 = H 68 1 := by rw [F 7 (by decide) (by decide)]; exact hc
    refine ⟨fun c2 => ?_, fun c2 => ?_⟩
    · skip
      refine ⟨fun c3 => ?_, fun c3 => ?_⟩
      · skip
        refine ⟨fun c4 => ?_, fun c4 => ?_⟩
        · skip
          refine ⟨fun c5 => ?_, fun c5 => ?_⟩
          · skip
            refine ⟨?_, ?_⟩
            · first | omega | (unfold xI; omega) | (exfalso; omega)
            refine ⟨fun c6 => ?_, fun c6 => ?_⟩
            · skip
              refine ⟨?_, ?_⟩
              · first | omega | (unfold xI; omega) | (exfalso; omega)
              first | (exfalso; omega) | (have z := hQ _ (frC_refl H); rw [if_neg (by omega)] at z; exact z) | (have z := hQ _ F; rw [if_pos (by omega), if_pos (by omega), ← g2] at z; exact z) | (have z := hQ _ F; rw [if_pos (by omega), if_neg (by omega), if_pos (by omega), ← g3] at z; exact z) | (have z := hQ _ F; rw [if_pos (by omega), if_neg (by omega), if_neg (by omega), if_pos (by omega), ← g4] at z; exact z) | (have z := hQ _ F; rw [if_pos (by omega), if_neg (by omega), if_neg (by omega), if_neg (by omega), if_pos (by omega), ← g5 _ (by omega) (by omega)] at z; exact z) | (have z := hQ _ F; rw [if_pos (by omega), if_neg (by omega), if_neg (by omega), if_neg (by omega), if_neg (by omega)] at z; exact z)
            · skip
              first | (exfalso; omega) | (have z := hQ _ (frC_refl H); rw [if_neg (by omega)] at z; exact z) | (have z := hQ _ F; rw [if_pos (by omega), if_pos (by omega), ← g2] at z; exact z) | (have z := hQ _ F; rw [if_pos (by omega), if_neg (by omega), if_pos (by omega), ← g3] at z; exact z) | (have z := hQ _ F; rw [if_pos (by omega), if_neg (by omega), if_neg (by omega), if_pos (by omega), ← g4] at z; exact z) | (have z := hQ _ F; rw [if_pos (by omega), if_neg (by omega), if_neg (by omega), if_neg (by omega), if_pos (by omega), ← g5 _ (by omega) (by omega)] at z; exact z) | (have z := hQ _ F; rw [if_pos (by omega), if_neg (by omega), if_neg (by omega), if_neg (by omega), if_neg (by omega)] at z; exact z)
          · skip
            refine ⟨fun c7 => ?_, fun c7 => ?_⟩
            · skip
              refine ⟨?_, ?_⟩
              · first | omega | (unfold xI; omega) | (exfalso; omega)
              first | (exfalso; omega) | (have z := hQ _ (frC_refl H); rw [if_neg (by omega)] at z; exact z) | (have z := hQ _ F; rw [if_pos (by omega), if_pos (by omega), ← g2] at z; exact z) | (have z := hQ _ F; rw [if_pos (by omega), if_neg (by omega), if_pos (by omega), ← g3] at z; exact z) | (have z := hQ _ F; rw [if_pos (by omega), if_neg (by omega), if_neg (by omega), if_pos (by omega), ← g4] at z; exact z) | (have z := hQ _ F; rw [if_pos (by omega), if_neg (by omega), if_neg (by omega), if_neg (by omega), if_pos (by omega), ← g5 _ (by omega) (by omega)] at z; exact z) | (have z := hQ _ F; rw [if_pos (by omega), if_neg (by omega), if_neg (by omega), if_neg (by omega), if_neg (by omega)] at z; exact z)
            · skip
              first | (exfalso; omega) | (have z := hQ _ (frC_refl H); rw [if_neg (by omega)] at z; exact z) | (have z := hQ _ F; rw [if_pos (by omega), if_pos (by omega), ← g2] at z; exact z) | (have z := hQ _ F; rw [if_pos (by omega), if_neg (by omega), if_pos (by omega), ← g3] at z; exact z) | (have z := hQ _ F; rw [if_pos (by omega), if_neg (by omega), if_neg (by omega), if_pos (by omega), ← g4] at z; exact z) | (have z := hQ _ F; rw [if_pos (by omega), if_neg (by omega), if_neg (by omega), if_neg (by omega), if_pos (by omega), ← g5 _ (by omega) (by omega)] at z; exact z) | (have z := hQ _ F; rw [if_pos (by omega), if_neg (by omega), if_neg (by omega), if_neg (by omega), if_neg (by omega)] at z; exact z)
        · skip
          first | (exfalso; omega) | (have z := hQ _ (frC_refl H); rw [if_neg (by omega)] at z; exact z) | (have z := hQ _ F; rw [if_pos (by omega), if_pos (by omega), ← g2] at z; exact z) | (have z := hQ _ F; rw [if_pos (by omega), if_neg (by omega), if_pos (by omega), ← g3] at z; exact z) | (have z := hQ _ F; rw [if_pos (by omega), if_neg (by omega), if_neg (by omega), if_pos (by omega), ← g4] at z; exact z) | (have z := hQ _ F; rw [if_pos (by omega), if_neg (by omega), if_neg (by omega), if_neg (by omega), if_pos (by omega), ← g5 _ (by omega) (by omega)] at z; exact z) | (have z := hQ _ F; rw [if_pos (by omega), if_neg (by omega), if_neg (by omega), if_neg (by omega), if_neg (by omega)] at z; exact z)
      · skip
        first | (exfalso; omega) | (have z := hQ _ (frC_refl H); rw [if_neg (by omega)] at z; exact z) | (have z := hQ _ F; rw [if_pos (by omega), if_pos (by omega), ← g2] at z; exact z) | (have z := hQ _ F; rw [if_pos (by omega), if_neg (by omega), if_pos (by omega), ← g3] at z; exact z) | (have z := hQ _ F; rw [if_pos (by omega), if_neg (by omega), if_neg (by omega), if_pos (by omega), ← g4] at z; exact z) | (have z := hQ _ F; rw [if_pos (by omega), if_neg (by omega), if_neg (by omega), if_neg (by omega), if_pos (by omega), ← g5 _ (by omega) (by omega)] at z; exact z) | (have z := hQ _ F; rw [if_pos (by omega), if_neg (by omega), if_neg (by omega), if_neg (by omega), if_neg (by omega)] at z; exact z)
    · skip
      first | (exfalso; omega) | (have z := hQ _ (frC_refl H); rw [if_neg (by omega)] at z; exact z) | (have z := hQ _ F; rw [if_pos (by omega), if_pos (by omega), ← g2] at z; exact z) | (have z := hQ _ F; rw [if_pos (by omega), if_neg (by omega), if_pos (by omega), ← g3] at z; exact z) | (have z := hQ _ F; rw [if_pos (by omega), if_neg (by omega), if_neg (by omega), if_pos (by omega), ← g4] at z; exact z) | (have z := hQ _ F; rw [if_pos (by omega), if_neg (by omega), if_neg (by omega), if_neg (by omega), if_pos (by omega), ← g5 _ (by omega) (by omega)] at z; exact z) | (have z := hQ _ F; rw [if_pos (by omega), if_neg (by omega), if_neg (by omega), if_neg (by omega), if_neg (by omega)] at z; exact z)
  · skip
    first | (exfalso; omega) | (have z := hQ _ (frC_refl H); rw [if_neg (by omega)] at z; exact z) | (have z := hQ _ F; rw [if_pos (by omega), if_pos (by omega), ← g2] at z; exact z) | (have z := hQ _ F; rw [if_pos (by omega), if_neg (by omega), if_pos (by omega), ← g3] at z; exact z) | (have z := hQ _ F; rw [if_pos (by omega), if_neg (by omega), if_neg (by omega), if_pos (by omega), ← g4] at z; exact z) | (have z := hQ _ F; rw [if_pos (by omega), if_neg (by omega), if_neg (by omega), if_neg (by omega), if_pos (by omega), ← g5 _ (by omega) (by omega)] at z; exact z) | (have z := hQ _ F; rw [if_pos (by omega), if_neg (by omega), if_neg (by omega), if_neg (by omega), if_neg (by omega)] at z; exact z)
