/-! THE PURE LAYER 67: walked: the pair -/
theorem law_lo {H : XH} (hi : InvS H) (hl : InvL H) : ∃ lo, loC lo H ∧ lwN lo H := by
  have hg := hi.1
  have n6 := hi.2.n6
  have t3 := hg.lwt
  have b2 := hg.lwb
  by_cases q : H 68 3 = -1
  · exact ⟨none, n6.trans q, q⟩
  · obtain ⟨L, a, b, c, e, f, g, k, l⟩ := hl (H 68 3) (by omega) t3.2
    exact ⟨some L, ⟨H 68 3, n6, ⟨by omega, by omega⟩, a, c, e, f⟩, ⟨H 68 3, rfl, ⟨by omega, by omega⟩, a, b, c, g, k, l⟩⟩
theorem frC_wF {H h : XH} (F : wF H h) : frC H h := fun o _ b => F o (fun q => b ⟨q.1, by omega⟩)
theorem frM_mF {H h : XH} (F : mF2 H h) : frM H h := ⟨fun o a b => F.1 o a (fun q => b ⟨q.1, by omega⟩) (fun q => b ⟨by omega, by omega⟩), fun k a => F.2 k (by omega) (by omega)⟩
theorem lwN_frC {lo : Option (List (Int × List Int))} {H h : XH} (F : frC H h) (l : lwN lo H) : lwN lo h := lwN_fr (fun o _ => F o (by omega) (by omega)) l
/-- what walked answers -/
noncomputable def vWk (lo : Option (List (Int × List Int))) (w N : Int) (g : Int → Int) (s b c : Int) : Int := if 0 ≤ s ∧ s ≤ 3 then (if b = -1 then (wkW lo w N g s).1 else if (0 ≤ b ∧ b < (wkW lo w N g s).1) ∧ (0 ≤ c ∧ c ≤ 4) then (wkW lo w N g s).2 (5 * b + c) else -1) else -1

theorem U_217 {X : Int × (Int → Int)} {d : Nat} {Q : Int → XH → Prop} (hd : 2 ≤ d) (s b c : Int) (H : XH) (h : ((((0 ≤ s ∧ s ≤ 3)) → (xc X d 216 [(2, 58), (2, 1), (2, 51), (0, s)] H (fun (J2288 : Int) (h2287 : XH) => ((¬ b = (-1)) → ((((0 ≤ b ∧ b < h2287 59 1)) → ((((0 ≤ c ∧ c ≤ 4)) → (0 ≤ b ∧ b < h2287 59 1) ∧ (0 ≤ c ∧ c < 5) ∧ (h2287 59 1 ≤ 8) ∧ (Q (h2287 60 (b * 5 + c)) h2287)) ∧ (¬ ((0 ≤ c ∧ c ≤ 4)) → Q (-1) h2287))) ∧ (¬ ((0 ≤ b ∧ b < h2287 59 1)) → Q (-1) h2287))) ∧ (¬ (¬ b = (-1)) → Q (h2287 59 1) h2287)))) ∧ (¬ ((0 ≤ s ∧ s ≤ 3)) → Q (-1) H))) : xc X (d + 1) 217 [(2, 0), (0, s), (0, b), (0, c)] H Q := by
  refine ⟨rfl, ?_⟩
  show xq X d 217 Q 100000 [(0, (2, 0)), (1, (0, s)), (2, (0, b)), (3, (0, c))] [] H
  refine xq_run [4, 25, 52, 59, 76] 300 ?_
  show xWM (xE X) xMC d 198 [(0, s)] xKZ H _
  refine xc_in (s_198 (by omega) s H  ?_)
  replace h := h
  show xq X d 217 Q 4 [(0, (2, 0)), (1, (0, s)), (2, (0, b)), (3, (0, c))] [(0, xb (0 ≤ s ∧ s ≤ 3))] H
  refine xq_run [4, 25, 52, 59, 76] 300 ?_
  show ((¬ xb (0 ≤ s ∧ s ≤ 3) = 0) → xWM (xE X) xMC d 216 [(2, 58), (2, 1), (2, 51), (0, s)] xKZ H _) ∧ (¬ (¬ xb (0 ≤ s ∧ s ≤ 3) = 0) → xfR 0 (-1) ∧ xKZ = xKZ ∧ Q (-1) H)
  refine ⟨fun k_ => ?_, fun k_ => ?_⟩
  · replace h := h.1 (xbe_1.mp k_)
    refine xc_in (xc_mono (fun J2288 h2287 q_ => ?_) h)
    replace h := q_
    show xq X d 217 Q 25 [(0, (2, 0)), (1, (0, s)), (2, (0, b)), (3, (0, c))] [] h2287
    refine xq_run [4, 25, 52, 59, 76] 300 ?_
    show ((¬ b = (-1)) → xWM (xE X) xMC d 49 [(2, 59), (0, b)] xKZ h2287 _) ∧ (¬ (¬ b = (-1)) → xfR 0 (h2287 59 1) ∧ xKZ = xKZ ∧ Q (h2287 59 1) h2287)
    refine ⟨fun k_ => ?_, fun k_ => ?_⟩
    · replace h := h.1 k_
      refine xc_in (s_49_o59 (by omega) b h2287  ?_)
      replace h := h
      show xq X d 217 Q 52 [(0, (2, 0)), (1, (0, s)), (2, (0, b)), (3, (0, c))] [(0, xb (0 ≤ b ∧ b < h2287 59 1))] h2287
      refine xq_run [4, 25, 52, 59, 76] 300 ?_
      show ((xb (0 ≤ b ∧ b < h2287 59 1) = 0) → xfR 0 (-1) ∧ xKZ = xKZ ∧ Q (-1) h2287) ∧ (¬ (xb (0 ≤ b ∧ b < h2287 59 1) = 0) → xWM (xE X) xMC d 31 [(0, c)] xKZ h2287 _)
      refine ⟨fun k_ => ?_, fun k_ => ?_⟩
      · replace h := h.2 (xbe_0.mp k_)
        exact ⟨trivial, rfl, h⟩
      · replace h := h.1 (xbe_1.mp k_)
        refine xc_in (s_31 (by omega) c h2287  ?_)
        replace h := h
        show xq X d 217 Q 59 [(0, (2, 0)), (1, (0, s)), (2, (0, b)), (3, (0, c))] [(0, xb (0 ≤ c ∧ c ≤ 4))] h2287
        refine xq_run [4, 25, 52, 59, 76] 300 ?_
        show ((¬ xb (0 ≤ c ∧ c ≤ 4) = 0) → xWM (xE X) xMC d 80 [(2, 59), (0, b), (0, c)] xKZ h2287 _) ∧ (¬ (¬ xb (0 ≤ c ∧ c ≤ 4) = 0) → xfR 0 (-1) ∧ xKZ = xKZ ∧ Q (-1) h2287)
        refine ⟨fun k_ => ?_, fun k_ => ?_⟩
        · replace h := h.1 (xbe_1.mp k_)
          refine xc_in (s_80_o59 (by omega) b c h2287 (h.1) (h.2.1) (h.2.2.1) ?_)
          replace h := h.2.2.2
          show xq X d 217 Q 76 [(0, (2, 0)), (1, (0, s)), (2, (0, b)), (3, (0, c))] [(0, h2287 60 (b * 5 + c))] h2287
          refine xq_run [4, 25, 52, 59, 76] 300 ?_
          show xfR 0 (h2287 60 (b * 5 + c)) ∧ xKZ = xKZ ∧ Q (h2287 60 (b * 5 + c)) h2287
          exact ⟨trivial, rfl, h⟩
        · replace h := h.2 (xbe_n.mp k_)
          exact ⟨trivial, rfl, h⟩
    · replace h := h.2 k_
      exact ⟨trivial, rfl, h⟩
  · replace h := h.2 (xbe_n.mp k_)
    exact ⟨trivial, rfl, h⟩

theorem U_227 {X : Int × (Int → Int)} {d : Nat} {Q : Int → XH → Prop} (hd : 2 ≤ d) (s b c : Int) (H : XH) (h : ((((0 ≤ s ∧ s ≤ 3)) → (xc X d 226 [(2, 67), (0, s)] H (fun (J2290 : Int) (h2289 : XH) => ((¬ b = (-1)) → (xI ((h2289 67 47) - 1)) ∧ ((((0 ≤ b ∧ b ≤ ((h2289 67 47) - 1))) → ((((0 ≤ c ∧ c ≤ 4)) → (xI (5 * b)) ∧ (xI ((5 * b) + c)) ∧ ((0 : Int) ≤ (5 * b) + c ∧ ((5 * b) + c : Int) < 40) ∧ Q (h2289 96 ((5 * b) + c)) h2289) ∧ (¬ ((0 ≤ c ∧ c ≤ 4)) → Q (-1) h2289))) ∧ (¬ ((0 ≤ b ∧ b ≤ ((h2289 67 47) - 1))) → Q (-1) h2289))) ∧ (¬ (¬ b = (-1)) → Q (h2289 67 47) h2289)))) ∧ (¬ ((0 ≤ s ∧ s ≤ 3)) → Q (-1) H))) : xc X (d + 1) 227 [(2, 67), (0, s), (0, b), (0, c)] H Q := by
  refine ⟨rfl, ?_⟩
  show xq X d 227 Q 100000 [(0, (2, 67)), (1, (0, s)), (2, (0, b)), (3, (0, c))] [] H
  refine xq_run [6, 16, 37, 44] 300 ?_
  show xWM (xE X) xMC d 23 [(0, s), (0, 0), (0, 3)] xKZ H _
  refine xc_in (s_23 (by omega) s 0 3 H  ?_)
  replace h := h
  show xq X d 227 Q 6 [(0, (2, 67)), (1, (0, s)), (2, (0, b)), (3, (0, c))] [(0, xb (0 ≤ s ∧ s ≤ 3))] H
  refine xq_run [6, 16, 37, 44] 300 ?_
  show ((¬ xb (0 ≤ s ∧ s ≤ 3) = 0) → xWM (xE X) xMC d 226 [(2, 67), (0, s)] xKZ H _) ∧ (¬ (¬ xb (0 ≤ s ∧ s ≤ 3) = 0) → xfR 0 (-1) ∧ xKZ = xKZ ∧ Q (-1) H)
  refine ⟨fun k_ => ?_, fun k_ => ?_⟩
  · replace h := h.1 (xbe_1.mp k_)
    refine xc_in (xc_mono (fun J2290 h2289 q_ => ?_) h)
    replace h := q_
    show xq X d 227 Q 16 [(0, (2, 67)), (1, (0, s)), (2, (0, b)), (3, (0, c))] [] h2289
    refine xq_run [6, 16, 37, 44] 300 ?_
    show ((¬ b = (-1)) → (xI ((h2289 67 47) - 1)) ∧ xWM (xE X) xMC d 23 [(0, b), (0, 0), (0, (h2289 67 47) - 1)] xKZ h2289 _) ∧ (¬ (¬ b = (-1)) → xfR 0 (h2289 67 47) ∧ xKZ = xKZ ∧ Q (h2289 67 47) h2289)
    refine ⟨fun k_ => ?_, fun k_ => ?_⟩
    · replace h := h.1 k_
      refine ⟨h.1, ?_⟩
      replace h := h.2
      refine xc_in (s_23 (by omega) b 0 ((h2289 67 47) - 1) h2289  ?_)
      replace h := h
      show xq X d 227 Q 37 [(0, (2, 67)), (1, (0, s)), (2, (0, b)), (3, (0, c))] [(0, xb (0 ≤ b ∧ b ≤ ((h2289 67 47) - 1)))] h2289
      refine xq_run [6, 16, 37, 44] 300 ?_
      show ((xb (0 ≤ b ∧ b ≤ ((h2289 67 47) - 1)) = 0) → xfR 0 (-1) ∧ xKZ = xKZ ∧ Q (-1) h2289) ∧ (¬ (xb (0 ≤ b ∧ b ≤ ((h2289 67 47) - 1)) = 0) → xWM (xE X) xMC d 39 [(0, c)] xKZ h2289 _)
      refine ⟨fun k_ => ?_, fun k_ => ?_⟩
      · replace h := h.2 (xbe_0.mp k_)
        exact ⟨trivial, rfl, h⟩
      · replace h := h.1 (xbe_1.mp k_)
        refine xc_in (s_39 (by omega) c h2289  ?_)
        replace h := h
        show xq X d 227 Q 44 [(0, (2, 67)), (1, (0, s)), (2, (0, b)), (3, (0, c))] [(0, xb (0 ≤ c ∧ c ≤ 4))] h2289
        refine xq_run [6, 16, 37, 44] 300 ?_
        show ((xb (0 ≤ c ∧ c ≤ 4) = 0) → xfR 0 (-1) ∧ xKZ = xKZ ∧ Q (-1) h2289) ∧ (¬ (xb (0 ≤ c ∧ c ≤ 4) = 0) → (xI (5 * b)) ∧ (xI ((5 * b) + c)) ∧ ((0 : Int) ≤ (5 * b) + c ∧ ((5 * b) + c : Int) < 40) ∧ xfR 0 (h2289 96 ((5 * b) + c)) ∧ xKZ = xKZ ∧ Q (h2289 96 ((5 * b) + c)) h2289)
        refine ⟨fun k_ => ?_, fun k_ => ?_⟩
        · replace h := h.2 (xbe_0.mp k_)
          exact ⟨trivial, rfl, h⟩
        · replace h := h.1 (xbe_1.mp k_)
          refine ⟨h.1, ?_⟩
          replace h := h.2
          refine ⟨h.1, ?_⟩
          replace h := h.2
          refine ⟨h.1, ?_⟩
          replace h := h.2
          exact ⟨trivial, rfl, h⟩
    · replace h := h.2 k_
      exact ⟨trivial, rfl, h⟩
  · replace h := h.2 (xbe_n.mp k_)
    exact ⟨trivial, rfl, h⟩

theorem s_217w {X : Int × (Int → Int)} {d : Nat} {Q : Int → XH → Prop} (hd : 13 ≤ d) {lo : Option (List (Int × List Int))} (s b c : Int) (H : XH) (hi : InvS H) (hl : loC lo H) (hQ : ∀ h1 : XH, frC H h1 → Q (vWk lo (H 67 0) (H 67 1) (H 68) s b c) h1) : xc X d 217 [(2, 0), (0, s), (0, b), (0, c)] H Q := by
  cases d with
  | zero => omega
  | succ d =>
  have hg := hi.1
  unfold vWk at hQ
  refine U_217 (by omega) s b c H ?_
  refine ⟨fun c1 => ?_, fun c1 => ?_⟩
  · skip
    have ok := (wkW_ok (lo := lo) hg (s := s) (by omega)).1
    refine s_216w (by omega) s H hi hl (by omega) (fun h2291 F kk => ?_)
    obtain ⟨kn, kf⟩ := kk
    refine ⟨fun c2 => ?_, fun c2 => ?_⟩
    · skip
      refine ⟨fun c3 => ?_, fun c3 => ?_⟩
      · skip
        refine ⟨fun c4 => ?_, fun c4 => ?_⟩
        · skip
          refine ⟨?_, ?_⟩
          · first | omega | (unfold xI; omega) | (unfold xJ; omega) | (exfalso; omega)
          refine ⟨?_, ?_⟩
          · first | omega | (unfold xI; omega) | (unfold xJ; omega) | (exfalso; omega)
          refine ⟨?_, ?_⟩
          · first | omega | (unfold xI; omega) | (unfold xJ; omega) | (exfalso; omega)
          have z := hQ _ (frC_wF F)
          rw [if_pos (by omega), if_neg (by omega), if_pos (by omega), ← kf _ (by omega) (by omega), show 5 * b + c = b * 5 + c by omega] at z
          exact z
        · skip
          have z := hQ _ (frC_wF F)
          rw [if_pos (by omega), if_neg (by omega), if_neg (by omega)] at z
          exact z
      · skip
        have z := hQ _ (frC_wF F)
        rw [if_pos (by omega), if_neg (by omega), if_neg (by omega)] at z
        exact z
    · skip
      have z := hQ _ (frC_wF F)
      rw [if_pos (by omega), if_pos (by omega), ← kn] at z
      exact z
  · skip
    have z := hQ _ (frC_refl H)
    rw [if_neg (by omega)] at z
    exact z
theorem s_227w {X : Int × (Int → Int)} {d : Nat} {Q : Int → XH → Prop} (hd : 11 ≤ d) {lo : Option (List (Int × List Int))} (s b c : Int) (H : XH) (hg : GOk (H 67 0) (H 67 1) (H 68)) (hl : lwN lo H) (hQ : ∀ h1 : XH, frM H h1 → Q (vWk lo (H 67 0) (H 67 1) (H 68) s b c) h1) : xc X d 227 [(2, 67), (0, s), (0, b), (0, c)] H Q := by
  cases d with
  | zero => omega
  | succ d =>
  unfold vWk at hQ
  refine U_227 (by omega) s b c H ?_
  refine ⟨fun c1 => ?_, fun c1 => ?_⟩
  · skip
    have ok := (wkW_ok (lo := lo) hg (s := s) (by omega)).1
    refine s_226w (by omega) s H hg hl (by omega) (fun h2293 F kk => ?_)
    obtain ⟨kn, kf⟩ := kk
    refine ⟨fun c2 => ?_, fun c2 => ?_⟩
    · skip
      refine ⟨?_, ?_⟩
      · first | omega | (unfold xI; omega) | (unfold xJ; omega) | (exfalso; omega)
      refine ⟨fun c3 => ?_, fun c3 => ?_⟩
      · skip
        refine ⟨fun c4 => ?_, fun c4 => ?_⟩
        · skip
          refine ⟨?_, ?_⟩
          · first | omega | (unfold xI; omega) | (unfold xJ; omega) | (exfalso; omega)
          refine ⟨?_, ?_⟩
          · first | omega | (unfold xI; omega) | (unfold xJ; omega) | (exfalso; omega)
          refine ⟨?_, ?_⟩
          · first | omega | (unfold xI; omega) | (unfold xJ; omega) | (exfalso; omega)
          have z := hQ _ (frM_mF F)
          rw [if_pos (by omega), if_neg (by omega), if_pos (by omega), ← kf _ (by omega) (by omega)] at z
          exact z
        · skip
          have z := hQ _ (frM_mF F)
          rw [if_pos (by omega), if_neg (by omega), if_neg (by omega)] at z
          exact z
      · skip
        have z := hQ _ (frM_mF F)
        rw [if_pos (by omega), if_neg (by omega), if_neg (by omega)] at z
        exact z
    · skip
      have z := hQ _ (frM_mF F)
      rw [if_pos (by omega), if_pos (by omega), ← kn] at z
      exact z
  · skip
    have z := hQ _ (frM_refl H)
    rw [if_neg (by omega)] at z
    exact z

theorem p_walked {X : Int × (Int → Int)} {d : Nat} (hd : 13 ≤ d) (s b c : Int) (H : XH) (hi : InvS H) (hl : InvL H) : xc X d 217 [(2, 0), (0, s), (0, b), (0, c)] H (fun r H1 => xc X d 227 [(2, 67), (0, s), (0, b), (0, c)] H1 (qOk H r)) := by
  obtain ⟨lo, l1, l2⟩ := law_lo hi hl
  exact s_217w (by omega) s b c H hi l1 (fun h1 f => s_227w (by omega) s b c h1 (frC_S f hi).1 (lwN_frC f l2) (fun h2 f' => ⟨by rw [f 67 (by decide) (by decide), f 68 (by decide) (by decide)], frQ_CM f f'⟩))
