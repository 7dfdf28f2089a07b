/-! THE PURE LAYER 68: wear: the pair -/
theorem U_229 {X : Int × (Int → Int)} {d : Nat} {Q : Int → XH → Prop} (hd : 0 ≤ d) (a : Int) (H : XH) (h : xq X d 229 Q 2 [(0, (2, 7)), (1, (0, a)), (2, (0, 0))] [] H) : xc X (d + 1) 229 [(2, 7), (0, a)] H Q := by
  refine ⟨rfl, ?_⟩
  show xq X d 229 Q 100000 [(0, (2, 7)), (1, (0, a))] [] H
  refine xq_run [2, 27] 300 ?_
  show xq X d 229 Q 2 [(0, (2, 7)), (1, (0, a)), (2, (0, 0))] [] H
  exact h
theorem U_229_2 {X : Int × (Int → Int)} {d : Nat} {Q : Int → XH → Prop} (hd : 1 ≤ d) (v1 v2 : Int) (H : XH) (h : (xI ((H 7 1) * 5)) ∧ (((H 7 1) * 5 ≤ v2) → Q 0 H) ∧ (¬ ((H 7 1) * 5 ≤ v2) → ((0 : Int) ≤ v2 ∧ (v2 : Int) < 40) ∧ (((0 : Int) ≤ v2 ∧ (v2 : Int) < 40) ∧ (xI (v2 + 1)) ∧ xq X d 229 Q 2 [(0, (2, 7)), (1, (0, v1)), (2, (0, v2 + 1))] [] (xup H 8 v2 (min v1 (H 8 v2)))))) : xq X d 229 Q 2 [(0, (2, 7)), (1, (0, v1)), (2, (0, v2))] [] H := by
  show xq X d 229 Q 2 [(0, (2, 7)), (1, (0, v1)), (2, (0, v2))] [] H
  refine xq_run [2, 27] 300 ?_
  show (xI ((H 7 1) * 5)) ∧ (((H 7 1) * 5 ≤ v2) → xfR 2 0 ∧ xKZ = xKZ ∧ Q 0 H) ∧ (¬ ((H 7 1) * 5 ≤ v2) → ((0 : Int) ≤ v2 ∧ (v2 : Int) < 40) ∧ xWM (xE X) xMC d 1 [(0, v1), (0, H 8 v2)] xKZ H _)
  refine ⟨h.1, ?_⟩
  replace h := h.2
  refine ⟨fun k_ => ?_, fun k_ => ?_⟩
  · replace h := h.1 k_
    exact ⟨trivial, rfl, h⟩
  · replace h := h.2 k_
    refine ⟨h.1, ?_⟩
    replace h := h.2
    refine xc_in (s_1 (by omega) v1 (H 8 v2) H  ?_)
    replace h := h
    show xq X d 229 Q 27 [(0, (2, 7)), (1, (0, v1)), (2, (0, v2))] [(0, min v1 (H 8 v2)), (0, v2), (2, 8)] H
    refine xq_run [2, 27] 300 ?_
    show ((0 : Int) ≤ v2 ∧ (v2 : Int) < 40) ∧ (xI (v2 + 1)) ∧ xq X d 229 Q 2 [(0, (2, 7)), (1, (0, v1)), (2, (0, v2 + 1))] [] (xup H 8 v2 (min v1 (H 8 v2)))
    refine ⟨h.1, ?_⟩
    replace h := h.2
    refine ⟨h.1, ?_⟩
    replace h := h.2
    exact h

theorem U_228 {X : Int × (Int → Int)} {d : Nat} {Q : Int → XH → Prop} (hd : 0 ≤ d) (H : XH) (h : Q 0 (xup (xcpy H 60 8 0 0 40) 7 1 (H 59 1))) : xc X (d + 1) 228 [(2, 7), (2, 59)] H Q := by
  refine ⟨rfl, ?_⟩
  show xq X d 228 Q 100000 [(0, (2, 7)), (1, (2, 59))] [] H
  refine xq_run [] 300 ?_
  show (xTy xKZ 60 = 1 ∧ xTy xKZ 8 = 1 ∧ 0 ≤ 0 ∧ 0 ≤ 0 ∧ 0 ≤ 40 ∧ 0 + 40 ≤ xLen xKZ 60 ∧ 0 + 40 ≤ xLen xKZ 8) ∧ xfR 2 0 ∧ xKZ = xKZ ∧ Q 0 (xup (xcpy H 60 8 0 0 40) 7 1 (H 59 1))
  refine ⟨⟨by decide, by decide, by decide, by decide, by decide, by decide, by decide⟩, ?_⟩
  exact ⟨trivial, rfl, h⟩

theorem xcpy_oo {H : XH} {s t n o : Int} (h : ¬ o = t) : xcpy H s t 0 0 n o = H o := by
  funext i
  unfold xcpy
  exact if_neg (fun q => h q.1)
theorem s_228w {X : Int × (Int → Int)} {d : Nat} {Q : Int → XH → Prop} (hd : 1 ≤ d) (H : XH) (hQ : ∀ h1, (∀ o, ¬ o = 7 → ¬ o = 8 → h1 o = H o) → h1 7 1 = H 59 1 → (∀ k, 0 ≤ k → k < 40 → h1 8 k = H 60 k) → Q 0 h1) : xc X d 228 [(2, 7), (2, 59)] H Q := by
  cases d with
  | zero => omega
  | succ d =>
  refine U_228 (by omega) H ?_
  exact hQ _ (fun o p q => by rw [xup_ne p, xcpy_oo q]) (xup_self _ _ _ _) (fun k p q => by rw [xup_ne (by decide), xcpy_in p q])
theorem s_229w {X : Int × (Int → Int)} {d : Nat} {Q : Int → XH → Prop} (hd : 2 ≤ d) {n : Int} {f : Int → Int} (H : XH) (hn : 0 ≤ n ∧ n ≤ 8) (e : H 7 1 = n) (ef : ∀ k, 0 ≤ k → k < 5 * n → H 8 k = f k) (hQ : ∀ h1, (∀ o, ¬ o = 8 → h1 o = H o) → (∀ k, 0 ≤ k → k < 5 * n → h1 8 k = min 99 (f k)) → Q 0 h1) : xc X d 229 [(2, 7), (0, 99)] H Q := by
  cases d with
  | zero => omega
  | succ d =>
  have key : ∀ (r : Nat) (i : Int) (h' : XH), i + (r : Int) = 5 * n → 0 ≤ i → (∀ o, ¬ o = 8 → h' o = H o) → (∀ k, 0 ≤ k → k < 5 * n → h' 8 k = if k < i then min 99 (f k) else f k) → xq X d 229 Q 2 [(0, (2, 7)), (1, (0, 99)), (2, (0, i))] [] h' := by
    intro r
    induction r with
    | zero =>
      intro i h' ei h0 fo fk
      have e1 : h' 7 1 = n := by rw [fo 7 (by decide)]; exact e
      have z := hQ h' fo (fun k p q => by rw [fk k p q, if_pos (by omega)])
      refine U_229_2 (by omega) 99 i h' ?_
      rw [e1]
      refine ⟨?_, ?_⟩
      · first | omega | (unfold xI; omega) | (unfold xJ; omega) | (exfalso; omega)
      refine ⟨fun c1 => ?_, fun c1 => ?_⟩
      · skip
        exact z
      · skip
        refine ⟨?_, ?_⟩
        · first | omega | (unfold xI; omega) | (unfold xJ; omega) | (exfalso; omega)
        refine ⟨?_, ?_⟩
        · first | omega | (unfold xI; omega) | (unfold xJ; omega) | (exfalso; omega)
        refine ⟨?_, ?_⟩
        · first | omega | (unfold xI; omega) | (unfold xJ; omega) | (exfalso; omega)
        exfalso
        omega
    | succ r ih =>
      intro i h' ei h0 fo fk
      have e1 : h' 7 1 = n := by rw [fo 7 (by decide)]; exact e
      have e2 : h' 8 i = f i := by rw [fk i h0 (by omega), if_neg (by omega)]
      have z := ih (i + 1) (xup h' 8 i (min 99 (f i))) (by omega) (by omega) (fun o q => by rw [xup_ne q]; exact fo o q) (fun k p q => by
        by_cases y : k = i
        · rw [y, xup_self, if_pos (by omega)]
        · rw [xup_k y, fk k p q]
          by_cases y2 : k < i
          · rw [if_pos y2, if_pos (by omega)]
          · rw [if_neg y2, if_neg (by omega)])
      refine U_229_2 (by omega) 99 i h' ?_
      rw [e1, e2]
      refine ⟨?_, ?_⟩
      · first | omega | (unfold xI; omega) | (unfold xJ; omega) | (exfalso; omega)
      refine ⟨fun c1 => ?_, fun c1 => ?_⟩
      · skip
        exfalso
        omega
      · skip
        refine ⟨?_, ?_⟩
        · first | omega | (unfold xI; omega) | (unfold xJ; omega) | (exfalso; omega)
        refine ⟨?_, ?_⟩
        · first | omega | (unfold xI; omega) | (unfold xJ; omega) | (exfalso; omega)
        refine ⟨?_, ?_⟩
        · first | omega | (unfold xI; omega) | (unfold xJ; omega) | (exfalso; omega)
        exact z
  exact U_229 (by omega) 99 H (key (5 * n).toNat 0 H (by omega) (by decide) (fun _ _ => rfl) (fun k p q => by rw [if_neg (by omega)]; exact ef k p q))

theorem U_230 {X : Int × (Int → Int)} {d : Nat} {Q : Int → XH → Prop} (hd : 1 ≤ d) (s : Int) (H : XH) (h : ((((0 ≤ s ∧ s ≤ 3)) → (xc X d 216 [(2, 58), (2, 1), (2, 51), (0, s)] H (fun (J2297 : Int) (h2296 : XH) => (xc X d 228 [(2, 7), (2, 59)] h2296 (fun (J2299 : Int) (h2298 : XH) => (xc X d 229 [(2, 7), (0, 99)] h2298 (fun (J2301 : Int) (h2300 : XH) => Q (h2300 7 1) h2300))))))) ∧ (¬ ((0 ≤ s ∧ s ≤ 3)) → Q (-1) H))) : xc X (d + 1) 230 [(2, 0), (0, s)] H Q := by
  refine ⟨rfl, ?_⟩
  show xq X d 230 Q 100000 [(0, (2, 0)), (1, (0, s))] [] H
  refine xq_run [4, 25, 42, 54] 300 ?_
  show xWM (xE X) xMC d 198 [(0, s)] xKZ H _
  refine xc_in (s_198 (by omega) s H  ?_)
  replace h := h
  show xq X d 230 Q 4 [(0, (2, 0)), (1, (0, s))] [(0, xb (0 ≤ s ∧ s ≤ 3))] H
  refine xq_run [4, 25, 42, 54] 300 ?_
  show ((¬ xb (0 ≤ s ∧ s ≤ 3) = 0) → xWM (xE X) xMC d 216 [(2, 58), (2, 1), (2, 51), (0, s)] xKZ H _) ∧ (¬ (¬ xb (0 ≤ s ∧ s ≤ 3) = 0) → xfR 0 (-1) ∧ xKZ = xKZ ∧ Q (-1) H)
  refine ⟨fun k_ => ?_, fun k_ => ?_⟩
  · replace h := h.1 (xbe_1.mp k_)
    refine xc_in (xc_mono (fun J2297 h2296 q_ => ?_) h)
    replace h := q_
    show xq X d 230 Q 25 [(0, (2, 0)), (1, (0, s))] [] h2296
    refine xq_run [4, 25, 42, 54] 300 ?_
    show xWM (xE X) xMC d 228 [(2, 7), (2, 59)] xKZ h2296 _
    refine xc_in (xc_mono (fun J2299 h2298 q_ => ?_) h)
    replace h := q_
    show xq X d 230 Q 42 [(0, (2, 0)), (1, (0, s))] [] h2298
    refine xq_run [4, 25, 42, 54] 300 ?_
    show xWM (xE X) xMC d 229 [(2, 7), (0, 99)] xKZ h2298 _
    refine xc_in (xc_mono (fun J2301 h2300 q_ => ?_) h)
    replace h := q_
    show xq X d 230 Q 54 [(0, (2, 0)), (1, (0, s))] [] h2300
    refine xq_run [4, 25, 42, 54] 300 ?_
    show xfR 0 (h2300 7 1) ∧ xKZ = xKZ ∧ Q (h2300 7 1) h2300
    exact ⟨trivial, rfl, h⟩
  · replace h := h.2 (xbe_n.mp k_)
    exact ⟨trivial, rfl, h⟩

theorem U_231 {X : Int × (Int → Int)} {d : Nat} {Q : Int → XH → Prop} (hd : 1 ≤ d) (s : Int) (H : XH) (h : ((((0 ≤ s ∧ s ≤ 3)) → (xc X d 226 [(2, 67), (0, s)] H (fun (J2303 : Int) (h2302 : XH) => xq X d 231 Q 28 [(0, (2, 67)), (2, (0, 0))] [] (xup h2302 68 1 (h2302 67 47))))) ∧ (¬ ((0 ≤ s ∧ s ≤ 3)) → Q (-1) H))) : xc X (d + 1) 231 [(2, 67), (0, s)] H Q := by
  refine ⟨rfl, ?_⟩
  show xq X d 231 Q 100000 [(0, (2, 67)), (1, (0, s))] [] H
  refine xq_run [6, 16, 28, 58] 300 ?_
  show xWM (xE X) xMC d 23 [(0, s), (0, 0), (0, 3)] xKZ H _
  refine xc_in (s_23 (by omega) s 0 3 H  ?_)
  replace h := h
  show xq X d 231 Q 6 [(0, (2, 67)), (1, (0, s))] [(0, xb (0 ≤ s ∧ s ≤ 3))] H
  refine xq_run [6, 16, 28, 58] 300 ?_
  show ((¬ xb (0 ≤ s ∧ s ≤ 3) = 0) → xWM (xE X) xMC d 226 [(2, 67), (0, s)] xKZ H _) ∧ (¬ (¬ xb (0 ≤ s ∧ s ≤ 3) = 0) → xfR 0 (-1) ∧ xKZ = xKZ ∧ Q (-1) H)
  refine ⟨fun k_ => ?_, fun k_ => ?_⟩
  · replace h := h.1 (xbe_1.mp k_)
    refine xc_in (xc_mono (fun J2303 h2302 q_ => ?_) h)
    replace h := q_
    show xq X d 231 Q 16 [(0, (2, 67)), (1, (0, s))] [] h2302
    refine xq_run [6, 16, 28, 58] 300 ?_
    show ((0 : Int) ≤ 1 ∧ (1 : Int) < 1180) ∧ xq X d 231 Q 28 [(0, (2, 67)), (2, (0, 0))] [] (xup h2302 68 1 (h2302 67 47))
    refine ⟨⟨by decide, by decide⟩, ?_⟩
    exact h
  · replace h := h.2 (xbe_n.mp k_)
    exact ⟨trivial, rfl, h⟩
theorem U_231_28 {X : Int × (Int → Int)} {d : Nat} {Q : Int → XH → Prop} (hd : 1 ≤ d) (v2 : Int) (H : XH) (h : (xI (5 * (H 67 47))) ∧ ((5 * (H 67 47) ≤ v2) → Q (H 67 47) H) ∧ (¬ (5 * (H 67 47) ≤ v2) → (xI (560 + v2)) ∧ ((0 : Int) ≤ v2 ∧ (v2 : Int) < 40) ∧ (((0 : Int) ≤ 560 + v2 ∧ (560 + v2 : Int) < 1180) ∧ (xI (v2 + 1)) ∧ xq X d 231 Q 28 [(0, (2, 67)), (2, (0, v2 + 1))] [] (xup H 68 (560 + v2) ((if (H 96 v2) ≤ 99 then (H 96 v2) else 99)))))) : xq X d 231 Q 28 [(0, (2, 67)), (2, (0, v2))] [] H := by
  show xq X d 231 Q 28 [(0, (2, 67)), (2, (0, v2))] [] H
  refine xq_run [6, 16, 28, 58] 300 ?_
  show (xI (5 * (H 67 47))) ∧ ((5 * (H 67 47) ≤ v2) → xfR 0 (H 67 47) ∧ xKZ = xKZ ∧ Q (H 67 47) H) ∧ (¬ (5 * (H 67 47) ≤ v2) → (xI (560 + v2)) ∧ ((0 : Int) ≤ v2 ∧ (v2 : Int) < 40) ∧ xWM (xE X) xMC d 104 [(0, 99), (0, H 96 v2)] xKZ H _)
  refine ⟨h.1, ?_⟩
  replace h := h.2
  refine ⟨fun k_ => ?_, fun k_ => ?_⟩
  · replace h := h.1 k_
    exact ⟨trivial, rfl, h⟩
  · replace h := h.2 k_
    refine ⟨h.1, ?_⟩
    replace h := h.2
    refine ⟨h.1, ?_⟩
    replace h := h.2
    refine xc_in (s_104 (by omega) 99 (H 96 v2) H  ?_)
    replace h := h
    show xq X d 231 Q 58 [(0, (2, 67)), (2, (0, v2))] [(0, ((if (H 96 v2) ≤ 99 then (H 96 v2) else 99))), (0, 560 + v2), (2, 68)] H
    refine xq_run [6, 16, 28, 58] 300 ?_
    show ((0 : Int) ≤ 560 + v2 ∧ (560 + v2 : Int) < 1180) ∧ (xI (v2 + 1)) ∧ xq X d 231 Q 28 [(0, (2, 67)), (2, (0, v2 + 1))] [] (xup H 68 (560 + v2) ((if (H 96 v2) ≤ 99 then (H 96 v2) else 99)))
    refine ⟨h.1, ?_⟩
    replace h := h.2
    refine ⟨h.1, ?_⟩
    replace h := h.2
    exact h

theorem s_230w {X : Int × (Int → Int)} {d : Nat} {Q : Int → XH → Prop} (hd : 13 ≤ d) {lo : Option (List (Int × List Int))} (s : Int) (H : XH) (hi : InvS H) (hl : loC lo H) (hY : 0 ≤ s ∧ s ≤ 3 → ∀ h1, (∀ o, ¬ o = 7 → ¬ o = 8 → ¬ (58 ≤ o ∧ o ≤ 63) → h1 o = H o) → h1 7 1 = (wkW lo (H 67 0) (H 67 1) (H 68) s).1 → (∀ k, 0 ≤ k → k < 5 * (wkW lo (H 67 0) (H 67 1) (H 68) s).1 → h1 8 k = min 99 ((wkW lo (H 67 0) (H 67 1) (H 68) s).2 k)) → Q (wkW lo (H 67 0) (H 67 1) (H 68) s).1 h1) (hN : ¬ (0 ≤ s ∧ s ≤ 3) → Q (-1) H) : xc X d 230 [(2, 0), (0, s)] H Q := by
  cases d with
  | zero => omega
  | succ d =>
  have hg := hi.1
  refine U_230 (by omega) s H ?_
  refine ⟨fun c1 => ?_, fun c1 => ?_⟩
  · skip
    have ok := (wkW_ok (lo := lo) hg (s := s) (by omega)).1
    refine s_216w (by omega) s H hi hl (by omega) (fun hA F kk => ?_)
    obtain ⟨kn, kf⟩ := kk
    refine s_228w (by omega) _ (fun hB fB nB kB => ?_)
    refine s_229w (by omega) (n := (wkW lo (H 67 0) (H 67 1) (H 68) s).1) (f := (wkW lo (H 67 0) (H 67 1) (H 68) s).2) _ ok (by rw [nB, kn]) (fun k p q => by rw [kB k p (by omega)]; exact kf k p q) (fun hC fC kC => ?_)
    have z := hY (by omega) hC (fun o p q r => (fC o q).trans ((fB o p q).trans (F o r))) (by rw [fC 7 (by decide), nB, kn]) kC
    rw [show hC 7 1 = (wkW lo (H 67 0) (H 67 1) (H 68) s).1 by rw [fC 7 (by decide), nB, kn]]
    exact z
  · skip
    exact hN (by omega)
theorem s_231w {X : Int × (Int → Int)} {d : Nat} {Q : Int → XH → Prop} (hd : 11 ≤ d) {lo : Option (List (Int × List Int))} (s : Int) (H : XH) (hg : GOk (H 67 0) (H 67 1) (H 68)) (hl : lwN lo H) (hY : 0 ≤ s ∧ s ≤ 3 → ∀ h1, (∀ o, ¬ o = 67 → ¬ o = 68 → ¬ (76 ≤ o ∧ o ≤ 78) → ¬ (94 ≤ o ∧ o ≤ 96) → h1 o = H o) → (∀ k, ¬ k = 47 → ¬ k = 14 → h1 67 k = H 67 k) → (∀ k, h1 68 k = if k = 1 then (wkW lo (H 67 0) (H 67 1) (H 68) s).1 else if 560 ≤ k ∧ k < 560 + 5 * (wkW lo (H 67 0) (H 67 1) (H 68) s).1 then min 99 ((wkW lo (H 67 0) (H 67 1) (H 68) s).2 (k - 560)) else H 68 k) → Q (wkW lo (H 67 0) (H 67 1) (H 68) s).1 h1) (hN : ¬ (0 ≤ s ∧ s ≤ 3) → Q (-1) H) : xc X d 231 [(2, 67), (0, s)] H Q := by
  cases d with
  | zero => omega
  | succ d =>
  refine U_231 (by omega) s H ?_
  refine ⟨fun c1 => ?_, fun c1 => ?_⟩
  · skip
    have ok := (wkW_ok (lo := lo) hg (s := s) (by omega)).1
    refine s_226w (by omega) s H hg hl (by omega) (fun hA F kk => ?_)
    obtain ⟨kn, kf⟩ := kk
    have key : ∀ (r : Nat) (i : Int) (h' : XH), i + (r : Int) = 5 * (wkW lo (H 67 0) (H 67 1) (H 68) s).1 → 0 ≤ i → (∀ o, ¬ o = 68 → h' o = hA o) → (∀ k, h' 68 k = if k = 1 then (wkW lo (H 67 0) (H 67 1) (H 68) s).1 else if 560 ≤ k ∧ k < 560 + i then min 99 ((wkW lo (H 67 0) (H 67 1) (H 68) s).2 (k - 560)) else H 68 k) → xq X d 231 Q 28 [(0, (2, 67)), (2, (0, i))] [] h' := by
      have hY := hY (by omega)
      generalize wkW lo (H 67 0) (H 67 1) (H 68) s = Z at *
      intro r
      induction r with
      | zero =>
        intro i h' ei h0 fo fk
        have e1 : h' 67 47 = Z.1 := by rw [fo 67 (by decide)]; exact kn
        have ei' : i = 5 * Z.1 := by omega
        rw [ei'] at fk
        have z := hY h' (fun o p q r t => (fo o q).trans (F.1 o p r t)) (fun k p q => by rw [fo 67 (by decide)]; exact F.2 k p q) fk
        refine U_231_28 (by omega) i h' ?_
        rw [e1]
        refine ⟨?_, ?_⟩
        · first | omega | (unfold xI; omega) | (unfold xJ; omega) | (exfalso; omega)
        refine ⟨fun c1 => ?_, fun c1 => ?_⟩
        · skip
          exact z
        · skip
          refine ⟨?_, ?_⟩
          · first | omega | (unfold xI; omega) | (unfold xJ; omega) | (exfalso; omega)
          refine ⟨?_, ?_⟩
          · first | omega | (unfold xI; omega) | (unfold xJ; omega) | (exfalso; omega)
          refine ⟨?_, ?_⟩
          · first | omega | (unfold xI; omega) | (unfold xJ; omega) | (exfalso; omega)
          refine ⟨?_, ?_⟩
          · first | omega | (unfold xI; omega) | (unfold xJ; omega) | (exfalso; omega)
          exfalso
          omega
      | succ r ih =>
        intro i h' ei h0 fo fk
        have e1 : h' 67 47 = Z.1 := by rw [fo 67 (by decide)]; exact kn
        have e2 : h' 96 i = Z.2 i := by rw [fo 96 (by decide)]; exact kf i h0 (by omega)
        have em : (if Z.2 i ≤ 99 then Z.2 i else 99) = min 99 (Z.2 i) := by split <;> omega
        have z := ih (i + 1) (xup h' 68 (560 + i) (min 99 (Z.2 i))) (by omega) (by omega) (fun o q => by rw [xup_ne q]; exact fo o q) (fun k => by
          by_cases y : k = 560 + i
          · rw [y, xup_self, if_neg (by omega), if_pos (by omega), show 560 + i - 560 = i by omega]
          · rw [xup_k y, fk k]
            by_cases y1 : k = 1
            · rw [if_pos y1, if_pos y1]
            · rw [if_neg y1, if_neg y1]
              by_cases y2 : 560 ≤ k ∧ k < 560 + i
              · rw [if_pos y2, if_pos (by omega)]
              · rw [if_neg y2, if_neg (by omega)])
        refine U_231_28 (by omega) i h' ?_
        rw [e1, e2, em]
        refine ⟨?_, ?_⟩
        · first | omega | (unfold xI; omega) | (unfold xJ; omega) | (exfalso; omega)
        refine ⟨fun c1 => ?_, fun c1 => ?_⟩
        · skip
          exfalso
          omega
        · skip
          refine ⟨?_, ?_⟩
          · first | omega | (unfold xI; omega) | (unfold xJ; omega) | (exfalso; omega)
          refine ⟨?_, ?_⟩
          · first | omega | (unfold xI; omega) | (unfold xJ; omega) | (exfalso; omega)
          refine ⟨?_, ?_⟩
          · first | omega | (unfold xI; omega) | (unfold xJ; omega) | (exfalso; omega)
          refine ⟨?_, ?_⟩
          · first | omega | (unfold xI; omega) | (unfold xJ; omega) | (exfalso; omega)
          exact z
    rw [kn]
    exact key (5 * (wkW lo (H 67 0) (H 67 1) (H 68) s).1).toNat 0 _ (by omega) (by decide) (fun o q => xup_ne q) (fun k => by
      by_cases y1 : k = 1
      · rw [if_pos y1, y1, xup_self]
      · rw [if_neg y1, if_neg (by omega), xup_k y1, F.1 68 (by decide) (by decide) (by decide)])
  · skip
    exact hN (by omega)

/-- after wear: the same answer, the rows again well said, nothing else changed but workspace -/
def weOk (H : XH) (r r' : Int) (H' : XH) : Prop := r' = r ∧ InvS H' ∧ H' 68 2 = H 68 2 ∧ (∀ o, ¬ o = 7 → ¬ o = 8 → ¬ (58 ≤ o ∧ o ≤ 63) → ¬ o = 67 → ¬ o = 68 → ¬ (76 ≤ o ∧ o ≤ 78) → ¬ (94 ≤ o ∧ o ≤ 96) → H' o = H o) ∧ (∀ k, ¬ k = 47 → ¬ k = 14 → H' 67 k = H 67 k) ∧ ∀ k, ¬ k = 1 → ¬ (560 ≤ k ∧ k < 600) → H' 68 k = H 68 k
theorem p_wear {X : Int × (Int → Int)} {d : Nat} (hd : 13 ≤ d) (s : Int) (H : XH) (hi : InvS H) (hl : InvL H) : xc X d 230 [(2, 0), (0, s)] H (fun r H1 => xc X d 231 [(2, 67), (0, s)] H1 (weOk H r)) := by
  obtain ⟨lo, l1, l2⟩ := law_lo hi hl
  have hg := hi.1
  have hs := hi.2
  refine s_230w (by omega) s H hi l1 (fun ps h f n7 k8 => ?_) (fun ps => s_231w (by omega) s H hg l2 (fun q => absurd q ps) (fun _ => ⟨rfl, hi, rfl, fun _ _ _ _ _ _ _ _ => rfl, fun _ _ _ => rfl, fun _ _ _ => rfl⟩))
  have e67 : h 67 = H 67 := f 67 (by decide) (by decide) (by decide)
  have e68 : h 68 = H 68 := f 68 (by decide) (by decide) (by decide)
  have ok := wkW_ok (lo := lo) hg ps
  have ok1 := ok.1
  have go := s_231w (X := X) (d := d) (Q := weOk H (wkW lo (H 67 0) (H 67 1) (H 68) s).1) (by omega) (lo := lo) s h (by rw [e67, e68]; exact hg) (lwN_fr (fun o _ => f o (by omega) (by omega) (by omega)) l2)
  rw [e67, e68] at go
  generalize wkW lo (H 67 0) (H 67 1) (H 68) s = Z at *
  refine go (fun _ h1 o1 o2 o3 => ?_) (fun q => absurd ps q)
  have oo : ∀ o, ¬ o = 7 → ¬ o = 8 → ¬ (58 ≤ o ∧ o ≤ 63) → ¬ o = 67 → ¬ o = 68 → ¬ (76 ≤ o ∧ o ≤ 78) → ¬ (94 ≤ o ∧ o ≤ 96) → h1 o = H o := fun o a b c p q r t => (o1 o p q r t).trans (f o a b c)
  have lw : ∀ o, 1 ≤ o → o ≤ 19 → ¬ o = 7 → ¬ o = 8 → h1 o = H o := fun o a b c p => oo o c p (by omega) (by omega) (by omega) (by omega) (by omega)
  have k68 : ∀ k, ¬ k = 1 → ¬ (560 ≤ k ∧ k < 600) → h1 68 k = H 68 k := fun k p q => by
    rw [o3 k, if_neg p, if_neg (by omega)]
  have g1 : h1 68 1 = Z.1 := by rw [o3 1, if_pos rfl]
  have ga : ∀ k, 0 ≤ k → k < 5 * Z.1 → h1 68 (560 + k) = min 99 (Z.2 k) := fun k p q => by
    rw [o3 (560 + k), if_neg (by omega), if_pos (by omega), show 560 + k - 560 = k by omega]
  have w0 : h1 67 0 = H 67 0 := o2 0 (by decide) (by decide)
  have w1 : h1 67 1 = H 67 1 := o2 1 (by decide) (by decide)
  refine ⟨rfl, ⟨?_, ?_⟩, k68 2 (by decide) (by decide), oo, o2, k68⟩
  · rw [w0, w1]
    refine GOk_ly (g := H 68) hg (fun k hk => k68 k (fun q => hk (Or.inl q)) (fun q => hk (Or.inr q))) (by rw [g1]; omega) (fun k p q => ?_) (fun l p q => ?_)
    · rw [g1] at q
      rw [ga k p q]
      have := ok.2.1 k p q
      omega
    · rw [g1] at q
      have m := ok.2.2 l p q
      have r := fun j (a : 0 ≤ j) (b : j < 5) => ok.2.1 (5 * l + j) (by omega) (by omega)
      have r0 := r 0 (by decide) (by decide)
      rw [Int.add_zero] at r0
      have r1 := r 1 (by decide) (by decide)
      have r2 := r 2 (by decide) (by decide)
      have r3 := r 3 (by decide) (by decide)
      have r4 := r 4 (by decide) (by decide)
      unfold sum5 at m ⊢
      dsimp only
      rw [ga (5 * l) (by omega) (by omega), ga (5 * l + 1) (by omega) (by omega), ga (5 * l + 2) (by omega) (by omega), ga (5 * l + 3) (by omega) (by omega), ga (5 * l + 4) (by omega) (by omega)]
      omega
  · rw [w0, w1, lw 2 (by decide) (by decide) (by decide) (by decide), lw 3 (by decide) (by decide) (by decide) (by decide), lw 4 (by decide) (by decide) (by decide) (by decide), lw 5 (by decide) (by decide) (by decide) (by decide), lw 6 (by decide) (by decide) (by decide) (by decide), lw 9 (by decide) (by decide) (by decide) (by decide), lw 10 (by decide) (by decide) (by decide) (by decide), lw 11 (by decide) (by decide) (by decide) (by decide), lw 13 (by decide) (by decide) (by decide) (by decide), lw 14 (by decide) (by decide) (by decide) (by decide), lw 15 (by decide) (by decide) (by decide) (by decide), lw 16 (by decide) (by decide) (by decide) (by decide), lw 17 (by decide) (by decide) (by decide) (by decide), lw 18 (by decide) (by decide) (by decide) (by decide), lw 19 (by decide) (by decide) (by decide) (by decide), lw 1 (by decide) (by decide) (by decide) (by decide)]
    refine SRel_ly (g := H 68) hg hs (fun k hk => k68 k (fun q => hk (Or.inl q)) (fun q => hk (Or.inr q))) ?_ (fun k p q => ?_)
    · rw [g1, o1 7 (by decide) (by decide) (by decide) (by decide)]
      exact n7
    · rw [g1] at q
      rw [ga k p q, o1 8 (by decide) (by decide) (by decide) (by decide)]
      exact k8 k p q
