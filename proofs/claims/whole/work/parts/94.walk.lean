/-! THE PURE LAYER 64: the walk followed to its end: the class -/
theorem U_204 {X : Int × (Int → Int)} {d : Nat} {Q : Int → XH → Prop} (hd : 1 ≤ d) (s k i : Int) (H : XH) (h : ((((0 ≤ s ∧ s ≤ 3)) → ((((0 ≤ k ∧ k ≤ 19)) → ((((0 ≤ i ∧ i ≤ 2)) → (xI (s * 20)) ∧ (xI ((s * 20) + k)) ∧ (xI (((s * 20) + k) * 3)) ∧ (xI ((((s * 20) + k) * 3) + i)) ∧ ((0 : Int) ≤ (((s * 20) + k) * 3) + i ∧ ((((s * 20) + k) * 3) + i : Int) < 240) ∧ Q (H 13 ((((s * 20) + k) * 3) + i)) H) ∧ (¬ ((0 ≤ i ∧ i ≤ 2)) → Q 0 H))) ∧ (¬ ((0 ≤ k ∧ k ≤ 19)) → Q 0 H))) ∧ (¬ ((0 ≤ s ∧ s ≤ 3)) → Q 0 H))) : xc X (d + 1) 204 [(2, 12), (0, s), (0, k), (0, i)] H Q := by
  refine ⟨rfl, ?_⟩
  show xq X d 204 Q 100000 [(0, (2, 12)), (1, (0, s)), (2, (0, k)), (3, (0, i))] [] H
  refine xq_run [4, 14, 23] 300 ?_
  show xWM (xE X) xMC d 198 [(0, s)] xKZ H _
  refine xc_in (s_198 (by omega) s H  ?_)
  replace h := h
  show xq X d 204 Q 4 [(0, (2, 12)), (1, (0, s)), (2, (0, k)), (3, (0, i))] [(0, xb (0 ≤ s ∧ s ≤ 3))] H
  refine xq_run [4, 14, 23] 300 ?_
  show ((xb (0 ≤ s ∧ s ≤ 3) = 0) → xfR 0 0 ∧ xKZ = xKZ ∧ Q 0 H) ∧ (¬ (xb (0 ≤ s ∧ s ≤ 3) = 0) → xWM (xE X) xMC d 19 [(0, k), (0, 0), (0, 19)] xKZ H _)
  refine ⟨fun k_ => ?_, fun k_ => ?_⟩
  · replace h := h.2 (xbe_0.mp k_)
    exact ⟨trivial, rfl, h⟩
  · replace h := h.1 (xbe_1.mp k_)
    refine xc_in (s_19 (by omega) k 0 19 H  ?_)
    replace h := h
    show xq X d 204 Q 14 [(0, (2, 12)), (1, (0, s)), (2, (0, k)), (3, (0, i))] [(0, xb (0 ≤ k ∧ k ≤ 19))] H
    refine xq_run [4, 14, 23] 300 ?_
    show ((xb (0 ≤ k ∧ k ≤ 19) = 0) → xfR 0 0 ∧ xKZ = xKZ ∧ Q 0 H) ∧ (¬ (xb (0 ≤ k ∧ k ≤ 19) = 0) → xWM (xE X) xMC d 19 [(0, i), (0, 0), (0, 2)] xKZ H _)
    refine ⟨fun k_ => ?_, fun k_ => ?_⟩
    · replace h := h.2 (xbe_0.mp k_)
      exact ⟨trivial, rfl, h⟩
    · replace h := h.1 (xbe_1.mp k_)
      refine xc_in (s_19 (by omega) i 0 2 H  ?_)
      replace h := h
      show xq X d 204 Q 23 [(0, (2, 12)), (1, (0, s)), (2, (0, k)), (3, (0, i))] [(0, xb (0 ≤ i ∧ i ≤ 2))] H
      refine xq_run [4, 14, 23] 300 ?_
      show ((¬ xb (0 ≤ i ∧ i ≤ 2) = 0) → (xI (s * 20)) ∧ (xI ((s * 20) + k)) ∧ (xI (((s * 20) + k) * 3)) ∧ (xI ((((s * 20) + k) * 3) + i)) ∧ ((0 : Int) ≤ (((s * 20) + k) * 3) + i ∧ ((((s * 20) + k) * 3) + i : Int) < 240) ∧ xfR 0 (H 13 ((((s * 20) + k) * 3) + i)) ∧ xKZ = xKZ ∧ Q (H 13 ((((s * 20) + k) * 3) + i)) H) ∧ (¬ (¬ xb (0 ≤ i ∧ i ≤ 2) = 0) → xfR 0 0 ∧ xKZ = xKZ ∧ Q 0 H)
      refine ⟨fun k_ => ?_, fun k_ => ?_⟩
      · replace h := h.1 (xbe_1.mp k_)
        refine ⟨h.1, ?_⟩
        replace h := h.2
        refine ⟨h.1, ?_⟩
        replace h := h.2
        refine ⟨h.1, ?_⟩
        replace h := h.2
        refine ⟨h.1, ?_⟩
        replace h := h.2
        refine ⟨h.1, ?_⟩
        replace h := h.2
        exact ⟨trivial, rfl, h⟩
      · replace h := h.2 (xbe_n.mp k_)
        exact ⟨trivial, rfl, h⟩

theorem s_204u {X : Int × (Int → Int)} {d : Nat} {Q : Int → XH → Prop} (hd : 3 ≤ d) (s k i : Int) {v : Int} {h : XH} (p : (0 ≤ s ∧ s ≤ 3) ∧ (0 ≤ k ∧ k ≤ 19) ∧ (0 ≤ i ∧ i ≤ 2)) (e : h 13 ((s * 20 + k) * 3 + i) = v) (hQ : Q v h) : xc X d 204 [(2, 12), (0, s), (0, k), (0, i)] h Q := by
  cases d with
  | zero => omega
  | succ d =>
  refine U_204 (by omega) s k i h ?_
  rw [e]
  refine ⟨fun c1 => ?_, fun c1 => ?_⟩
  · skip
    refine ⟨fun c2 => ?_, fun c2 => ?_⟩
    · skip
      refine ⟨fun c3 => ?_, fun c3 => ?_⟩
      · skip
        refine ⟨?_, ?_⟩
        · first | omega | (unfold xI; omega) | (unfold xJ; omega) | (exfalso; omega)
        refine ⟨?_, ?_⟩
        · first | omega | (unfold xI; omega) | (unfold xJ; omega) | (exfalso; omega)
        refine ⟨?_, ?_⟩
        · first | omega | (unfold xI; omega) | (unfold xJ; omega) | (exfalso; omega)
        refine ⟨?_, ?_⟩
        · first | omega | (unfold xI; omega) | (unfold xJ; omega) | (exfalso; omega)
        refine ⟨?_, ?_⟩
        · first | omega | (unfold xI; omega) | (unfold xJ; omega) | (exfalso; omega)
        first | exact hQ | (exfalso; omega)
      · skip
        first | exact hQ | (exfalso; omega)
    · skip
      first | exact hQ | (exfalso; omega)
  · skip
    first | exact hQ | (exfalso; omega)

theorem s_204w {X : Int × (Int → Int)} {d : Nat} {Q : Int → XH → Prop} (hd : 3 ≤ d) (s k i : Int) {v : Int} {h : XH} (p : (0 ≤ s ∧ s ≤ 3) ∧ (0 ≤ k ∧ k ≤ 19) ∧ (0 ≤ i ∧ i ≤ 2)) (e : h 13 ((s * 20 + k) * 3 + i) = v) (hQ : ∀ h1, h1 = h → Q v h1) : xc X d 204 [(2, 12), (0, s), (0, k), (0, i)] h Q := s_204u hd s k i p e (hQ h rfl)
/-- a walk's steps, said plainly -/
noncomputable def wkS (lo : Option (List (Int × List Int))) (w N : Int) (g : Int → Int) (s : Int) : Nat → Int → Int → (Int → Int) → Int × (Int → Int)
  | 0, _, n, f => (n, f)
  | r + 1, k, n, f => if soT w N g (g (620 + (60 * s + 3 * k))) < 1 then wkS lo w N g s r (k + 1) n f else wkS lo w N g s r (k + 1) (wqW lo (wdW (soF w N g (g (620 + (60 * s + 3 * k)))) (soT w N g (g (620 + (60 * s + 3 * k)))) (g (621 + (60 * s + 3 * k))) (g (622 + (60 * s + 3 * k))) k) (soF w N g (g (620 + (60 * s + 3 * k)))) (soT w N g (g (620 + (60 * s + 3 * k)))) n f).1 (wqW lo (wdW (soF w N g (g (620 + (60 * s + 3 * k)))) (soT w N g (g (620 + (60 * s + 3 * k)))) (g (621 + (60 * s + 3 * k))) (g (622 + (60 * s + 3 * k))) k) (soF w N g (g (620 + (60 * s + 3 * k)))) (soT w N g (g (620 + (60 * s + 3 * k)))) n f).2
theorem wkS_0 {lo : Option (List (Int × List Int))} {w N : Int} {g : Int → Int} {s k : Int} (q : soT w N g (g (620 + (60 * s + 3 * k))) < 1) (r : Nat) (n : Int) (f : Int → Int) : wkS lo w N g s (r + 1) k n f = wkS lo w N g s r (k + 1) n f := if_pos q
theorem wkS_1 {lo : Option (List (Int × List Int))} {w N : Int} {g : Int → Int} {s k c wt hr T : Int} {G : Int → Int} (ec : g (620 + (60 * s + 3 * k)) = c) (ew : g (621 + (60 * s + 3 * k)) = wt) (eh : g (622 + (60 * s + 3 * k)) = hr) (eG : soF w N g c = G) (eT : soT w N g c = T) (q : ¬ T < 1) (r : Nat) (n : Int) (f : Int → Int) : wkS lo w N g s (r + 1) k n f = wkS lo w N g s r (k + 1) (wqW lo (wdW G T wt hr k) G T n f).1 (wqW lo (wdW G T wt hr k) G T n f).2 := by
  subst ec ew eh eG eT
  exact if_neg q
/-- a step's ground and numbers are well said -/
theorem stp_gd {w N : Int} {g : Int → Int} (hg : GOk w N g) {s k : Int} (hs : 0 ≤ s ∧ s ≤ 3) (hk : 0 ≤ k ∧ k < g (610 + s)) (q : ¬ soT w N g (g (620 + (60 * s + 3 * k))) < 1) : gdI (soF w N g (g (620 + (60 * s + 3 * k)))) (soT w N g (g (620 + (60 * s + 3 * k)))) (g (621 + (60 * s + 3 * k))) (g (622 + (60 * s + 3 * k))) k := by
  have b := hg.spb s k hs.1 (by omega) hk.1 hk.2
  have c := hg.spc s hs.1 (by omega)
  exact ⟨fun s a b => soF_rng hg ⟨a, b⟩, soT_F _ _ _ _, by omega, b.2.1, b.2.2, by omega⟩
theorem wkS_ok {lo : Option (List (Int × List Int))} {w N : Int} {g : Int → Int} (hg : GOk w N g) {s : Int} (hs : 0 ≤ s ∧ s ≤ 3) : ∀ (r : Nat) (k n : Int) (f : Int → Int), 0 ≤ k → k + (r : Int) = g (610 + s) → wkI n f → wkI (wkS lo w N g s r k n f).1 (wkS lo w N g s r k n f).2
  | 0, _, _, _, _, _, I => I
  | r + 1, k, n, f, h0, e, I => by
    by_cases q : soT w N g (g (620 + (60 * s + 3 * k))) < 1
    · rw [wkS_0 q]
      exact wkS_ok hg hs r (k + 1) n f (by omega) (by omega) I
    · rw [wkS_1 rfl rfl rfl rfl rfl q]
      exact wkS_ok hg hs r (k + 1) _ _ (by omega) (by omega) (wqW_ok (stp_gd hg hs ⟨h0, by omega⟩ q) I)
/-- the walk of a story from its start -/
noncomputable def wkW (lo : Option (List (Int × List Int))) (w N : Int) (g : Int → Int) (s : Int) : Int × (Int → Int) := wkS lo w N g s (g (610 + s)).toNat 0 0 (fun _ => 0)
theorem wkI_0 (f : Int → Int) : wkI 0 f := ⟨by decide, fun k a b => absurd b (by omega), fun l a b => absurd b (by omega)⟩
theorem wkW_ok {lo : Option (List (Int × List Int))} {w N : Int} {g : Int → Int} (hg : GOk w N g) {s : Int} (hs : 0 ≤ s ∧ s ≤ 3) : wkI (wkW lo w N g s).1 (wkW lo w N g s).2 := wkS_ok hg hs _ 0 0 _ (Int.le_refl _) (by have := hg.spc s hs.1 (by omega); omega) (wkI_0 _)

theorem U_216 {X : Int × (Int → Int)} {d : Nat} {Q : Int → XH → Prop} (hd : 1 ≤ d) (s : Int) (H : XH) (h : ((((0 ≤ s ∧ s ≤ 3)) → xq X d 216 Q 32 [(0, (2, 58)), (1, (2, 1)), (3, (0, s)), (4, (0, 0))] [] (xup (xup (xup H 58 6 51) 58 7 (H 1 6)) 59 1 0)) ∧ (¬ ((0 ≤ s ∧ s ≤ 3)) → Q 0 (xup (xup (xup H 58 6 51) 58 7 (H 1 6)) 59 1 0)))) : xc X (d + 1) 216 [(2, 58), (2, 1), (2, 51), (0, s)] H Q := by
  refine ⟨rfl, ?_⟩
  show xq X d 216 Q 100000 [(0, (2, 58)), (1, (2, 1)), (2, (2, 51)), (3, (0, s))] [] H
  refine xq_run [25, 32, 62, 70, 89, 106, 127] 300 ?_
  show xWM (xE X) xMC d 198 [(0, s)] xKZ (xup (xup (xup H 58 6 51) 58 7 (H 1 6)) 59 1 0) _
  refine xc_in (s_198 (by omega) s (xup (xup (xup H 58 6 51) 58 7 (H 1 6)) 59 1 0)  ?_)
  replace h := h
  show xq X d 216 Q 25 [(0, (2, 58)), (1, (2, 1)), (2, (2, 51)), (3, (0, s))] [(0, xb (0 ≤ s ∧ s ≤ 3))] (xup (xup (xup H 58 6 51) 58 7 (H 1 6)) 59 1 0)
  refine xq_run [25, 32, 62, 70, 89, 106, 127] 300 ?_
  show ((¬ xb (0 ≤ s ∧ s ≤ 3) = 0) → xq X d 216 Q 32 [(0, (2, 58)), (1, (2, 1)), (3, (0, s)), (4, (0, 0))] [] (xup (xup (xup H 58 6 51) 58 7 (H 1 6)) 59 1 0)) ∧ (¬ (¬ xb (0 ≤ s ∧ s ≤ 3) = 0) → xfR 2 0 ∧ xKZ = xKZ ∧ Q 0 (xup (xup (xup H 58 6 51) 58 7 (H 1 6)) 59 1 0))
  refine ⟨fun k_ => ?_, fun k_ => ?_⟩
  · replace h := h.1 (xbe_1.mp k_)
    exact h
  · replace h := h.2 (xbe_n.mp k_)
    exact ⟨trivial, rfl, h⟩
theorem U_216_32 {X : Int × (Int → Int)} {d : Nat} {Q : Int → XH → Prop} (hd : 4 ≤ d) (v3 v4 : Int) (H : XH) (h : ((0 : Int) ≤ v3 ∧ (v3 : Int) < 4) ∧ ((H 14 v3 ≤ v4) → Q 0 H) ∧ (¬ (H 14 v3 ≤ v4) → (xc X d 204 [(2, 12), (0, v3), (0, v4), (0, 0)] H (fun (J1935 : Int) (h1934 : XH) => (1 ≤ h1934 2 0 ∧ h1934 2 0 ≤ 8) ∧ (0 ≤ h1934 2 2 ∧ h1934 2 2 ≤ 64) ∧ (0 ≤ J1935 ∧ J1935 < h1934 2 2) ∧ ((0 : Int) ≤ 0 ∧ (0 : Int) + 5 ≤ 5) ∧ (∀ k, 0 ≤ k → k < 320 → 0 ≤ h1934 3 k ∧ h1934 3 k ≤ 9) ∧ ((xc X d 204 [(2, 12), (0, v3), (0, v4), (0, 1)] (xup (xset h1934 61 (fun k => if 0 ≤ k ∧ k < 0 + 5 then soilF (h1934 2 0) (h1934 2 2) (fun e => h1934 4 e) (fun e => h1934 5 e) (fun k => h1934 3 k) J1935 (k - 0) else h1934 61 k)) 58 2 (soilT (h1934 2 0) (h1934 2 2) (fun e => h1934 4 e) (fun e => h1934 5 e) (fun k => h1934 3 k) J1935)) (fun (J1937 : Int) (h1936 : XH) => (xc X d 204 [(2, 12), (0, v3), (0, v4), (0, 2)] (xup h1936 62 0 J1937) (fun (J1939 : Int) (h1938 : XH) => ((h1938 58 2 ≤ 0) → (xI (v4 + 1)) ∧ xq X d 216 Q 32 [(0, (2, 58)), (1, (2, 1)), (3, (0, v3)), (4, (0, v4 + 1))] [] (xup (xup h1938 62 1 J1939) 62 10 v4)) ∧ (¬ (h1938 58 2 ≤ 0) → (xc X d 215 [(2, 58)] (xup (xup h1938 62 1 J1939) 62 10 v4) (fun (J1941 : Int) (h1940 : XH) => (xI (v4 + 1)) ∧ xq X d 216 Q 32 [(0, (2, 58)), (1, (2, 1)), (3, (0, v3)), (4, (0, v4 + 1))] [] h1940)))))))))))) : xq X d 216 Q 32 [(0, (2, 58)), (1, (2, 1)), (3, (0, v3)), (4, (0, v4))] [] H := by
  show xq X d 216 Q 32 [(0, (2, 58)), (1, (2, 1)), (3, (0, v3)), (4, (0, v4))] [] H
  refine xq_run [25, 32, 62, 70, 89, 106, 127] 300 ?_
  show ((0 : Int) ≤ v3 ∧ (v3 : Int) < 4) ∧ ((H 14 v3 ≤ v4) → xfR 2 0 ∧ xKZ = xKZ ∧ Q 0 H) ∧ (¬ (H 14 v3 ≤ v4) → xWM (xE X) xMC d 204 [(2, 12), (0, v3), (0, v4), (0, 0)] xKZ H _)
  refine ⟨h.1, ?_⟩
  replace h := h.2
  refine ⟨fun k_ => ?_, fun k_ => ?_⟩
  · replace h := h.1 k_
    exact ⟨trivial, rfl, h⟩
  · replace h := h.2 k_
    refine xc_in (xc_mono (fun J1935 h1934 q_ => ?_) h)
    replace h := q_
    show xq X d 216 Q 62 [(0, (2, 58)), (1, (2, 1)), (3, (0, v3)), (4, (0, v4))] [(0, J1935), (2, 2), (2, 58)] h1934
    refine xq_run [25, 32, 62, 70, 89, 106, 127] 300 ?_
    show xWM (xE X) xMC d 37 [(2, 2), (0, J1935), (2, 61), (0, 0)] xKZ h1934 _
    refine xc_in (s_37_a61 (by omega) J1935 0 h1934 (h.1) (h.2.1) (h.2.2.1) (h.2.2.2.1) (h.2.2.2.2.1) ?_)
    replace h := h.2.2.2.2.2
    show xq X d 216 Q 70 [(0, (2, 58)), (1, (2, 1)), (3, (0, v3)), (4, (0, v4))] [(0, soilT (h1934 2 0) (h1934 2 2) (fun e => h1934 4 e) (fun e => h1934 5 e) (fun k => h1934 3 k) J1935), (2, 58)] (xset h1934 61 (fun k => if 0 ≤ k ∧ k < 0 + 5 then soilF (h1934 2 0) (h1934 2 2) (fun e => h1934 4 e) (fun e => h1934 5 e) (fun k => h1934 3 k) J1935 (k - 0) else h1934 61 k))
    refine xq_run [25, 32, 62, 70, 89, 106, 127] 300 ?_
    show xWM (xE X) xMC d 204 [(2, 12), (0, v3), (0, v4), (0, 1)] xKZ (xup (xset h1934 61 (fun k => if 0 ≤ k ∧ k < 0 + 5 then soilF (h1934 2 0) (h1934 2 2) (fun e => h1934 4 e) (fun e => h1934 5 e) (fun k => h1934 3 k) J1935 (k - 0) else h1934 61 k)) 58 2 (soilT (h1934 2 0) (h1934 2 2) (fun e => h1934 4 e) (fun e => h1934 5 e) (fun k => h1934 3 k) J1935)) _
    refine xc_in (xc_mono (fun J1937 h1936 q_ => ?_) h)
    replace h := q_
    show xq X d 216 Q 89 [(0, (2, 58)), (1, (2, 1)), (3, (0, v3)), (4, (0, v4))] [(0, J1937), (0, 0), (2, 62)] h1936
    refine xq_run [25, 32, 62, 70, 89, 106, 127] 300 ?_
    show ((0 : Int) ≤ 0 ∧ (0 : Int) < 11) ∧ xWM (xE X) xMC d 204 [(2, 12), (0, v3), (0, v4), (0, 2)] xKZ (xup h1936 62 0 J1937) _
    refine ⟨⟨by decide, by decide⟩, ?_⟩
    refine xc_in (xc_mono (fun J1939 h1938 q_ => ?_) h)
    replace h := q_
    show xq X d 216 Q 106 [(0, (2, 58)), (1, (2, 1)), (3, (0, v3)), (4, (0, v4))] [(0, J1939), (0, 1), (2, 62)] h1938
    refine xq_run [25, 32, 62, 70, 89, 106, 127] 300 ?_
    show ((0 : Int) ≤ 1 ∧ (1 : Int) < 11) ∧ ((0 : Int) ≤ 10 ∧ (10 : Int) < 11) ∧ ((h1938 58 2 ≤ 0) → xq X d 216 Q 127 [(0, (2, 58)), (1, (2, 1)), (3, (0, v3)), (4, (0, v4))] [] (xup (xup h1938 62 1 J1939) 62 10 v4)) ∧ (¬ (h1938 58 2 ≤ 0) → xWM (xE X) xMC d 215 [(2, 58)] xKZ (xup (xup h1938 62 1 J1939) 62 10 v4) _)
    refine ⟨⟨by decide, by decide⟩, ?_⟩
    refine ⟨⟨by decide, by decide⟩, ?_⟩
    refine ⟨fun k_ => ?_, fun k_ => ?_⟩
    · replace h := h.1 k_
      show xq X d 216 Q 127 [(0, (2, 58)), (1, (2, 1)), (3, (0, v3)), (4, (0, v4))] [] (xup (xup h1938 62 1 J1939) 62 10 v4)
      refine xq_run [25, 32, 62, 70, 89, 106, 127] 300 ?_
      show (xI (v4 + 1)) ∧ xq X d 216 Q 32 [(0, (2, 58)), (1, (2, 1)), (3, (0, v3)), (4, (0, v4 + 1))] [] (xup (xup h1938 62 1 J1939) 62 10 v4)
      refine ⟨h.1, ?_⟩
      replace h := h.2
      exact h
    · replace h := h.2 k_
      refine xc_in (xc_mono (fun J1941 h1940 q_ => ?_) h)
      replace h := q_
      show xq X d 216 Q 127 [(0, (2, 58)), (1, (2, 1)), (3, (0, v3)), (4, (0, v4))] [] h1940
      refine xq_run [25, 32, 62, 70, 89, 106, 127] 300 ?_
      show (xI (v4 + 1)) ∧ xq X d 216 Q 32 [(0, (2, 58)), (1, (2, 1)), (3, (0, v3)), (4, (0, v4 + 1))] [] h1940
      refine ⟨h.1, ?_⟩
      replace h := h.2
      exact h

/-- the law that is now, as the class has it -/
def loC (lo : Option (List (Int × List Int))) (H : XH) : Prop := match lo with
  | none => H 1 6 = -1
  | some L => ∃ t, H 1 6 = t ∧ (0 ≤ t ∧ t ≤ 3) ∧ lawC t L H
theorem s_216w {X : Int × (Int → Int)} {d : Nat} {Q : Int → XH → Prop} (hd : 12 ≤ d) {lo : Option (List (Int × List Int))} (s : Int) (H : XH) (hi : InvS H) (hl : loC lo H) (ps : 0 ≤ s ∧ s ≤ 3) (hQ : ∀ h1, wF H h1 → (h1 59 1 = (wkW lo (H 67 0) (H 67 1) (H 68) s).1 ∧ ∀ k, 0 ≤ k → k < 5 * (wkW lo (H 67 0) (H 67 1) (H 68) s).1 → h1 60 k = (wkW lo (H 67 0) (H 67 1) (H 68) s).2 k) → Q 0 h1) : xc X d 216 [(2, 58), (2, 1), (2, 51), (0, s)] H Q := by
  cases d with
  | zero => omega
  | succ d =>
  have hg := hi.1
  have hs := hi.2
  have nn := hg.nn
  have ww := hg.ww
  have l2 := hs.l2
  have hc := hs.c
  have lyb := hg.lyb
  have bnd := hg.bnd
  have l0 := hs.l0
  have cnt := hg.spc s ps.1 (by omega)
  have sc := hs.sc s ps.1 (by omega)
  unfold wkW at hQ
  generalize eZ : wkS lo (H 67 0) (H 67 1) (H 68) s (H 68 (610 + s)).toNat 0 0 (fun _ => 0) = Z at hQ
  have key : ∀ (r : Nat) (k n : Int) (f : Int → Int) (h' : XH), k + (r : Int) = H 68 (610 + s) → 0 ≤ k → wF H h' → h' 58 6 = 51 → lwC lo h' → h' 59 1 = n → (∀ j, 0 ≤ j → j < 5 * n → h' 60 j = f j) → wkI n f → wkS lo (H 67 0) (H 67 1) (H 68) s r k n f = Z → xq X d 216 Q 32 [(0, (2, 58)), (1, (2, 1)), (3, (0, s)), (4, (0, k))] [] h' := by
    intro r
    induction r with
    | zero =>
      intro k n f h' ek h0 F k6 k7 kn kf I ez
      have e14 : h' 14 s = H 68 (610 + s) := by rw [F 14 (by decide)]; exact sc
      have z := hQ h' F (by rw [← ez]; exact ⟨kn, kf⟩)
      refine U_216_32 (by omega) s k h' ?_
      rw [e14]
      refine ⟨?_, ?_⟩
      · first | omega | (unfold xI; omega) | (unfold xJ; omega) | (exfalso; omega)
      refine ⟨fun c1 => ?_, fun c1 => ?_⟩
      · skip
        exact z
      · skip
        exfalso
        omega
    | succ r ih =>
      intro k n f h' ek h0 F k6 k7 kn kf I ez
      have e14 : h' 14 s = H 68 (610 + s) := by rw [F 14 (by decide)]; exact sc
      have bb := hg.spb s k ps.1 (by omega) h0 (by omega)
      obtain ⟨c, ec⟩ : ∃ c, H 68 (620 + (60 * s + 3 * k)) = c := ⟨_, rfl⟩
      obtain ⟨wt, ew⟩ : ∃ c, H 68 (621 + (60 * s + 3 * k)) = c := ⟨_, rfl⟩
      obtain ⟨hr, eh⟩ : ∃ c, H 68 (622 + (60 * s + 3 * k)) = c := ⟨_, rfl⟩
      have p13 : ∀ i, 0 ≤ i → i ≤ 2 → h' 13 ((s * 20 + k) * 3 + i) = H 68 (620 + i + (60 * s + 3 * k)) := fun i p q => by
        rw [F 13 (by decide), hs.sp _ (by omega) (by omega), show 620 + ((s * 20 + k) * 3 + i) = 620 + i + (60 * s + 3 * k) by omega]
      have q0 : h' 13 ((s * 20 + k) * 3 + 0) = c := (p13 0 (by decide) (by decide)).trans ec
      have q1 : h' 13 ((s * 20 + k) * 3 + 1) = wt := (p13 1 (by decide) (by decide)).trans ew
      have q2 : h' 13 ((s * 20 + k) * 3 + 2) = hr := (p13 2 (by decide) (by decide)).trans eh
      have f2 := F 2 (by decide)
      have f3 := F 3 (by decide)
      have f4 := F 4 (by decide)
      have f5 := F 5 (by decide)
      rw [ec, ew, eh] at bb
      have hS : ∀ j, 0 ≤ j → j < 5 → soilF (h' 2 0) (h' 2 2) (fun e => h' 4 e) (fun e => h' 5 e) (fun k => h' 3 k) c j = soF (H 67 0) (H 67 1) (H 68) c j := fun j a b => by
        rw [f2, f3, f4, f5, l0, l2]
        exact soilF_congr nn.2 (fun e a b => hs.i e a (by omega)) (fun e a b => hs.o e a (by omega)) hs.d bb.1 ⟨a, b⟩
      have hT : soilT (h' 2 0) (h' 2 2) (fun e => h' 4 e) (fun e => h' 5 e) (fun k => h' 3 k) c = soT (H 67 0) (H 67 1) (H 68) c := by
        rw [f2, f3, f4, f5, l0, l2]
        exact soilT_congr nn.2 (fun e a b => hs.i e a (by omega)) (fun e a b => hs.o e a (by omega)) hs.d bb.1
      have g20 : 1 ≤ h' 2 0 ∧ h' 2 0 ≤ 8 := by rw [f2]; omega
      have g22 : (0 ≤ h' 2 2 ∧ h' 2 2 ≤ 64) ∧ h' 2 2 = H 67 1 := by rw [f2]; omega
      have g3 : ∀ k, 0 ≤ k → k < 320 → 0 ≤ h' 3 k ∧ h' 3 k ≤ 9 := fun k a b => by
        rw [f3, hs.d k a b]
        exact hg.amb k a b
      have nxt : ∀ (hB hC : XH), hB = xup (xset h' 61 (fun k => if 0 ≤ k ∧ k < 0 + 5 then soilF (h' 2 0) (h' 2 2) (fun e => h' 4 e) (fun e => h' 5 e) (fun k => h' 3 k) c (k - 0) else h' 61 k)) 58 2 (soilT (h' 2 0) (h' 2 2) (fun e => h' 4 e) (fun e => h' 5 e) (fun k => h' 3 k) c) → hC = xup hB 62 0 wt → wF H (xup (xup hC 62 1 hr) 62 10 k) ∧ hC 58 2 = soT (H 67 0) (H 67 1) (H 68) c ∧ (xup (xup hC 62 1 hr) 62 10 k) 58 6 = 51 ∧ lwC lo (xup (xup hC 62 1 hr) 62 10 k) ∧ (xup (xup hC 62 1 hr) 62 10 k) 59 1 = n ∧ (∀ j, 0 ≤ j → j < 5 * n → (xup (xup hC 62 1 hr) 62 10 k) 60 j = f j) ∧ wCo lo n f (soF (H 67 0) (H 67 1) (H 68) c) (soT (H 67 0) (H 67 1) (H 68) c) wt hr k (xup (xup hC 62 1 hr) 62 10 k) := fun hB hC eB eC => by
        have o' : ∀ o, ¬ o = 58 → ¬ o = 61 → ¬ o = 62 → xup (xup hC 62 1 hr) 62 10 k o = h' o := fun o a b e => by
          rw [xup_ne e, xup_ne e, eC, xup_ne e, eB, xup_ne a, xset_o b]
        have o58 : ∀ j, ¬ j = 2 → xup (xup hC 62 1 hr) 62 10 k 58 j = h' 58 j := fun j a => by
          rw [xup_ne (by decide), xup_ne (by decide), eC, xup_ne (by decide), eB, xup_k a, xset_o (by decide)]
        have c58 : hC 58 2 = soT (H 67 0) (H 67 1) (H 68) c := by
          rw [eC, xup_ne (by decide), eB, xup_self]
          exact hT
        have FF : wF H (xup (xup hC 62 1 hr) 62 10 k) := fun o q => (o' o (by omega) (by omega) (by omega)).trans (F o q)
        have a6 := (o58 6 (by decide)).trans k6
        have a7 : lwC lo (xup (xup hC 62 1 hr) 62 10 k) := lwC_fr (o' 53 (by decide) (by decide) (by decide)) (o' 54 (by decide) (by decide) (by decide)) (o58 7 (by decide)) k7
        have a1 : (xup (xup hC 62 1 hr) 62 10 k) 59 1 = n := by rw [o' 59 (by decide) (by decide) (by decide)]; exact kn
        have a60 : ∀ j, 0 ≤ j → j < 5 * n → (xup (xup hC 62 1 hr) 62 10 k) 60 j = f j := by rw [o' 60 (by decide) (by decide) (by decide)]; exact kf
        refine ⟨FF, c58, a6, a7, a1, a60, a6, a7, ?_, fun j p q => ?_, ⟨a1, a60⟩, ?_, ?_, xup_self _ _ _ _⟩
        · rw [xup_ne (by decide), xup_ne (by decide)]
          exact c58
        · rw [xup_ne (by decide), xup_ne (by decide), eC, xup_ne (by decide), eB, xup_ne (by decide), xset_at, if_pos ⟨p, by omega⟩, Int.sub_zero]
          exact hS j p q
        · rw [xup_k (by decide), xup_k (by decide), eC, xup_self]
        · rw [xup_k (by decide), xup_self]
      refine U_216_32 (by omega) s k h' ?_
      rw [e14]
      refine ⟨?_, ?_⟩
      · first | omega | exact g20 | exact g22.1 | exact g3 | (unfold xI; omega) | (exfalso; omega)
      refine ⟨fun c1 => ?_, fun c1 => ?_⟩
      · skip
        exfalso
        omega
      · skip
        refine s_204u (by omega) s k 0 (by omega) q0 ?_
        refine ⟨?_, ?_⟩
        · first | omega | exact g20 | exact g22.1 | exact g3 | (unfold xI; omega) | (exfalso; omega)
        refine ⟨?_, ?_⟩
        · first | omega | exact g20 | exact g22.1 | exact g3 | (unfold xI; omega) | (exfalso; omega)
        refine ⟨?_, ?_⟩
        · first | omega | exact g20 | exact g22.1 | exact g3 | (unfold xI; omega) | (exfalso; omega)
        refine ⟨?_, ?_⟩
        · first | omega | exact g20 | exact g22.1 | exact g3 | (unfold xI; omega) | (exfalso; omega)
        refine ⟨?_, ?_⟩
        · first | omega | exact g20 | exact g22.1 | exact g3 | (unfold xI; omega) | (exfalso; omega)
        refine s_204w (by omega) s k 1 (v := wt) (by omega) (by rw [xup_ne (by decide), xset_o (by decide)]; exact q1) (fun hB eB => ?_)
        refine s_204w (by omega) s k 2 (v := hr) (by omega) (by rw [xup_ne (by decide), eB, xup_ne (by decide), xset_o (by decide)]; exact q2) (fun hC eC => ?_)
        obtain ⟨N1, N2, N6, N7, Nn, Nf, NK⟩ := nxt hB hC eB eC
        refine ⟨fun c2 => ?_, fun c2 => ?_⟩
        · skip
          refine ⟨?_, ?_⟩
          · first | omega | exact g20 | exact g22.1 | exact g3 | (unfold xI; omega) | (exfalso; omega)
          exact ih (k + 1) n f _ (by omega) (by omega) N1 N6 N7 Nn Nf I (by rw [← wkS_0 (by rw [ec]; omega)]; exact ez)
        · skip
          have q : ¬ soT (H 67 0) (H 67 1) (H 68) c < 1 := by omega
          have gd : gdI (soF (H 67 0) (H 67 1) (H 68) c) (soT (H 67 0) (H 67 1) (H 68) c) wt hr k := by
            have z := stp_gd hg ps (k := k) ⟨h0, by omega⟩ (by rw [ec]; exact q)
            rw [ec, ew, eh] at z
            exact z
          refine s_215w (by omega) NK I gd (fun hD FD KD => ?_)
          refine ⟨?_, ?_⟩
          · first | omega | exact g20 | exact g22.1 | exact g3 | (unfold xI; omega) | (exfalso; omega)
          exact ih (k + 1) _ _ hD (by omega) (by omega) (wF_trans N1 FD) KD.1 KD.2.1 KD.2.2.2.2.1.1 KD.2.2.2.2.1.2 (wqW_ok gd I) (by rw [← wkS_1 ec ew eh rfl rfl q]; exact ez)
  refine U_216 (by omega) s H ?_
  refine ⟨fun c1 => ?_, fun c1 => ?_⟩
  · skip
    exact key (H 68 (610 + s)).toNat 0 0 (fun _ => 0) _ (by omega) (by decide) (wF_up (wF_up (wF_up (wF_refl H) (by decide)) (by decide)) (by decide)) (by rw [xup_ne (by decide), xup_k (by decide), xup_self]) (by cases lo with | none => exact hl | some L => exact hl) (xup_self _ _ _ _) (fun j a b => absurd b (by omega)) (wkI_0 _) eZ
  · skip
    exfalso
    omega
