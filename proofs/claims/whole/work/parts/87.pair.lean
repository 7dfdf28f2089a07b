/-! THE PURE LAYER 57: the pair law -/
/-- law t of both sides -/
def lawP (t : Int) (H : XH) : Prop := ∃ L : List (Int × List Int), (∀ p ∈ L, clOk p) ∧ L.length ≤ 10 ∧ (clF L).length ≤ 300 ∧ H 54 t = ((clF L).length : Int) ∧ (∀ k : Nat, k < (clF L).length → H 53 (300 * t + k) = (clF L).getD k 0) ∧ H 71 t = (L.length : Int) ∧ (∀ k : Nat, k < L.length → H 72 (10 * t + k) = ((clO 0 L).getD k (0, 0)).1 ∧ H 73 (10 * t + k) = 400 * t + ((clO 0 L).getD k (0, 0)).2) ∧ ∀ k : Nat, k < (clF L).length → orR ((clF L).getD k 0) (H 74 (400 * t + k)) (H 75 (400 * t + k))
def InvL (H : XH) : Prop := ∀ t, 0 ≤ t → t < H 68 2 → lawP t H
theorem lawP_fr {t : Int} {H H' : XH} (h54 : H' 54 t = H 54 t) (h53 : ∀ j, 300 * t ≤ j → j < 300 * t + 300 → H' 53 j = H 53 j) (h71 : H' 71 t = H 71 t) (h72 : ∀ j, 10 * t ≤ j → j < 10 * t + 10 → H' 72 j = H 72 j ∧ H' 73 j = H 73 j) (h74 : ∀ j, 400 * t ≤ j → j < 400 * t + 400 → H' 74 j = H 74 j ∧ H' 75 j = H 75 j) (h : lawP t H) : lawP t H' := by
  obtain ⟨L, a, b, c, e, f, g, k, l⟩ := h
  refine ⟨L, a, b, c, by rw [h54]; exact e, fun j q => by rw [h53 _ (by omega) (by omega)]; exact f j q, by rw [h71]; exact g, fun j q => ?_, fun j q => ?_⟩
  · have z := h72 (10 * t + j) (by omega) (by omega)
    rw [z.1, z.2]
    exact k j q
  · have z := h74 (400 * t + j) (by omega) (by omega)
    rw [z.1, z.2]
    exact l j q
theorem InvS_law {H H' : XH} (hi : InvS H) (ho : ∀ o, 2 ≤ o → o < 20 → H' o = H o) (h0 : H' 67 0 = H 67 0) (h1 : H' 67 1 = H 67 1) (h68 : ∀ k, ¬ k = 2 → H' 68 k = H 68 k) (h682 : H' 68 2 = H 68 2 + 1) (hl : H 68 2 < 4) (h15 : H' 1 5 = H' 68 2) (h16 : H' 1 6 = H 1 6) : InvS H' := by
  have hg := hi.1
  have hs := hi.2
  have lw := hg.lwb
  have lt := hg.lwt
  have n6 := hs.n6
  have a' : ∀ o, (2 ≤ o ∧ o < 20) → H' o = H o := fun o q => ho o q.1 q.2
  unfold InvS
  rw [h0, h1, a' 2 (by decide), a' 3 (by decide), a' 4 (by decide), a' 5 (by decide), a' 6 (by decide), a' 7 (by decide), a' 8 (by decide), a' 9 (by decide), a' 10 (by decide), a' 11 (by decide), a' 13 (by decide), a' 14 (by decide), a' 15 (by decide), a' 16 (by decide), a' 17 (by decide), a' 18 (by decide), a' 19 (by decide)]
  refine ⟨GOk_lw (g := H 68) hg (fun k hk => h68 k (by omega)) (by omega) ?_, SRel_lw (g := H 68) hg hs (fun k hk => h68 k (by omega)) h15 ?_⟩
  · rw [h68 3 (by decide)]
    omega
  · rw [h68 3 (by decide), h16]
    exact n6
/-- what the pair law owes -/
def llOk (H : XH) (r r' : Int) (H' : XH) : Prop := r' = r ∧ InvS H' ∧ InvT H' ∧ InvF H' ∧ InvL H' ∧ H 68 2 ≤ H' 68 2 ∧ (∀ o, ¬ o = 1 → ¬ (51 ≤ o ∧ o ≤ 57) → ¬ o = 67 → ¬ o = 68 → ¬ (71 ≤ o ∧ o ≤ 75) → ¬ (86 ≤ o ∧ o ≤ 93) → H' o = H o) ∧ ∀ k, k < 5 → H' 67 k = H 67 k

theorem U_168 {X : Int × (Int → Int)} {d : Nat} {Q : Int → XH → Prop} (hd : 0 ≤ d) (H : XH) (h : ((4 ≤ H 1 5) → Q (-1) H) ∧ (¬ (4 ≤ H 1 5) → (xc X d 167 [(2, 51), (0, H 1 5)] H (fun (J1631 : Int) (h1630 : XH) => ((¬ J1631 = 0) → (xI ((h1630 1 5) + 1)) ∧ (xI (((h1630 1 5) + 1) - 1)) ∧ Q (((h1630 1 5) + 1) - 1) (xup h1630 1 5 ((h1630 1 5) + 1))) ∧ (¬ (¬ J1631 = 0) → Q (-1) h1630))))) : xc X (d + 1) 168 [(2, 0)] H Q := by
  refine ⟨rfl, ?_⟩
  show xq X d 168 Q 100000 [(0, (2, 0))] [] H
  refine xq_run [25] 300 ?_
  show ((4 ≤ H 1 5) → xfR 0 (-1) ∧ xKZ = xKZ ∧ Q (-1) H) ∧ (¬ (4 ≤ H 1 5) → xWM (xE X) xMC d 167 [(2, 51), (0, H 1 5)] xKZ H _)
  refine ⟨fun k_ => ?_, fun k_ => ?_⟩
  · replace h := h.1 k_
    exact ⟨trivial, rfl, h⟩
  · replace h := h.2 k_
    refine xc_in (xc_mono (fun J1631 h1630 q_ => ?_) h)
    replace h := q_
    show xq X d 168 Q 25 [(0, (2, 0))] [(0, J1631)] h1630
    refine xq_run [25] 300 ?_
    show ((¬ J1631 = 0) → (xI ((h1630 1 5) + 1)) ∧ (xI (((h1630 1 5) + 1) - 1)) ∧ xfR 0 (((h1630 1 5) + 1) - 1) ∧ xKZ = xKZ ∧ Q (((h1630 1 5) + 1) - 1) (xup h1630 1 5 ((h1630 1 5) + 1))) ∧ (¬ (¬ J1631 = 0) → xfR 0 (-1) ∧ xKZ = xKZ ∧ Q (-1) h1630)
    refine ⟨fun k_ => ?_, fun k_ => ?_⟩
    · replace h := h.1 k_
      refine ⟨h.1, ?_⟩
      replace h := h.2
      refine ⟨h.1, ?_⟩
      replace h := h.2
      exact ⟨trivial, rfl, h⟩
    · replace h := h.2 k_
      exact ⟨trivial, rfl, h⟩

theorem p_law {X : Int × (Int → Int)} {d : Nat} (hd : 34 ≤ d) (H : XH) (hi : InvS H) (ht : InvT H) (hf : InvF H) (hL : InvL H) : xc X d 168 [(2, 0)] H (fun r H1 => xc X d 193 [(2, 67)] H1 (llOk H r)) := by
  cases d with
  | zero => omega
  | succ d =>
  have hg := hi.1
  have hs := hi.2
  have lw := hg.lwb
  have lt := hg.lwt
  have n5 := hs.n5
  have n6 := hs.n6
  obtain ⟨t1, t2, t3⟩ := id ht
  have chars : ∀ i, 0 ≤ i → i < H 51 3 → 0 ≤ H 52 i ∧ H 52 i ≤ 255 := fun i a b => by
    have := byR_o (t3 i a b)
    omega
  -- a text is read: both sides
  have both : H 68 2 < 4 → ∀ (E : Int → Int) (H0 : XH) (r : Int) (h1 : XH), rBg H (H 68 2) E H0 → riP H0 r h1 → (r = 1 → xc X (d + 1) 193 [(2, 67)] (xup h1 1 5 (H 68 2 + 1)) (llOk H (H 68 2))) ∧ (r = 0 → xc X (d + 1) 193 [(2, 67)] h1 (llOk H (-1))) := by
    intro h4 E H0 r h1 bg ri
    obtain ⟨k1, k2, k3, k4, k5, k6, k7, k8⟩ := bg
    rcases ri with ⟨hr, L, i, ta, lo, L1, L2, L3, L4, L5, L6, ⟨kk, L7⟩⟩ | ⟨hr, f, e, s', F1, F2, F3, ⟨kk, F4⟩, F5, F6⟩
    · refine ⟨fun _ => ?_, fun q => absurd (hr.symm.trans q) (by decide)⟩
      have ho : ∀ o, ¬ o = 51 → ¬ (53 ≤ o ∧ o ≤ 57) → h1 o = H o := fun o a b => (L2.1 o a (by omega) (by omega)).trans (k1 o a (by omega) (by omega) (by omega) (by omega))
      have h51 : ∀ k, k < 11 → h1 51 k = H0 51 k := fun k a => L2.2.1 k (by omega) (by omega) (by omega) (by omega)
      obtain ⟨g, hgg⟩ : ∃ g, xup h1 1 5 (H 68 2 + 1) = g := ⟨_, rfl⟩
      have g1 : ∀ k, ¬ k = 5 → g 1 k = H 1 k := fun k a => by rw [← hgg, xup_k a, ho 1 (by decide) (by decide)]
      have g15 : g 1 5 = H 68 2 + 1 := by rw [← hgg, xup_self]
      have go : ∀ o, ¬ o = 1 → g o = h1 o := fun o a => by rw [← hgg, xup_ne a]
      have g67 : g 67 = H 67 := (go 67 (by decide)).trans (ho 67 (by decide) (by decide))
      have g68 : g 68 = H 68 := (go 68 (by decide)).trans (ho 68 (by decide) (by decide))
      have g70 : g 70 = H 70 := (go 70 (by decide)).trans (ho 70 (by decide) (by decide))
      rw [hgg]
      have ofs : ∀ (L : List (Int × List Int)) (n : Int), 0 ≤ n → ∀ p ∈ clO n L, n ≤ p.2 ∧ p.2 ≤ n + ((clF L).length : Int) := by
        intro L
        induction L with
        | nil => intro n _ p hp; cases hp
        | cons q L ih =>
          intro n hn p hp
          have el : (clF (q :: L)).length = q.2.length + ((clF L).length + 1) := by
            show (q.2 ++ (10000 + q.1) :: clF L).length = _
            rw [List.length_append]
            rfl
          rcases List.mem_cons.mp hp with z | z
          · rw [z]
            exact ⟨Int.le_refl _, by omega⟩
          · have y := ih (n + (q.2.length : Int) + 1) (by omega) p z
            omega
      have cl := clO_len L 0
      have tr := (TKS_rng k8).1
      refine s_193 (by omega) (t := H 52) (n := H 51 3) (T := H0 51 10) (B := H0 56) (K := H0 55) (N := H0 57) (E := E) g (by rw [g68]; omega) (by rw [g67]; exact t2) k8 (by rw [g70]; exact t3) t1 L7 (Or.inr ⟨rfl, L3, by show (clF L).length ≤ 300; omega, by show (clO 0 L).length ≤ 10; omega, fun p hp => by have z := ofs L 0 (by decide) p hp; omega⟩) (fun r' g2 lm => ?_)
      obtain ⟨m1, m2, m3, m4⟩ := lm
      have m4 := m4.resolve_left (fun z => absurd (show (10 : Int) ≤ 4 from z.1) (by decide))
      obtain ⟨-, n1, n2, n3, n4, n5', n6', n7, n8, n9, n10⟩ := m4
      rw [g68] at n1 n2 n5' n6' n7 n8 n9 n10
      have w1 : g2 1 = g 1 := m1 1 (by decide) (by decide) (by decide) (by decide)
      have w51 : g2 51 = h1 51 := (m1 51 (by decide) (by decide) (by decide) (by decide)).trans (go 51 (by decide))
      have w53 : g2 53 = h1 53 := (m1 53 (by decide) (by decide) (by decide) (by decide)).trans (go 53 (by decide))
      have w54 : g2 54 = h1 54 := (m1 54 (by decide) (by decide) (by decide) (by decide)).trans (go 54 (by decide))
      have w68 : ∀ k, g2 68 k = if k = 2 then H 68 2 + 1 else H 68 k := fun k => by rw [n2, xup_eq, g68]
      have w682 : g2 68 2 = H 68 2 + 1 := by rw [w68, if_pos rfl]
      refine ⟨n1, InvS_law hi (fun o a b => ?_) ?_ ?_ (fun k a => by rw [w68, if_neg a]) w682 h4 (by rw [w1, g15, w682]) (by rw [w1, g1 6 (by decide)]), ⟨?_, ?_, fun k a b => ?_⟩, ?_, ?_, by omega, fun o a b c e f g' => ?_, fun k a => ?_⟩
      · rw [m1 o (by omega) (by omega) (by omega) (by omega), go o (by omega), ho o (by omega) (by omega)]
      · rw [m2 0 (by decide) (by decide) (by decide) (by decide), g67]
      · rw [m2 1 (by decide) (by decide) (by decide) (by decide), g67]
      · rw [w51, h51 3 (by decide), k3]
        decide
      · rw [m3, w51, h51 3 (by decide), k3]
      · rw [w51, h51 3 (by decide), k3] at b
        omega
      · refine Or.inr ⟨?_, ?_, ?_⟩
        · rw [w51, h51 4 (by decide), k4]
          decide
        · rw [w51, h51 5 (by decide), k5, n3]
        · rw [w51, h51 6 (by decide), k6, n4]
      · intro t a b
        rw [w682] at b
        by_cases y : t = H 68 2
        · subst y
          refine ⟨L, L1, L6, by omega, ?_, fun k q => ?_, ?_, fun k q => ?_, n7⟩
          · have z := L2.2.2.2.2.2.1
            rw [k7] at z
            rw [w54]
            exact z
          · have z := L2.2.2.2.2.2.2.2.1 k q
            rw [k7] at z
            rw [w53]
            exact z
          · exact n5'.trans (by show ((clO 0 L).length : Int) = _; rw [cl])
          · exact n6' k (by show k < (clO 0 L).length; rw [cl]; exact q)
        · have hl := hL t a (by omega)
          refine lawP_fr (H := H) ?_ (fun j x z => ?_) ((n8 t y).trans (by rw [go 71 (by decide), ho 71 (by decide) (by decide)])) (fun j x z => ?_) (fun j x z => ?_) hl
          · rw [w54, L2.2.2.2.2.2.2.1 t (by rw [k7]; exact y), k2 t y]
          · rw [w53, L2.2.2.2.2.2.2.2.2 j (by rw [k7]; omega), k1 53 (by decide) (by decide) (by decide) (by decide) (by decide)]
          · have v := n9 j (by omega)
            rw [v.1, v.2, go 72 (by decide), go 73 (by decide), ho 72 (by decide) (by decide), ho 73 (by decide) (by decide)]
            exact ⟨rfl, rfl⟩
          · have v := n10 j (by omega)
            rw [v.1, v.2, go 74 (by decide), go 75 (by decide), ho 74 (by decide) (by decide), ho 75 (by decide) (by decide)]
            exact ⟨rfl, rfl⟩
      · rw [m1 o c e f g', go o a, ho o (by omega) (by omega)]
      · rw [m2 k (by omega) (by omega) (by omega) (by omega), g67]
    · refine ⟨fun q => absurd (hr.symm.trans q) (by decide), fun _ => ?_⟩
      have ho : ∀ o, ¬ o = 51 → ¬ (53 ≤ o ∧ o ≤ 57) → h1 o = H o := fun o a b => (F3.1 o a (by omega) (by omega)).trans (k1 o a (by omega) (by omega) (by omega) (by omega))
      have h51 : ∀ k, k < 5 → h1 51 k = H0 51 k := fun k a => F3.2.1 k (by omega) (by omega) (by omega) (by omega) (by omega) (by omega)
      have g67 : h1 67 = H 67 := ho 67 (by decide) (by decide)
      have g68 : h1 68 = H 68 := ho 68 (by decide) (by decide)
      have g70 : h1 70 = H 70 := ho 70 (by decide) (by decide)
      refine s_193 (by omega) (t := H 52) (n := H 51 3) (T := H0 51 10) (B := H0 56) (K := H0 55) (N := H0 57) (E := E) h1 (by rw [g68]; omega) (by rw [g67]; exact t2) k8 (by rw [g70]; exact t3) t1 F4 (Or.inl ⟨by omega, by omega⟩) (fun r' g2 lm => ?_)
      obtain ⟨m1, m2, m3, m4⟩ := lm
      have m4 := m4.resolve_right (fun z => by have := z.1; omega)
      obtain ⟨-, n1, n2, n3, n4, n5'⟩ := m4
      have w68 : g2 68 = H 68 := n2.trans g68
      have w51 : g2 51 = h1 51 := m1 51 (by decide) (by decide) (by decide) (by decide)
      have w53 : g2 53 = h1 53 := m1 53 (by decide) (by decide) (by decide) (by decide)
      have w54 : g2 54 = h1 54 := m1 54 (by decide) (by decide) (by decide) (by decide)
      have fo : ∀ o, ¬ (51 ≤ o ∧ o ≤ 57) → ¬ o = 67 → ¬ o = 68 → ¬ (71 ≤ o ∧ o ≤ 75) → ¬ (86 ≤ o ∧ o ≤ 93) → g2 o = H o := fun o a b c e f => (m1 o b c e f).trans (ho o (by omega) (by omega))
      have fk : ∀ k, k < 5 → g2 67 k = H 67 k := fun k a => by rw [m2 k (by omega) (by omega) (by omega) (by omega), g67]
      have fr : ∀ o, 71 ≤ o → o ≤ 75 → g2 o = H o := fun o a b => (n3 o a b).trans (ho o (by omega) (by omega))
      refine ⟨n1, frS_S ⟨fun o a b => fo o (by omega) (by omega) (by omega) (by omega) (by omega), w68, fo 69 (by decide) (by decide) (by decide) (by decide) (by decide), fk 0 (by decide), fk 1 (by decide)⟩ hi, ⟨?_, ?_, fun k a b => ?_⟩, ?_, ?_, by rw [w68]; exact Int.le_refl _, fun o a b c e f g' => fo o b c e f g', fk⟩
      · rw [w51, h51 3 (by decide), k3]
        decide
      · rw [m3, w51, h51 3 (by decide), k3]
      · rw [w51, h51 3 (by decide), k3] at b
        omega
      · refine Or.inr ⟨?_, ?_, ?_⟩
        · rw [w51, h51 4 (by decide), k4]
          decide
        · rw [w51, F3.2.2.1, n4, F5]
          omega
        · rw [w51, F3.2.2.2.1, n5', F6]
      · intro t a b
        rw [w68] at b
        have hl := hL t a b
        refine lawP_fr ?_ (fun j x z => ?_) (by rw [fr 71 (by decide) (by decide)]) (fun j x z => by rw [fr 72 (by decide) (by decide), fr 73 (by decide) (by decide)]; exact ⟨rfl, rfl⟩) (fun j x z => by rw [fr 74 (by decide) (by decide), fr 75 (by decide) (by decide)]; exact ⟨rfl, rfl⟩) hl
        · rw [w54, F3.2.2.2.2.1 t (by rw [k7]; omega), k2 t (by omega)]
        · rw [w53, F3.2.2.2.2.2 j (by rw [k7]; omega), k1 53 (by decide) (by decide) (by decide) (by decide) (by decide)]
  refine U_168 (by omega) H ?_
  rw [n5]
  refine ⟨fun c1 => ?_, fun c1 => ?_⟩
  · skip
    have same : llOk H (-1) (-1) H := ⟨rfl, hi, ht, hf, hL, Int.le_refl _, fun _ _ _ _ _ _ _ => rfl, fun _ _ => rfl⟩
    refine U_193 (by omega) H ?_
    refine ⟨fun cc1 => ?_, fun cc1 => ?_⟩
    · skip
      exfalso
      omega
    · skip
      exact same
  · skip
    refine s_167 (by omega) (H 68 2) H (by omega) t1 chars (fun E H0 J1633 h1632 bg ri => ?_)
    have r01 : J1633 = 1 ∨ J1633 = 0 := by rcases ri with ⟨q, -⟩ | ⟨q, -⟩ <;> omega
    have e1 : h1632 1 = H 1 := by
      have k1 := bg.1 1 (by decide) (by decide) (by decide) (by decide) (by decide)
      rcases ri with ⟨-, L, i, ta, lo, -, L2, -⟩ | ⟨-, f, e, s', -, -, F3, -⟩
      · exact (L2.1 1 (by decide) (by decide) (by decide)).trans k1
      · exact (F3.1 1 (by decide) (by decide) (by decide)).trans k1
    have e15 : h1632 1 5 = H 68 2 := (congrFun e1 5).trans n5
    have bb := both (by omega) E H0 J1633 h1632 bg ri
    refine ⟨fun c2 => ?_, fun c2 => ?_⟩
    · skip
      refine ⟨?_, ?_⟩
      · first | omega | (rw [e15]; unfold xI; omega) | (unfold xI; omega) | (exfalso; omega)
      refine ⟨?_, ?_⟩
      · first | omega | (rw [e15]; unfold xI; omega) | (unfold xI; omega) | (exfalso; omega)
      have bb := bb.1 (by omega)
      rw [e15, show H 68 2 + 1 - 1 = H 68 2 by omega]
      exact bb
    · skip
      exact bb.2 (by omega)
