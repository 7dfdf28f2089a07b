/-! THE PURE LAYER 45: the law is read: asks -/
theorem U_164 {X : Int × (Int → Int)} {d : Nat} {Q : Int → XH → Prop} (hd : 0 ≤ d) (H : XH) (h : xq X d 164 Q 2 [(0, (2, 51)), (1, (0, 0))] [] H) : xc X (d + 1) 164 [(2, 51)] H Q := by
  refine ⟨rfl, ?_⟩
  show xq X d 164 Q 100000 [(0, (2, 51))] [] H
  refine xq_run [2, 24, 27, 41, 47, 65, 85, 86, 90, 95, 109, 111, 123] 300 ?_
  show xq X d 164 Q 2 [(0, (2, 51)), (1, (0, 0))] [] H
  exact h
theorem U_164_2 {X : Int × (Int → Int)} {d : Nat} {Q : Int → XH → Prop} (hd : 0 ≤ d) (v1 : Int) (H : XH) (h : ((¬ H 51 12 = 6) → xq X d 164 Q 27 [(0, (2, 51)), (1, (0, v1))] [] H) ∧ (¬ (¬ H 51 12 = 6) → ((8 ≤ v1) → xq X d 164 Q 27 [(0, (2, 51)), (1, (0, v1))] [] H) ∧ (¬ (8 ≤ v1) → (xI (v1 + 1)) ∧ (xc X d 160 [(2, 51)] H (fun (J773 : Int) (h772 : XH) => xq X d 164 Q 2 [(0, (2, 51)), (1, (0, v1 + 1))] [] h772))))) : xq X d 164 Q 2 [(0, (2, 51)), (1, (0, v1))] [] H := by
  show xq X d 164 Q 2 [(0, (2, 51)), (1, (0, v1))] [] H
  refine xq_run [2, 24, 27, 41, 47, 65, 85, 86, 90, 95, 109, 111, 123] 300 ?_
  show ((¬ H 51 12 = 6) → xq X d 164 Q 27 [(0, (2, 51)), (1, (0, v1))] [] H) ∧ (¬ (¬ H 51 12 = 6) → ((8 ≤ v1) → xq X d 164 Q 27 [(0, (2, 51)), (1, (0, v1))] [] H) ∧ (¬ (8 ≤ v1) → (xI (v1 + 1)) ∧ xWM (xE X) xMC d 160 [(2, 51)] xKZ H _))
  refine ⟨fun k_ => ?_, fun k_ => ?_⟩
  · replace h := h.1 k_
    exact h
  · replace h := h.2 k_
    refine ⟨fun k_ => ?_, fun k_ => ?_⟩
    · replace h := h.1 k_
      exact h
    · replace h := h.2 k_
      refine ⟨h.1, ?_⟩
      replace h := h.2
      refine xc_in (xc_mono (fun J773 h772 q_ => ?_) h)
      replace h := q_
      show xq X d 164 Q 24 [(1, (0, v1 + 1)), (0, (2, 51))] [] h772
      refine xq_run [2, 24, 27, 41, 47, 65, 85, 86, 90, 95, 109, 111, 123] 300 ?_
      show xq X d 164 Q 2 [(0, (2, 51)), (1, (0, v1 + 1))] [] h772
      exact h
theorem U_164_27 {X : Int × (Int → Int)} {d : Nat} {Q : Int → XH → Prop} (hd : 1 ≤ d) (v1 : Int) (H : XH) (h : ((¬ H 51 12 = 6) → (xc X d 163 [(2, 51), (0, v1)] H (fun (J775 : Int) (h774 : XH) => ((¬ J775 = 0) → ((((30 ≤ (h774 51 12) ∧ (h774 51 12) ≤ 33)) → xq X d 164 Q 86 [(2, (0, h774 51 12)), (0, (2, 51)), (1, (0, v1))] [] h774) ∧ (¬ ((30 ≤ (h774 51 12) ∧ (h774 51 12) ≤ 33)) → ((h774 51 12 = 41) → xq X d 164 Q 86 [(2, (0, h774 51 12)), (0, (2, 51)), (1, (0, v1))] [] h774) ∧ (¬ (h774 51 12 = 41) → ((h774 51 12 = 42) → xq X d 164 Q 86 [(2, (0, h774 51 12)), (0, (2, 51)), (1, (0, v1))] [] h774) ∧ (¬ (h774 51 12 = 42) → (xc X d 159 [(2, 51), (0, 1)] h774 (fun (J777 : Int) (h776 : XH) => (0 ≤ J777 ∧ J777 ≤ 1) ∧ Q J777 h776))))))) ∧ (¬ (¬ J775 = 0) → Q 0 h774)))) ∧ (¬ (¬ H 51 12 = 6) → (xc X d 159 [(2, 51), (0, 3)] H (fun (J779 : Int) (h778 : XH) => (0 ≤ J779 ∧ J779 ≤ 1) ∧ Q J779 h778)))) : xq X d 164 Q 27 [(0, (2, 51)), (1, (0, v1))] [] H := by
  show xq X d 164 Q 27 [(0, (2, 51)), (1, (0, v1))] [] H
  refine xq_run [2, 24, 27, 41, 47, 65, 85, 86, 90, 95, 109, 111, 123] 300 ?_
  show ((¬ H 51 12 = 6) → xWM (xE X) xMC d 163 [(2, 51), (0, v1)] xKZ H _) ∧ (¬ (¬ H 51 12 = 6) → xWM (xE X) xMC d 159 [(2, 51), (0, 3)] xKZ H _)
  refine ⟨fun k_ => ?_, fun k_ => ?_⟩
  · replace h := h.1 k_
    refine xc_in (xc_mono (fun J775 h774 q_ => ?_) h)
    replace h := q_
    show xq X d 164 Q 47 [(0, (2, 51)), (1, (0, v1))] [(0, J775)] h774
    refine xq_run [2, 24, 27, 41, 47, 65, 85, 86, 90, 95, 109, 111, 123] 300 ?_
    show ((¬ J775 = 0) → xWM (xE X) xMC d 19 [(0, h774 51 12), (0, 30), (0, 33)] xKZ h774 _) ∧ (¬ (¬ J775 = 0) → xfR 3 0 ∧ xKZ = xKZ ∧ Q 0 h774)
    refine ⟨fun k_ => ?_, fun k_ => ?_⟩
    · replace h := h.1 k_
      refine xc_in (s_19 (by omega) (h774 51 12) 30 33 h774  ?_)
      replace h := h
      show xq X d 164 Q 65 [(2, (0, h774 51 12)), (0, (2, 51)), (1, (0, v1))] [(0, xb (30 ≤ (h774 51 12) ∧ (h774 51 12) ≤ 33))] h774
      refine xq_run [2, 24, 27, 41, 47, 65, 85, 86, 90, 95, 109, 111, 123] 300 ?_
      show ((¬ xb (30 ≤ (h774 51 12) ∧ (h774 51 12) ≤ 33) = 0) → xq X d 164 Q 86 [(2, (0, h774 51 12)), (0, (2, 51)), (1, (0, v1))] [] h774) ∧ (¬ (¬ xb (30 ≤ (h774 51 12) ∧ (h774 51 12) ≤ 33) = 0) → ((h774 51 12 = 41) → xq X d 164 Q 86 [(2, (0, h774 51 12)), (0, (2, 51)), (1, (0, v1))] [] h774) ∧ (¬ (h774 51 12 = 41) → ((h774 51 12 = 42) → xq X d 164 Q 86 [(2, (0, h774 51 12)), (0, (2, 51)), (1, (0, v1))] [] h774) ∧ (¬ (h774 51 12 = 42) → xWM (xE X) xMC d 159 [(2, 51), (0, 1)] xKZ h774 _)))
      refine ⟨fun k_ => ?_, fun k_ => ?_⟩
      · replace h := h.1 (xbe_1.mp k_)
        exact h
      · replace h := h.2 (xbe_n.mp k_)
        refine ⟨fun k_ => ?_, fun k_ => ?_⟩
        · replace h := h.1 k_
          exact h
        · replace h := h.2 k_
          refine ⟨fun k_ => ?_, fun k_ => ?_⟩
          · replace h := h.1 k_
            exact h
          · replace h := h.2 k_
            refine xc_in (xc_mono (fun J777 h776 q_ => ?_) h)
            replace h := q_
            show xq X d 164 Q 85 [(2, (0, h774 51 12)), (0, (2, 51)), (1, (0, v1))] [(0, J777)] h776
            refine xq_run [2, 24, 27, 41, 47, 65, 85, 86, 90, 95, 109, 111, 123] 300 ?_
            show xfR 3 J777 ∧ xKZ = xKZ ∧ Q J777 h776
            exact ⟨h.1, rfl, h.2⟩
    · replace h := h.2 k_
      exact ⟨xfR3_0, rfl, h⟩
  · replace h := h.2 k_
    refine xc_in (xc_mono (fun J779 h778 q_ => ?_) h)
    replace h := q_
    show xq X d 164 Q 41 [(0, (2, 51)), (1, (0, v1))] [(0, J779)] h778
    refine xq_run [2, 24, 27, 41, 47, 65, 85, 86, 90, 95, 109, 111, 123] 300 ?_
    show xfR 3 J779 ∧ xKZ = xKZ ∧ Q J779 h778
    exact ⟨h.1, rfl, h.2⟩
theorem U_164_86 {X : Int × (Int → Int)} {d : Nat} {Q : Int → XH → Prop} (hd : 0 ≤ d) (v2 v1 : Int) (H : XH) (h : (xc X d 160 [(2, 51)] H (fun (J781 : Int) (h780 : XH) => (xc X d 163 [(2, 51), (0, v1)] h780 (fun (J783 : Int) (h782 : XH) => ((¬ J783 = 0) → (xI (10000 + v2)) ∧ (xc X d 161 [(2, 51), (0, 10000 + v2)] h782 (fun (J785 : Int) (h784 : XH) => xq X d 164 Q 111 [(0, (2, 51)), (1, (0, v1)), (3, (0, 0))] [] h784))) ∧ (¬ (¬ J783 = 0) → Q 0 h782)))))) : xq X d 164 Q 86 [(2, (0, v2)), (0, (2, 51)), (1, (0, v1))] [] H := by
  show xq X d 164 Q 86 [(2, (0, v2)), (0, (2, 51)), (1, (0, v1))] [] H
  refine xq_run [2, 24, 27, 41, 47, 65, 85, 86, 90, 95, 109, 111, 123] 300 ?_
  show xWM (xE X) xMC d 160 [(2, 51)] xKZ H _
  refine xc_in (xc_mono (fun J781 h780 q_ => ?_) h)
  replace h := q_
  show xq X d 164 Q 90 [(2, (0, v2)), (0, (2, 51)), (1, (0, v1))] [] h780
  refine xq_run [2, 24, 27, 41, 47, 65, 85, 86, 90, 95, 109, 111, 123] 300 ?_
  show xWM (xE X) xMC d 163 [(2, 51), (0, v1)] xKZ h780 _
  refine xc_in (xc_mono (fun J783 h782 q_ => ?_) h)
  replace h := q_
  show xq X d 164 Q 95 [(2, (0, v2)), (0, (2, 51)), (1, (0, v1))] [(0, J783)] h782
  refine xq_run [2, 24, 27, 41, 47, 65, 85, 86, 90, 95, 109, 111, 123] 300 ?_
  show ((¬ J783 = 0) → (xI (10000 + v2)) ∧ xWM (xE X) xMC d 161 [(2, 51), (0, 10000 + v2)] xKZ h782 _) ∧ (¬ (¬ J783 = 0) → xfR 3 0 ∧ xKZ = xKZ ∧ Q 0 h782)
  refine ⟨fun k_ => ?_, fun k_ => ?_⟩
  · replace h := h.1 k_
    refine ⟨h.1, ?_⟩
    replace h := h.2
    refine xc_in (xc_mono (fun J785 h784 q_ => ?_) h)
    replace h := q_
    show xq X d 164 Q 109 [(2, (0, v2)), (0, (2, 51)), (1, (0, v1))] [] h784
    refine xq_run [2, 24, 27, 41, 47, 65, 85, 86, 90, 95, 109, 111, 123] 300 ?_
    show xq X d 164 Q 111 [(0, (2, 51)), (1, (0, v1)), (3, (0, 0))] [] h784
    exact h
  · replace h := h.2 k_
    exact ⟨xfR3_0, rfl, h⟩
theorem U_164_111 {X : Int × (Int → Int)} {d : Nat} {Q : Int → XH → Prop} (hd : 0 ≤ d) (v1 v3 : Int) (H : XH) (h : ((v1 ≤ v3) → Q 1 H) ∧ (¬ (v1 ≤ v3) → (xc X d 161 [(2, 51), (0, 10006)] H (fun (J787 : Int) (h786 : XH) => (xI (v3 + 1)) ∧ xq X d 164 Q 111 [(0, (2, 51)), (1, (0, v1)), (3, (0, v3 + 1))] [] h786)))) : xq X d 164 Q 111 [(0, (2, 51)), (1, (0, v1)), (3, (0, v3))] [] H := by
  show xq X d 164 Q 111 [(0, (2, 51)), (1, (0, v1)), (3, (0, v3))] [] H
  refine xq_run [2, 24, 27, 41, 47, 65, 85, 86, 90, 95, 109, 111, 123] 300 ?_
  show ((v1 ≤ v3) → xfR 3 1 ∧ xKZ = xKZ ∧ Q 1 H) ∧ (¬ (v1 ≤ v3) → xWM (xE X) xMC d 161 [(2, 51), (0, 10006)] xKZ H _)
  refine ⟨fun k_ => ?_, fun k_ => ?_⟩
  · replace h := h.1 k_
    exact ⟨xfR3_1, rfl, h⟩
  · replace h := h.2 k_
    refine xc_in (xc_mono (fun J787 h786 q_ => ?_) h)
    replace h := q_
    show xq X d 164 Q 123 [(0, (2, 51)), (1, (0, v1)), (3, (0, v3))] [] h786
    refine xq_run [2, 24, 27, 41, 47, 65, 85, 86, 90, 95, 109, 111, 123] 300 ?_
    show (xI (v3 + 1)) ∧ xq X d 164 Q 111 [(0, (2, 51)), (1, (0, v1)), (3, (0, v3 + 1))] [] h786
    refine ⟨h.1, ?_⟩
    replace h := h.2
    exact h

def prA (H0 : XH) (i : Int) (O : List Int) (W C : List (Int × Int)) : Prop := (0 ≤ i ∧ i ≤ H0 51 10) ∧ (O.length : Int) ≤ i ∧ W.length ≤ 2 ∧ (1 ≤ C.length ∧ C.length ≤ 10) ∧ ∀ p ∈ W, p.2 ≤ 1
def okA (H0 : XH) (ta lo i : Int) (O : List Int) (D : Nat) (h : XH) (j : Int) (c : List Int) : Prop := rLS H0 ta lo j (O ++ c) h ∧ (i < j ∧ j ≤ H0 51 10) ∧ (c.length : Int) ≤ j - i ∧ asC D c
def akP (H0 : XH) (ta lo i : Int) (O : List Int) (W C : List (Int × Int)) (r : Int) (h : XH) : Prop := (r = 1 ∧ ∃ (j : Int) (c : List Int), okA H0 ta lo i O 20 h j c ∧ rMK H0 (0, i, 0, [(2, 0)], W, O, C) (3, j, 0, [(2, 0)], W, O ++ c, C)) ∨ (r = 0 ∧ faP H0 (0, i, 0, [(2, 0)], W, O, C) h)
theorem fP_2 : fP [(2, 0)] := ⟨List.cons_ne_nil _ _, Or.inr rfl⟩
theorem fP_1 : fP [(1, 0)] := ⟨List.cons_ne_nil _ _, Or.inl rfl⟩
theorem jT_of {H0 : XH} (tb : rTB H0) {j : Int} (hj : j ≤ H0 51 10) (h : ¬ H0 55 j = 21) : j < H0 51 10 := by
  by_cases y : j = H0 51 10
  · exact absurd (by rw [y]; exact tb.2.2.1) h
  · omega

theorem s_164 {X : Int × (Int → Int)} {d : Nat} {Q : Int → XH → Prop} (hd : 26 ≤ d) {H0 : XH} {ta lo i : Int} {O : List Int} (W C : List (Int × Int)) {H : XH} (tb : rTB H0) (L0 : rLS H0 ta lo i O H) (pr : prA H0 i O W C) (hQ : ∀ r h1, akP H0 ta lo i O W C r h1 → Q r h1) : xc X d 164 [(2, 51)] H Q := by
  cases d with
  | zero => omega
  | succ d =>
  obtain ⟨i1, O1, w1, cC, wF⟩ := pr
  have t1 := tb.1
  have t2 := tb.2.1
  refine U_164 (by omega) H ?_
  have key27 : ∀ (m : Nat) (h : XH), rLS H0 ta lo (i + m) O h → i + m ≤ H0 51 10 → (m : Int) ≤ 8 → rMK H0 (0, i, 0, [(2, 0)], W, O, C) (0, i + m, (m : Int), mRep 3 m [(2, 0)], W, O, C) → (H0 55 (i + m) = 6 → (m : Int) = 8) → xq X d 164 Q 27 [(0, (2, 51)), (1, (0, (m : Int)))] [] h := by
    intro m h L_H im m8 ms h6
    have k12 : h 51 12 = H0 55 (i + m) := L_H.2.2.2.1
    have iT := jT_of tb im
    have tk := tb.2.2.2.1 (i + m) (by omega) (by omega)
    have fm := fP_rep 3 m fP_2
    have ml : (mRep 3 m [(2, 0)]).length = 1 + m := mRep_len 3 m [(2, 0)]
    have ok0 : mOk (H0 55) (H0 51 10) (0, i + m, (m : Int), mRep 3 m [(2, 0)], W, O, C) := mOk_i (by decide) (by omega) (by omega) (by omega) (by omega) (by omega) cC fm
    have st1 : ¬ H0 55 (i + m) = 6 → rMK H0 (0, i, 0, [(2, 0)], W, O, C) (1, i + m, (m : Int), (4, 0) :: mRep 3 m [(2, 0)], W, O, C) := fun q => mR_trans ms (mR_one ok0 (by rw [mS_0]; unfold mS0; rw [if_neg q]))
    have keyN : ∀ (j : Int) (O1 : List Int) (h : XH), rLS H0 ta lo j O1 h → ((O1.length : Int) + m ≤ j ∧ j ≤ H0 51 10) → (∀ h1, rLS H0 ta lo j (O1 ++ mYs 10006 m) h1 → Q 1 h1) → ∀ v, v = 0 → xq X d 164 Q 111 [(0, (2, 51)), (1, (0, (m : Int))), (3, (0, v))] [] h := by
      intro j O1 h Lh jl hq v hv
      have inn : ∀ (n n' : Nat), n' + n = m → ∀ h, rLS H0 ta lo j (O1 ++ mYs 10006 n') h → xq X d 164 Q 111 [(0, (2, 51)), (1, (0, (m : Int))), (3, (0, (n' : Int)))] [] h := by
        intro n
        induction n with
        | zero =>
          intro n' hn h L_H
          have e : n' = m := by omega
          refine U_164_111 (by omega) (m : Int) (n' : Int) h ?_
          refine ⟨fun c1 => ?_, fun c1 => ?_⟩
          · skip
            rw [e] at L_H
            exact hq h L_H
          · skip
            exfalso
            omega
        | succ n ihn =>
          intro n' hn h L_H
          have yl := mYs_len 10006 n'
          have lt : (O1 ++ mYs 10006 n').length < 300 := by
            rw [List.length_append, yl]
            omega
          refine U_164_111 (by omega) (m : Int) (n' : Int) h ?_
          refine ⟨fun c1 => ?_, fun c1 => ?_⟩
          · skip
            exfalso
            omega
          · skip
            refine s_161 (by omega) tb L_H lt (fun h818 L_h818 => ?_)
            refine ⟨?_, ?_⟩
            · first | omega | (unfold xI; omega) | (exfalso; omega)
            have nx := ihn (n' + 1) (by omega) _ (by rw [← mYs_s, ← List.append_assoc]; exact L_h818)
            rw [show ((n' + 1 : Nat) : Int) = (n' : Int) + 1 by omega] at nx
            exact nx
      rw [hv]
      exact inn m 0 (by omega) h (by show rLS H0 ta lo j (O1 ++ []) h; rw [List.append_nil]; exact Lh)
    have key86 : ∀ (j : Int) (c : List Int) (W' : List (Int × Int)) (Om : List Int) (h : XH), rLS H0 ta lo j (O ++ c) h → (i + m < j ∧ j ≤ H0 51 10) → (c.length : Int) ≤ j - (i + m) → suC (19 - 2 * (m : Int)).toNat c → ((30 ≤ H0 55 j ∧ H0 55 j ≤ 33) ∨ H0 55 j = 41 ∨ H0 55 j = 42) → mFl (mLen ((4, 0) :: mRep 3 m [(2, 0)])) 3 W' Om = (W, O ++ c) → W'.length ≤ W.length + 2 → mOk (H0 55) (H0 51 10) (2, j, (m : Int), (4, 0) :: mRep 3 m [(2, 0)], W', Om, C) → rMK H0 (0, i, 0, [(2, 0)], W, O, C) (2, j, (m : Int), (4, 0) :: mRep 3 m [(2, 0)], W', Om, C) → xq X d 164 Q 86 [(2, (0, H0 55 j)), (0, (2, 51)), (1, (0, (m : Int)))] [] h := by
      intro j c W' Om h L_H lj lc sc hc fl wl ok2 ms2
      have jT := jT_of tb lj.2
      have st2 : rMK H0 (0, i, 0, [(2, 0)], W, O, C) (1, j + 1, (m : Int), (5, H0 55 j) :: mRep 3 m [(2, 0)], W, O ++ c, C) := mR_trans ms2 (mR_one ok2 (by
        rw [mS_2]
        unfold mS2
        rw [if_neg (by omega), if_neg (fun z => absurd z.1 (by decide : ¬ (4 : Int) = 6)), if_pos ⟨rfl, hc⟩, fl]
        rfl))
      refine U_164_86 (by omega) (H0 55 j) (m : Int) h ?_
      refine s_160 (by omega) tb L_H (by omega) (fun h828 L_h828 => ?_)
      refine s_163 (by omega) ((5, H0 55 j) :: mRep 3 m [(2, 0)]) W C tb L_h828 ⟨⟨by omega, by omega, by rw [List.length_append]; omega, fP_cons _ fm, ?_, ?_, cC, (by decide : ¬ (5 : Int) = 7), ?_⟩, ?_, ?_⟩ (fun J831 h830 P => P.elim (fun ok => ?_) (fun fa => ⟨fun c => absurd fa.1 c, fun _ => hQ 0 h830 (Or.inr ⟨rfl, faP_pre st2 fa.2⟩)⟩))
      · show ((mRep 3 m [(2, 0)]).length + 1 : Int) ≤ _
        omega
      · show W.length ≤ 2 * ((mRep 3 m [(2, 0)]).length + 1)
        omega
      · intro p hp
        have := wF p hp
        show p.2 ≤ (((mRep 3 m [(2, 0)]).length + 1 : Nat) : Int)
        omega
      · show W.length + 2 ≤ 2 * ((mRep 3 m [(2, 0)]).length + 1)
        omega
      · intro p hp
        have := wF p hp
        show p.2 < (((mRep 3 m [(2, 0)]).length + 1 : Nat) : Int)
        omega
      obtain ⟨hr, j2, c2, W2, Om2, ⟨L_h830, lj2, lc2, sc2⟩, nk2, fl2, wl2, mr2⟩ := ok
      have lt1 : (O ++ c ++ c2).length < 300 := by
        rw [List.length_append, List.length_append]
        omega
      have lO2 := mFl_len (d := mLen ((5, H0 55 j) :: mRep 3 m [(2, 0)])) (r := 3) W2 Om2
      rw [fl2, List.length_append, List.length_append] at lO2
      have lO2 : Om2.length ≤ O.length + c.length + c2.length := lO2.1
      have ok3 : mOk (H0 55) (H0 51 10) (2, j2, (m : Int), (5, H0 55 j) :: mRep 3 m [(2, 0)], W2, Om2, C) := mOk_i (by decide) (by omega) (by omega) (by show (mRep 3 m [(2, 0)]).length + 1 ≤ 20; omega) (by omega) (by omega) cC (fP_cons _ fm)
      refine ⟨fun c1 => ?_, fun c1 => ?_⟩
      · skip
        refine ⟨?_, ?_⟩
        · first | omega | (unfold xI; omega) | (exfalso; omega)
        refine s_161 (by omega) tb L_h830 lt1 (fun h832 L_h832 => ?_)
        refine keyN j2 (O ++ c ++ c2 ++ [10000 + H0 55 j]) _ L_h832 (by rw [List.length_append, List.length_append, List.length_append]; simp only [List.length_cons, List.length_nil]; omega) (fun h1 L1 => hQ 1 h1 (Or.inl ⟨rfl, j2, c ++ (c2 ++ [10000 + H0 55 j]) ++ mYs 10006 m, ⟨?_, by omega, ?_, ?_⟩, ?_⟩)) 0 rfl
        · rw [← List.append_assoc, ← List.append_assoc, ← List.append_assoc]
          exact L1
        · rw [List.length_append, List.length_append, List.length_append, mYs_len]
          simp only [List.length_cons, List.length_nil]
          omega
        · exact asC_nots (asC_cm (D := 19) (suC_le sc (by omega)) (suC_le sc2 (by omega)) (by omega)) m
        · refine mR_trans st2 (mR_trans mr2 (mR_one ok3 ?_))
          rw [mS_2]
          unfold mS2
          rw [if_neg nk2, if_neg (fun z => absurd z.1 (by decide : ¬ (5 : Int) = 6)), if_neg (fun z => absurd z.1 (by decide : ¬ (5 : Int) = 4)), if_pos (show (mTop ((5, H0 55 j) :: mRep 3 m [(2, 0)])).1 = 5 from rfl), fl2]
          show (3, j2, (mPop 3 10006 (mRep 3 m [(2, 0)]) (m : Int) (O ++ c ++ c2 ++ [10000 + H0 55 j])).2.1, (mPop 3 10006 (mRep 3 m [(2, 0)]) (m : Int) (O ++ c ++ c2 ++ [10000 + H0 55 j])).1, W, (mPop 3 10006 (mRep 3 m [(2, 0)]) (m : Int) (O ++ c ++ c2 ++ [10000 + H0 55 j])).2.2, C) = _
          rw [mPop_rep fP_2.1 (by decide : ¬ (2 : Int) = 3)]
          dsimp only
          rw [← List.append_assoc, ← List.append_assoc, ← List.append_assoc, Int.sub_self]
      · skip
        exfalso
        omega
    refine U_164_27 (by omega) (m : Int) h ?_
    rw [k12]
    refine ⟨fun c1 => ?_, fun c1 => ?_⟩
    · skip
      have st1 := st1 (by assumption)
      refine s_163 (by omega) ((4, 0) :: mRep 3 m [(2, 0)]) W C tb L_H ⟨⟨by omega, by omega, by omega, fP_cons _ fm, ?_, ?_, cC, (by decide : ¬ (4 : Int) = 7), ?_⟩, ?_, ?_⟩ (fun J837 h836 P => P.elim (fun ok => ?_) (fun fa => ⟨fun c => absurd fa.1 c, fun _ => hQ 0 h836 (Or.inr ⟨rfl, faP_pre st1 fa.2⟩)⟩))
      · show ((mRep 3 m [(2, 0)]).length + 1 : Int) ≤ _
        omega
      · show W.length ≤ 2 * ((mRep 3 m [(2, 0)]).length + 1)
        omega
      · intro p hp
        have := wF p hp
        show p.2 ≤ (((mRep 3 m [(2, 0)]).length + 1 : Nat) : Int)
        omega
      · show W.length + 2 ≤ 2 * ((mRep 3 m [(2, 0)]).length + 1)
        omega
      · intro p hp
        have := wF p hp
        show p.2 < (((mRep 3 m [(2, 0)]).length + 1 : Nat) : Int)
        omega
      obtain ⟨hr, j, c, W', Om, ⟨L_h836, lj, lc, sc⟩, nk, fl, wl, mr⟩ := ok
      have ej : h836 51 12 = H0 55 j := L_h836.2.2.2.1
      have lO := mFl_len (d := mLen ((4, 0) :: mRep 3 m [(2, 0)])) (r := 3) W' Om
      rw [fl, List.length_append] at lO
      have lO : Om.length ≤ O.length + c.length := lO.1
      have ok2 : mOk (H0 55) (H0 51 10) (2, j, (m : Int), (4, 0) :: mRep 3 m [(2, 0)], W', Om, C) := mOk_i (by decide) (by omega) (by omega) (by show (mRep 3 m [(2, 0)]).length + 1 ≤ 20; omega) (by omega) (by omega) cC (fP_cons _ fm)
      refine ⟨fun c2 => ?_, fun c2 => ?_⟩
      · skip
        refine ⟨fun c3 => ?_, fun c3 => ?_⟩
        · skip
          rw [ej] at *
          exact key86 j c W' Om _ L_h836 lj lc sc (by omega) fl (by omega) ok2 (mR_trans st1 mr)
        · skip
          refine ⟨fun c4 => ?_, fun c4 => ?_⟩
          · skip
            rw [ej] at *
            exact key86 j c W' Om _ L_h836 lj lc sc (by omega) fl (by omega) ok2 (mR_trans st1 mr)
          · skip
            refine ⟨fun c5 => ?_, fun c5 => ?_⟩
            · skip
              rw [ej] at *
              exact key86 j c W' Om _ L_h836 lj lc sc (by omega) fl (by omega) ok2 (mR_trans st1 mr)
            · skip
              rw [ej] at *
              refine s_159 (by omega) _ tb L_h836 (by omega) (fun h838 L_h838 => ?_)
              refine ⟨?_, ?_⟩
              · first | omega | (unfold xI; omega) | (exfalso; omega)
              rw [ej] at *
              refine hQ 0 _ (Or.inr ⟨rfl, faP_mk (o := (m : Int)) (F := (4, 0) :: mRep 3 m [(2, 0)]) (W := W') (O := Om) (C := C) L_h838 (by decide) (by omega) (mR_trans st1 mr) ok2 ?_⟩)
              rw [mS_2]
              unfold mS2
              rw [if_neg nk, if_neg (fun z => absurd z.1 (by decide : ¬ (4 : Int) = 6)), if_neg (fun z => absurd z.2 (by omega)), if_neg (show ¬ (mTop ((4, 0) :: mRep 3 m [(2, 0)])).1 = 5 from (by decide : ¬ (4 : Int) = 5)), if_neg (fun z => absurd z.1 (by decide : ¬ (4 : Int) = 1))]
      · skip
        exfalso
        omega
    · skip
      refine s_159 (by omega) _ tb L_H (by omega) (fun h840 L_h840 => ?_)
      refine ⟨?_, ?_⟩
      · first | omega | (unfold xI; omega) | (exfalso; omega)
      exact hQ 0 _ (Or.inr ⟨rfl, faP_mk L_h840 (by decide) (by omega) ms ok0 (by rw [mS_0]; unfold mS0; simp (disch := omega) only [if_pos, if_neg]; rfl)⟩)
  have key : ∀ (n m : Nat), (m : Int) + n = 8 → ∀ h, rLS H0 ta lo (i + m) O h → i + m ≤ H0 51 10 → rMK H0 (0, i, 0, [(2, 0)], W, O, C) (0, i + m, (m : Int), mRep 3 m [(2, 0)], W, O, C) → xq X d 164 Q 2 [(0, (2, 51)), (1, (0, (m : Int)))] [] h := by
    intro n
    induction n with
    | zero =>
      intro m hm h L_H im ms
      have k12 : h 51 12 = H0 55 (i + m) := L_H.2.2.2.1
      have iT := jT_of tb im
      have tk := tb.2.2.2.1 (i + m) (by omega) (by omega)
      have fm := fP_rep 3 m fP_2
      have ml := mRep_len 3 m [(2, 0)]
      have ml : (mRep 3 m [(2, 0)]).length = 1 + m := ml
      have ok0 : mOk (H0 55) (H0 51 10) (0, i + m, (m : Int), mRep 3 m [(2, 0)], W, O, C) := mOk_i (by decide) (by omega) (by omega) (by omega) (by omega) (by omega) cC fm
      refine U_164_2 (by omega) (m : Int) h ?_
      rw [k12]
      refine ⟨fun c1 => ?_, fun c1 => ?_⟩
      · skip
        exact key27 m h L_H im (by omega) ms (by omega)
      · skip
        refine ⟨fun c2 => ?_, fun c2 => ?_⟩
        · skip
          exact key27 m h L_H im (by omega) ms (by omega)
        · skip
          refine ⟨?_, ?_⟩
          · first | omega | (unfold xI; omega) | (exfalso; omega)
          exfalso
          omega
    | succ n ih =>
      intro m hm h L_H im ms
      have k12 : h 51 12 = H0 55 (i + m) := L_H.2.2.2.1
      have iT := jT_of tb im
      have tk := tb.2.2.2.1 (i + m) (by omega) (by omega)
      have fm := fP_rep 3 m fP_2
      have ml := mRep_len 3 m [(2, 0)]
      have ml : (mRep 3 m [(2, 0)]).length = 1 + m := ml
      have ok0 : mOk (H0 55) (H0 51 10) (0, i + m, (m : Int), mRep 3 m [(2, 0)], W, O, C) := mOk_i (by decide) (by omega) (by omega) (by omega) (by omega) (by omega) cC fm
      refine U_164_2 (by omega) (m : Int) h ?_
      rw [k12]
      refine ⟨fun c1 => ?_, fun c1 => ?_⟩
      · skip
        first | (exfalso; omega) | exact key27 m h L_H im (by omega) ms (by omega)
      · skip
        refine ⟨fun c2 => ?_, fun c2 => ?_⟩
        · skip
          first | (exfalso; omega) | exact key27 m h L_H im (by omega) ms (by omega)
        · skip
          refine ⟨?_, ?_⟩
          · first | omega | (unfold xI; omega) | (exfalso; omega)
          refine s_160 (by omega) tb L_H (by omega) (fun h844 L_h844 => ?_)
          have nx := ih (m + 1) (by omega) h844 (by rw [show i + ((m + 1 : Nat) : Int) = i + m + 1 by omega]; exact L_h844) (by omega) (by
            rw [show i + ((m + 1 : Nat) : Int) = i + m + 1 by omega, show ((m + 1 : Nat) : Int) = (m : Int) + 1 by omega]
            exact mR_trans ms (mR_one ok0 (by rw [mS_0]; unfold mS0; simp (disch := omega) only [if_pos, if_neg]; rfl)))
          rw [show ((m + 1 : Nat) : Int) = (m : Int) + 1 by omega] at nx
          exact nx
  have z := key 8 0 (by decide) H (by rw [show i + ((0 : Nat) : Int) = i by omega]; exact L0) (by omega) (by
    rw [show i + ((0 : Nat) : Int) = i by omega]
    exact mR_refl _ _ _ _)
  exact z
