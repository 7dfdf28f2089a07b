/-! THE PURE LAYER 46: the law is read: eithers -/
theorem U_165 {X : Int × (Int → Int)} {d : Nat} {Q : Int → XH → Prop} (hd : 0 ≤ d) (H : XH) (h : (xc X d 164 [(2, 51)] H (fun (J847 : Int) (h846 : XH) => ((¬ J847 = 0) → xq X d 165 Q 13 [(0, (2, 51)), (1, (0, 0)), (2, (0, 0))] [] h846) ∧ (¬ (¬ J847 = 0) → Q 0 h846)))) : xc X (d + 1) 165 [(2, 51)] H Q := by
  refine ⟨rfl, ?_⟩
  show xq X d 165 Q 100000 [(0, (2, 51))] [] H
  refine xq_run [4, 13, 36, 65, 75, 79, 95, 101, 112] 300 ?_
  show xWM (xE X) xMC d 164 [(2, 51)] xKZ H _
  refine xc_in (xc_mono (fun J847 h846 q_ => ?_) h)
  replace h := q_
  show xq X d 165 Q 4 [(0, (2, 51))] [(0, J847)] h846
  refine xq_run [4, 13, 36, 65, 75, 79, 95, 101, 112] 300 ?_
  show ((¬ J847 = 0) → xq X d 165 Q 13 [(0, (2, 51)), (1, (0, 0)), (2, (0, 0))] [] h846) ∧ (¬ (¬ J847 = 0) → xfR 3 0 ∧ xKZ = xKZ ∧ Q 0 h846)
  refine ⟨fun k_ => ?_, fun k_ => ?_⟩
  · replace h := h.1 k_
    exact h
  · replace h := h.2 k_
    exact ⟨xfR3_0, rfl, h⟩
theorem U_165_13 {X : Int × (Int → Int)} {d : Nat} {Q : Int → XH → Prop} (hd : 0 ≤ d) (v1 v2 : Int) (H : XH) (h : ((300 ≤ v2) → xq X d 165 Q 101 [(0, (2, 51)), (1, (0, v1)), (2, (0, v2))] [] H) ∧ (¬ (300 ≤ v2) → ((H 51 12 = 4) → xq X d 165 Q 36 [(0, (2, 51)), (1, (0, v1)), (2, (0, v2))] [] H) ∧ (¬ (H 51 12 = 4) → ((¬ H 51 12 = 5) → xq X d 165 Q 101 [(0, (2, 51)), (1, (0, v1)), (2, (0, v2))] [] H) ∧ (¬ (¬ H 51 12 = 5) → xq X d 165 Q 36 [(0, (2, 51)), (1, (0, v1)), (2, (0, v2))] [] H)))) : xq X d 165 Q 13 [(0, (2, 51)), (1, (0, v1)), (2, (0, v2))] [] H := by
  show xq X d 165 Q 13 [(0, (2, 51)), (1, (0, v1)), (2, (0, v2))] [] H
  refine xq_run [4, 13, 36, 65, 75, 79, 95, 101, 112] 300 ?_
  show ((300 ≤ v2) → xq X d 165 Q 101 [(0, (2, 51)), (1, (0, v1)), (2, (0, v2))] [] H) ∧ (¬ (300 ≤ v2) → ((H 51 12 = 4) → xq X d 165 Q 36 [(0, (2, 51)), (1, (0, v1)), (2, (0, v2))] [] H) ∧ (¬ (H 51 12 = 4) → ((¬ H 51 12 = 5) → xq X d 165 Q 101 [(0, (2, 51)), (1, (0, v1)), (2, (0, v2))] [] H) ∧ (¬ (¬ H 51 12 = 5) → xq X d 165 Q 36 [(0, (2, 51)), (1, (0, v1)), (2, (0, v2))] [] H)))
  refine ⟨fun k_ => ?_, fun k_ => ?_⟩
  · replace h := h.1 k_
    exact h
  · replace h := h.2 k_
    refine ⟨fun k_ => ?_, fun k_ => ?_⟩
    · replace h := h.1 k_
      exact h
    · replace h := h.2 k_
      refine ⟨fun k_ => ?_, fun k_ => ?_⟩
      · replace h := h.1 k_
        exact h
      · replace h := h.2 k_
        exact h
theorem U_165_101 {X : Int × (Int → Int)} {d : Nat} {Q : Int → XH → Prop} (hd : 0 ≤ d) (v1 v2 : Int) (H : XH) (h : ((v1 = 0) → Q 1 H) ∧ (¬ (v1 = 0) → (xc X d 161 [(2, 51), (0, 10004)] H (fun (J849 : Int) (h848 : XH) => Q 1 h848)))) : xq X d 165 Q 101 [(0, (2, 51)), (1, (0, v1)), (2, (0, v2))] [] H := by
  show xq X d 165 Q 101 [(0, (2, 51)), (1, (0, v1)), (2, (0, v2))] [] H
  refine xq_run [4, 13, 36, 65, 75, 79, 95, 101, 112] 300 ?_
  show ((v1 = 0) → xq X d 165 Q 112 [(0, (2, 51)), (1, (0, v1)), (2, (0, v2))] [] H) ∧ (¬ (v1 = 0) → xWM (xE X) xMC d 161 [(2, 51), (0, 10004)] xKZ H _)
  refine ⟨fun k_ => ?_, fun k_ => ?_⟩
  · replace h := h.1 k_
    show xq X d 165 Q 112 [(0, (2, 51)), (1, (0, v1)), (2, (0, v2))] [] H
    refine xq_run [4, 13, 36, 65, 75, 79, 95, 101, 112] 300 ?_
    show xfR 3 1 ∧ xKZ = xKZ ∧ Q 1 H
    exact ⟨xfR3_1, rfl, h⟩
  · replace h := h.2 k_
    refine xc_in (xc_mono (fun J849 h848 q_ => ?_) h)
    replace h := q_
    show xq X d 165 Q 112 [(0, (2, 51)), (1, (0, v1)), (2, (0, v2))] [] h848
    refine xq_run [4, 13, 36, 65, 75, 79, 95, 101, 112] 300 ?_
    show xfR 3 1 ∧ xKZ = xKZ ∧ Q 1 h848
    exact ⟨xfR3_1, rfl, h⟩
theorem U_165_36 {X : Int × (Int → Int)} {d : Nat} {Q : Int → XH → Prop} (hd : 0 ≤ d) (v1 v2 : Int) (H : XH) (h : ((¬ H 51 12 = 4) → (xc X d 160 [(2, 51)] H (fun (J851 : Int) (h850 : XH) => (xc X d 164 [(2, 51)] h850 (fun (J853 : Int) (h852 : XH) => ((¬ J853 = 0) → (xc X d 161 [(2, 51), (0, 10005)] h852 (fun (J855 : Int) (h854 : XH) => (xI (v2 + 1)) ∧ xq X d 165 Q 13 [(0, (2, 51)), (1, (0, v1)), (2, (0, v2 + 1))] [] h854))) ∧ (¬ (¬ J853 = 0) → Q 0 h852)))))) ∧ (¬ (¬ H 51 12 = 4) → ((v1 = 0) → (xc X d 160 [(2, 51)] H (fun (J857 : Int) (h856 : XH) => (xc X d 164 [(2, 51)] h856 (fun (J859 : Int) (h858 : XH) => ((¬ J859 = 0) → (xI (v2 + 1)) ∧ xq X d 165 Q 13 [(0, (2, 51)), (1, (0, 1)), (2, (0, v2 + 1))] [] h858) ∧ (¬ (¬ J859 = 0) → Q 0 h858)))))) ∧ (¬ (v1 = 0) → (xc X d 161 [(2, 51), (0, 10004)] H (fun (J861 : Int) (h860 : XH) => (xc X d 160 [(2, 51)] h860 (fun (J863 : Int) (h862 : XH) => (xc X d 164 [(2, 51)] h862 (fun (J865 : Int) (h864 : XH) => ((¬ J865 = 0) → (xI (v2 + 1)) ∧ xq X d 165 Q 13 [(0, (2, 51)), (1, (0, 1)), (2, (0, v2 + 1))] [] h864) ∧ (¬ (¬ J865 = 0) → Q 0 h864)))))))))) : xq X d 165 Q 36 [(0, (2, 51)), (1, (0, v1)), (2, (0, v2))] [] H := by
  show xq X d 165 Q 36 [(0, (2, 51)), (1, (0, v1)), (2, (0, v2))] [] H
  refine xq_run [4, 13, 36, 65, 75, 79, 95, 101, 112] 300 ?_
  show ((¬ H 51 12 = 4) → ((0 = 0) → xq X d 165 Q 65 [(3, (0, 0)), (0, (2, 51)), (1, (0, v1)), (2, (0, v2))] [] H) ∧ (¬ (0 = 0) → _)) ∧ (¬ (¬ H 51 12 = 4) → ((1 = 0) → _) ∧ (¬ (1 = 0) → ((v1 = 0) → xq X d 165 Q 65 [(3, (0, 1)), (0, (2, 51)), (1, (0, v1)), (2, (0, v2))] [] H) ∧ (¬ (v1 = 0) → xWM (xE X) xMC d 161 [(2, 51), (0, 10004)] xKZ H _)))
  refine ⟨fun k_ => ?_, fun k_ => ?_⟩
  · replace h := h.1 k_
    refine ⟨fun k_ => ?_, fun k_ => absurd (by decide) k_⟩
    show xq X d 165 Q 65 [(3, (0, 0)), (0, (2, 51)), (1, (0, v1)), (2, (0, v2))] [] H
    refine xq_run [4, 13, 36, 65, 75, 79, 95, 101, 112] 300 ?_
    show ((0 = 0) → xWM (xE X) xMC d 160 [(2, 51)] xKZ H _) ∧ (¬ (0 = 0) → _)
    refine ⟨fun k_ => ?_, fun k_ => absurd (by decide) k_⟩
    refine xc_in (xc_mono (fun J851 h850 q_ => ?_) h)
    replace h := q_
    show xq X d 165 Q 75 [(3, (0, 0)), (0, (2, 51)), (1, (0, v1)), (2, (0, v2))] [] h850
    refine xq_run [4, 13, 36, 65, 75, 79, 95, 101, 112] 300 ?_
    show xWM (xE X) xMC d 164 [(2, 51)] xKZ h850 _
    refine xc_in (xc_mono (fun J853 h852 q_ => ?_) h)
    replace h := q_
    show xq X d 165 Q 79 [(3, (0, 0)), (0, (2, 51)), (1, (0, v1)), (2, (0, v2))] [(0, J853)] h852
    refine xq_run [4, 13, 36, 65, 75, 79, 95, 101, 112] 300 ?_
    show ((¬ J853 = 0) → ((¬ 0 = 0) → _) ∧ (¬ (¬ 0 = 0) → xWM (xE X) xMC d 161 [(2, 51), (0, 10005)] xKZ h852 _)) ∧ (¬ (¬ J853 = 0) → xfR 3 0 ∧ xKZ = xKZ ∧ Q 0 h852)
    refine ⟨fun k_ => ?_, fun k_ => ?_⟩
    · replace h := h.1 k_
      refine ⟨fun k_ => absurd k_ (by decide), fun k_ => ?_⟩
      refine xc_in (xc_mono (fun J855 h854 q_ => ?_) h)
      replace h := q_
      show xq X d 165 Q 95 [(3, (0, 0)), (0, (2, 51)), (1, (0, v1)), (2, (0, v2))] [] h854
      refine xq_run [4, 13, 36, 65, 75, 79, 95, 101, 112] 300 ?_
      show (xI (v2 + 1)) ∧ xq X d 165 Q 13 [(0, (2, 51)), (1, (0, v1)), (2, (0, v2 + 1))] [] h854
      refine ⟨h.1, ?_⟩
      replace h := h.2
      exact h
    · replace h := h.2 k_
      exact ⟨xfR3_0, rfl, h⟩
  · replace h := h.2 k_
    refine ⟨fun k_ => absurd k_ (by decide), fun k_ => ?_⟩
    refine ⟨fun k_ => ?_, fun k_ => ?_⟩
    · replace h := h.1 k_
      show xq X d 165 Q 65 [(3, (0, 1)), (0, (2, 51)), (1, (0, v1)), (2, (0, v2))] [] H
      refine xq_run [4, 13, 36, 65, 75, 79, 95, 101, 112] 300 ?_
      show ((1 = 0) → _) ∧ (¬ (1 = 0) → xWM (xE X) xMC d 160 [(2, 51)] xKZ H _)
      refine ⟨fun k_ => absurd k_ (by decide), fun k_ => ?_⟩
      refine xc_in (xc_mono (fun J857 h856 q_ => ?_) h)
      replace h := q_
      show xq X d 165 Q 75 [(1, (0, 1)), (3, (0, 1)), (0, (2, 51)), (2, (0, v2))] [] h856
      refine xq_run [4, 13, 36, 65, 75, 79, 95, 101, 112] 300 ?_
      show xWM (xE X) xMC d 164 [(2, 51)] xKZ h856 _
      refine xc_in (xc_mono (fun J859 h858 q_ => ?_) h)
      replace h := q_
      show xq X d 165 Q 79 [(1, (0, 1)), (3, (0, 1)), (0, (2, 51)), (2, (0, v2))] [(0, J859)] h858
      refine xq_run [4, 13, 36, 65, 75, 79, 95, 101, 112] 300 ?_
      show ((¬ J859 = 0) → ((¬ 1 = 0) → xq X d 165 Q 95 [(1, (0, 1)), (3, (0, 1)), (0, (2, 51)), (2, (0, v2))] [] h858) ∧ (¬ (¬ 1 = 0) → _)) ∧ (¬ (¬ J859 = 0) → xfR 3 0 ∧ xKZ = xKZ ∧ Q 0 h858)
      refine ⟨fun k_ => ?_, fun k_ => ?_⟩
      · replace h := h.1 k_
        refine ⟨fun k_ => ?_, fun k_ => absurd (by decide) k_⟩
        show xq X d 165 Q 95 [(1, (0, 1)), (3, (0, 1)), (0, (2, 51)), (2, (0, v2))] [] h858
        refine xq_run [4, 13, 36, 65, 75, 79, 95, 101, 112] 300 ?_
        show (xI (v2 + 1)) ∧ xq X d 165 Q 13 [(0, (2, 51)), (1, (0, 1)), (2, (0, v2 + 1))] [] h858
        refine ⟨h.1, ?_⟩
        replace h := h.2
        exact h
      · replace h := h.2 k_
        exact ⟨xfR3_0, rfl, h⟩
    · replace h := h.2 k_
      refine xc_in (xc_mono (fun J861 h860 q_ => ?_) h)
      replace h := q_
      show xq X d 165 Q 65 [(3, (0, 1)), (0, (2, 51)), (1, (0, v1)), (2, (0, v2))] [] h860
      refine xq_run [4, 13, 36, 65, 75, 79, 95, 101, 112] 300 ?_
      show ((1 = 0) → _) ∧ (¬ (1 = 0) → xWM (xE X) xMC d 160 [(2, 51)] xKZ h860 _)
      refine ⟨fun k_ => absurd k_ (by decide), fun k_ => ?_⟩
      refine xc_in (xc_mono (fun J863 h862 q_ => ?_) h)
      replace h := q_
      show xq X d 165 Q 75 [(1, (0, 1)), (3, (0, 1)), (0, (2, 51)), (2, (0, v2))] [] h862
      refine xq_run [4, 13, 36, 65, 75, 79, 95, 101, 112] 300 ?_
      show xWM (xE X) xMC d 164 [(2, 51)] xKZ h862 _
      refine xc_in (xc_mono (fun J865 h864 q_ => ?_) h)
      replace h := q_
      show xq X d 165 Q 79 [(1, (0, 1)), (3, (0, 1)), (0, (2, 51)), (2, (0, v2))] [(0, J865)] h864
      refine xq_run [4, 13, 36, 65, 75, 79, 95, 101, 112] 300 ?_
      show ((¬ J865 = 0) → ((¬ 1 = 0) → xq X d 165 Q 95 [(1, (0, 1)), (3, (0, 1)), (0, (2, 51)), (2, (0, v2))] [] h864) ∧ (¬ (¬ 1 = 0) → _)) ∧ (¬ (¬ J865 = 0) → xfR 3 0 ∧ xKZ = xKZ ∧ Q 0 h864)
      refine ⟨fun k_ => ?_, fun k_ => ?_⟩
      · replace h := h.1 k_
        refine ⟨fun k_ => ?_, fun k_ => absurd (by decide) k_⟩
        show xq X d 165 Q 95 [(1, (0, 1)), (3, (0, 1)), (0, (2, 51)), (2, (0, v2))] [] h864
        refine xq_run [4, 13, 36, 65, 75, 79, 95, 101, 112] 300 ?_
        show (xI (v2 + 1)) ∧ xq X d 165 Q 13 [(0, (2, 51)), (1, (0, 1)), (2, (0, v2 + 1))] [] h864
        refine ⟨h.1, ?_⟩
        replace h := h.2
        exact h
      · replace h := h.2 k_
        exact ⟨xfR3_0, rfl, h⟩

def eiP (H0 : XH) (ta lo i : Int) (O : List Int) (C : List (Int × Int)) (r : Int) (h : XH) : Prop := (r = 1 ∧ ∃ (j : Int) (c : List Int) (W' : List (Int × Int)) (Om : List Int), okA H0 ta lo i O 22 h j c ∧ ¬ (H0 55 j = 4 ∨ H0 55 j = 5) ∧ mFl 1 1 W' Om = ([], O ++ c) ∧ W'.length ≤ 2 ∧ rMK H0 (0, i, 0, [(2, 0)], [], O, C) (3, j, 0, [(2, 0)], W', Om, C)) ∨ (r = 0 ∧ faP H0 (0, i, 0, [(2, 0)], [], O, C) h)
def tyA (v : Int) (c : List Int) : Prop := (v = 0 ∧ asC 21 c) ∨ (v = 1 ∧ ∃ a b, c = a ++ b ∧ asC 22 a ∧ asC 21 b)
def aiP (H0 : XH) (ta lo i : Int) (O : List Int) (C : List (Int × Int)) (i' v v2 : Int) (h : XH) : Prop := ∃ (c : List Int) (Wm : List (Int × Int)) (Om : List Int), rLS H0 ta lo i' (O ++ c) h ∧ (i < i' ∧ i' ≤ H0 51 10) ∧ (v = 0 ∨ v = 1) ∧ (c.length : Int) + v ≤ i' - i ∧ (0 ≤ v2 ∧ v2 + 1 ≤ i' - i) ∧ mFl 1 2 Wm Om = (if v = 0 then [] else [(4, 1)], O ++ c) ∧ Wm.length ≤ 2 ∧ tyA v c ∧ rMK H0 (0, i, 0, [(2, 0)], [], O, C) (3, i', 0, [(2, 0)], Wm, Om, C)
theorem mFl_21 (O : List Int) : mFl 1 2 [(4, 1)] O = ([(4, 1)], O) := if_neg (fun q => absurd q.2 (by decide))
theorem mFl_11 (O : List Int) : mFl 1 1 [(4, 1)] O = ([], O ++ [10004]) := if_pos ⟨rfl, by decide⟩
theorem mFl_25 (W : List (Int × Int)) (O : List Int) : mFl 1 2 ((5, 1) :: W) O = mFl 1 2 W (O ++ [10005]) := if_pos ⟨rfl, by decide⟩

theorem s_165 {X : Int × (Int → Int)} {d : Nat} {Q : Int → XH → Prop} (hd : 28 ≤ d) {H0 : XH} {ta lo i : Int} {O : List Int} (C : List (Int × Int)) {H : XH} (tb : rTB H0) (L0 : rLS H0 ta lo i O H) (i1 : 0 ≤ i ∧ i ≤ H0 51 10) (O1 : (O.length : Int) ≤ i) (cC : 1 ≤ C.length ∧ C.length ≤ 10) (hQ : ∀ r h1, eiP H0 ta lo i O C r h1 → Q r h1) : xc X d 165 [(2, 51)] H Q := by
  cases d with
  | zero => omega
  | succ d =>
  have t1 := tb.1
  have t2 := tb.2.1
  have eL : mLen [(2, 0)] = 1 := rfl
  have key : ∀ (n : Nat) (i' v v2 : Int) (h : XH), (H0 51 10 - i').toNat < n → aiP H0 ta lo i O C i' v v2 h → xq X d 165 Q 13 [(0, (2, 51)), (1, (0, v)), (2, (0, v2))] [] h := by
    intro n
    induction n with
    | zero =>
      intro i' v v2 h hn _
      exact absurd hn (Nat.not_lt_zero _)
    | succ n ih0 =>
      intro i' v v2 h hn si
      have ih : ∀ (j v' v3 : Int) (h' : XH), i' < j ∧ j ≤ H0 51 10 → aiP H0 ta lo i O C j v' v3 h' → xq X d 165 Q 13 [(0, (2, 51)), (1, (0, v')), (2, (0, v3))] [] h' := fun j w' v' h' hj => ih0 j w' v' h' (by omega)
      obtain ⟨c, Wm, Om, L_H, li, hv, cl, hv2, fl, wl, ty, ms⟩ := si
      have k12 : h 51 12 = H0 55 i' := L_H.2.2.2.1
      have iT := jT_of tb li.2
      have tk := tb.2.2.2.1 i' (by omega) (by omega)
      have lO := mFl_len (d := 1) (r := 2) Wm Om
      rw [fl, List.length_append] at lO
      have lO : Om.length ≤ O.length + c.length := lO.1
      have ok1 : mOk (H0 55) (H0 51 10) (3, i', 0, [(2, 0)], Wm, Om, C) := mOk_i (by decide) (by omega) (by decide) (by decide) (by omega) (by omega) cC fP_2
      refine U_165_13 (by omega) v v2 h ?_
      rw [k12]
      refine ⟨fun c1 => ?_, fun c1 => ?_⟩
      · skip
        exfalso
        omega
      · skip
        refine ⟨fun c2 => ?_, fun c2 => ?_⟩
        · skip
          refine U_165_36 (by omega) v v2 h ?_
          rw [k12]
          refine ⟨fun cc1 => ?_, fun cc1 => ?_⟩
          · skip
            refine s_160 (by omega) tb L_H (by omega) (fun h896 L_h896 => ?_)
            have hK : H0 55 i' = 5 := by omega
            have st1 : rMK H0 (0, i, 0, [(2, 0)], [], O, C) (0, i' + 1, 0, [(2, 0)], (((5 : Int), (1 : Int)) :: (if v = 0 then [] else [(4, 1)])), (O ++ c), C) := mR_trans ms (mR_one ok1 (by
              rw [mS_3]
              unfold mS3
              rw [if_pos (Or.inr hK), hK, eL, show mRk 5 = 2 from by decide, fl]))
            have ol0 : (O ++ c).length = O.length + c.length := List.length_append
            have wl1 : (((5 : Int), (1 : Int)) :: (if v = 0 then [] else [(4, 1)])).length ≤ 2 := by
              show (if v = 0 then ([] : List (Int × Int)) else [(4, 1)]).length + 1 ≤ 2
              split
              · exact Nat.le_succ 1
              · exact Nat.le_refl 2
            have wm1 : ∀ p ∈ (((5 : Int), (1 : Int)) :: (if v = 0 then [] else [(4, 1)])), p.2 ≤ (1 : Int) := by
              intro p hp
              rcases List.mem_cons.mp hp with e | e
              · rw [e]
                exact Int.le_refl _
              · split at e
                · cases e
                · rcases List.mem_cons.mp e with e | e
                  · rw [e]
                    exact Int.le_refl _
                  · cases e
            refine s_164 (by omega) (((5 : Int), (1 : Int)) :: (if v = 0 then [] else [(4, 1)])) C tb L_h896 ⟨by omega, by omega, wl1, cC, wm1⟩ (fun J899 h898 P => P.elim (fun ok => ?_) (fun fa => ⟨fun c => absurd fa.1 c, fun _ => hQ 0 h898 (Or.inr ⟨rfl, faP_pre st1 fa.2⟩)⟩))
            obtain ⟨hr, j, c2, ⟨L_h898, lj, lc, sc⟩, mr⟩ := ok
            have lt2 : ((O ++ c) ++ c2).length < 300 := by
              rw [List.length_append]
              omega
            refine ⟨fun cc2 => ?_, fun cc2 => ?_⟩
            · skip
              refine s_161 (by omega) tb L_h898 lt2 (fun h900 L_h900 => ?_)
              refine ⟨?_, ?_⟩
              · first | omega | (unfold xI; omega) | (exfalso; omega)
              refine ih j v (v2 + 1) _ (by omega) ⟨c ++ (c2 ++ [10005]), (5, 1) :: (if v = 0 then [] else [(4, 1)]), O ++ c ++ c2, ?_, by omega, hv, ?_, by omega, ?_, wl1, ?_, mR_trans st1 mr⟩
              · rw [← List.append_assoc, ← List.append_assoc]
                exact L_h900
              · rw [List.length_append, List.length_append]
                simp only [List.length_cons, List.length_nil]
                omega
              · rw [mFl_25, ← List.append_assoc, ← List.append_assoc]
                split
                · rfl
                · exact mFl_21 _
              · rcases ty with ⟨y, s⟩ | ⟨y, a, b, e, sa, sb⟩
                · exact Or.inl ⟨y, asC_bo s sc (Or.inr rfl)⟩
                · exact Or.inr ⟨y, a, b ++ (c2 ++ [10005]), by rw [e, List.append_assoc], sa, asC_bo sb sc (Or.inr rfl)⟩
            · skip
              exfalso
              omega
          · skip
            refine ⟨fun cc3 => ?_, fun cc3 => ?_⟩
            · skip
              refine s_160 (by omega) tb L_H (by omega) (fun h902 L_h902 => ?_)
              have hK : H0 55 i' = 4 := by omega
              have hv : v = 0 := by assumption
              rw [if_pos hv] at fl
              have st1 : rMK H0 (0, i, 0, [(2, 0)], [], O, C) (0, i' + 1, 0, [(2, 0)], ([((4 : Int), (1 : Int))]), (O ++ c), C) := mR_trans ms (mR_one ok1 (by
                rw [mS_3]
                unfold mS3
                rw [if_pos (Or.inl hK), hK, eL, show mRk 4 = 1 from by decide, ← mFl_two (show (1 : Int) ≤ 2 by decide), fl]
                rfl))
              have ol0 : (O ++ c).length = O.length + c.length := List.length_append
              have wl1 : ([((4 : Int), (1 : Int))]).length ≤ 2 := by
                exact Nat.le_succ 1
              have wm1 : ∀ p ∈ ([((4 : Int), (1 : Int))]), p.2 ≤ (1 : Int) := by
                intro p hp
                rcases List.mem_cons.mp hp with e | e
                · rw [e]
                  exact Int.le_refl _
                · cases e
              refine s_164 (by omega) ([((4 : Int), (1 : Int))]) C tb L_h902 ⟨by omega, by omega, wl1, cC, wm1⟩ (fun J905 h904 P => P.elim (fun ok => ?_) (fun fa => ⟨fun c => absurd fa.1 c, fun _ => hQ 0 h904 (Or.inr ⟨rfl, faP_pre st1 fa.2⟩)⟩))
              obtain ⟨hr, j, c2, ⟨L_h904, lj, lc, sc⟩, mr⟩ := ok
              have lt2 : ((O ++ c) ++ c2).length < 300 := by
                rw [List.length_append]
                omega
              refine ⟨fun cc4 => ?_, fun cc4 => ?_⟩
              · skip
                refine ⟨?_, ?_⟩
                · first | omega | (unfold xI; omega) | (exfalso; omega)
                refine ih j 1 (v2 + 1) _ (by omega) ⟨c ++ c2, [(4, 1)], O ++ c ++ c2, ?_, by omega, Or.inr rfl, ?_, by omega, ?_, wl1, ?_, mR_trans st1 mr⟩
                · rw [← List.append_assoc]
                  exact L_h904
                · rw [List.length_append]
                  omega
                · rw [if_neg (by decide), mFl_21, List.append_assoc]
                · rcases ty with ⟨y, s⟩ | ⟨y, -⟩
                  · exact Or.inr ⟨rfl, c, c2, rfl, asC_le s (by omega), asC_le sc (by omega)⟩
                  · omega
              · skip
                exfalso
                omega
            · skip
              have lt1 : (O ++ c).length < 300 := by
                rw [List.length_append]
                omega
              refine s_161 (by omega) tb L_H lt1 (fun h906 L_h906 => ?_)
              refine s_160 (by omega) tb L_h906 (by omega) (fun h908 L_h908 => ?_)
              have hK : H0 55 i' = 4 := by omega
              have hv : ¬ v = 0 := by assumption
              rw [if_neg hv] at fl
              have st1 : rMK H0 (0, i, 0, [(2, 0)], [], O, C) (0, i' + 1, 0, [(2, 0)], ([((4 : Int), (1 : Int))]), (O ++ c ++ [10004]), C) := mR_trans ms (mR_one ok1 (by
                rw [mS_3]
                unfold mS3
                rw [if_pos (Or.inl hK), hK, eL, show mRk 4 = 1 from by decide, ← mFl_two (show (1 : Int) ≤ 2 by decide), fl]
                dsimp only
                rw [mFl_11]))
              have ol0 : (O ++ c ++ [10004]).length = O.length + c.length + 1 := by
                rw [List.length_append, List.length_append]
                rfl
              have wl1 : ([((4 : Int), (1 : Int))]).length ≤ 2 := by
                exact Nat.le_succ 1
              have wm1 : ∀ p ∈ ([((4 : Int), (1 : Int))]), p.2 ≤ (1 : Int) := by
                intro p hp
                rcases List.mem_cons.mp hp with e | e
                · rw [e]
                  exact Int.le_refl _
                · cases e
              refine s_164 (by omega) ([((4 : Int), (1 : Int))]) C tb L_h908 ⟨by omega, by omega, wl1, cC, wm1⟩ (fun J911 h910 P => P.elim (fun ok => ?_) (fun fa => ⟨fun c => absurd fa.1 c, fun _ => hQ 0 h910 (Or.inr ⟨rfl, faP_pre st1 fa.2⟩)⟩))
              obtain ⟨hr, j, c2, ⟨L_h910, lj, lc, sc⟩, mr⟩ := ok
              have lt2 : ((O ++ c ++ [10004]) ++ c2).length < 300 := by
                rw [List.length_append]
                omega
              refine ⟨fun cc5 => ?_, fun cc5 => ?_⟩
              · skip
                refine ⟨?_, ?_⟩
                · first | omega | (unfold xI; omega) | (exfalso; omega)
                refine ih j 1 (v2 + 1) _ (by omega) ⟨c ++ [10004] ++ c2, [(4, 1)], O ++ c ++ [10004] ++ c2, ?_, by omega, Or.inr rfl, ?_, by omega, ?_, wl1, ?_, mR_trans st1 mr⟩
                · rw [← List.append_assoc, ← List.append_assoc]
                  exact L_h910
                · rw [List.length_append, List.length_append]
                  simp only [List.length_cons, List.length_nil]
                  omega
                · rw [if_neg (by decide), mFl_21, ← List.append_assoc, ← List.append_assoc]
                · rcases ty with ⟨y, -⟩ | ⟨-, a, b, e, sa, sb⟩
                  · exact absurd y hv
                  · refine Or.inr ⟨rfl, c ++ [10004], c2, rfl, ?_, asC_le sc (by omega)⟩
                    rw [e, List.append_assoc]
                    exact asC_bo sa sb (Or.inl rfl)
              · skip
                exfalso
                omega
        · skip
          refine ⟨fun c3 => ?_, fun c3 => ?_⟩
          · skip
            have nk : ¬ (H0 55 i' = 4 ∨ H0 55 i' = 5) := by omega
            refine U_165_101 (by omega) v v2 h ?_
            refine ⟨fun c1 => ?_, fun c1 => ?_⟩
            · skip
              have hv : v = 0 := by assumption
              rw [if_pos hv] at fl
              refine hQ 1 _ (Or.inl ⟨rfl, i', c, Wm, Om, ⟨L_H, li, by omega, ?_⟩, nk, ?_, wl, ms⟩)
              · rcases ty with ⟨-, y⟩ | ⟨y, -⟩
                · exact asC_le y (by omega)
                · omega
              · rw [← mFl_two (show (1 : Int) ≤ 2 by decide), fl]
                rfl
            · skip
              have lt1 : (O ++ c).length < 300 := by
                rw [List.length_append]
                omega
              refine s_161 (by omega) tb L_H lt1 (fun h914 L_h914 => ?_)
              have hv : ¬ v = 0 := by assumption
              rw [if_neg hv] at fl
              refine hQ 1 _ (Or.inl ⟨rfl, i', c ++ [10004], Wm, Om, ⟨by rw [← List.append_assoc]; exact L_h914, li, by rw [List.length_append]; simp only [List.length_cons, List.length_nil]; omega, ?_⟩, nk, ?_, wl, ms⟩)
              · rcases ty with ⟨y, -⟩ | ⟨-, a, b, e, sa, sb⟩
                · exact absurd y hv
                · rw [e, List.append_assoc]
                  exact asC_bo sa sb (Or.inl rfl)
              · rw [← mFl_two (show (1 : Int) ≤ 2 by decide), fl]
                dsimp only
                rw [mFl_11, List.append_assoc]
          · skip
            refine U_165_36 (by omega) v v2 h ?_
            rw [k12]
            refine ⟨fun cc1 => ?_, fun cc1 => ?_⟩
            · skip
              refine s_160 (by omega) tb L_H (by omega) (fun h920 L_h920 => ?_)
              have hK : H0 55 i' = 5 := by omega
              have st1 : rMK H0 (0, i, 0, [(2, 0)], [], O, C) (0, i' + 1, 0, [(2, 0)], (((5 : Int), (1 : Int)) :: (if v = 0 then [] else [(4, 1)])), (O ++ c), C) := mR_trans ms (mR_one ok1 (by
                rw [mS_3]
                unfold mS3
                rw [if_pos (Or.inr hK), hK, eL, show mRk 5 = 2 from by decide, fl]))
              have ol0 : (O ++ c).length = O.length + c.length := List.length_append
              have wl1 : (((5 : Int), (1 : Int)) :: (if v = 0 then [] else [(4, 1)])).length ≤ 2 := by
                show (if v = 0 then ([] : List (Int × Int)) else [(4, 1)]).length + 1 ≤ 2
                split
                · exact Nat.le_succ 1
                · exact Nat.le_refl 2
              have wm1 : ∀ p ∈ (((5 : Int), (1 : Int)) :: (if v = 0 then [] else [(4, 1)])), p.2 ≤ (1 : Int) := by
                intro p hp
                rcases List.mem_cons.mp hp with e | e
                · rw [e]
                  exact Int.le_refl _
                · split at e
                  · cases e
                  · rcases List.mem_cons.mp e with e | e
                    · rw [e]
                      exact Int.le_refl _
                    · cases e
              refine s_164 (by omega) (((5 : Int), (1 : Int)) :: (if v = 0 then [] else [(4, 1)])) C tb L_h920 ⟨by omega, by omega, wl1, cC, wm1⟩ (fun J923 h922 P => P.elim (fun ok => ?_) (fun fa => ⟨fun c => absurd fa.1 c, fun _ => hQ 0 h922 (Or.inr ⟨rfl, faP_pre st1 fa.2⟩)⟩))
              obtain ⟨hr, j, c2, ⟨L_h922, lj, lc, sc⟩, mr⟩ := ok
              have lt2 : ((O ++ c) ++ c2).length < 300 := by
                rw [List.length_append]
                omega
              refine ⟨fun cc2 => ?_, fun cc2 => ?_⟩
              · skip
                refine s_161 (by omega) tb L_h922 lt2 (fun h924 L_h924 => ?_)
                refine ⟨?_, ?_⟩
                · first | omega | (unfold xI; omega) | (exfalso; omega)
                refine ih j v (v2 + 1) _ (by omega) ⟨c ++ (c2 ++ [10005]), (5, 1) :: (if v = 0 then [] else [(4, 1)]), O ++ c ++ c2, ?_, by omega, hv, ?_, by omega, ?_, wl1, ?_, mR_trans st1 mr⟩
                · rw [← List.append_assoc, ← List.append_assoc]
                  exact L_h924
                · rw [List.length_append, List.length_append]
                  simp only [List.length_cons, List.length_nil]
                  omega
                · rw [mFl_25, ← List.append_assoc, ← List.append_assoc]
                  split
                  · rfl
                  · exact mFl_21 _
                · rcases ty with ⟨y, s⟩ | ⟨y, a, b, e, sa, sb⟩
                  · exact Or.inl ⟨y, asC_bo s sc (Or.inr rfl)⟩
                  · exact Or.inr ⟨y, a, b ++ (c2 ++ [10005]), by rw [e, List.append_assoc], sa, asC_bo sb sc (Or.inr rfl)⟩
              · skip
                exfalso
                omega
            · skip
              refine ⟨fun cc3 => ?_, fun cc3 => ?_⟩
              · skip
                refine s_160 (by omega) tb L_H (by omega) (fun h926 L_h926 => ?_)
                have hK : H0 55 i' = 4 := by omega
                have hv : v = 0 := by assumption
                rw [if_pos hv] at fl
                have st1 : rMK H0 (0, i, 0, [(2, 0)], [], O, C) (0, i' + 1, 0, [(2, 0)], ([((4 : Int), (1 : Int))]), (O ++ c), C) := mR_trans ms (mR_one ok1 (by
                  rw [mS_3]
                  unfold mS3
                  rw [if_pos (Or.inl hK), hK, eL, show mRk 4 = 1 from by decide, ← mFl_two (show (1 : Int) ≤ 2 by decide), fl]
                  rfl))
                have ol0 : (O ++ c).length = O.length + c.length := List.length_append
                have wl1 : ([((4 : Int), (1 : Int))]).length ≤ 2 := by
                  exact Nat.le_succ 1
                have wm1 : ∀ p ∈ ([((4 : Int), (1 : Int))]), p.2 ≤ (1 : Int) := by
                  intro p hp
                  rcases List.mem_cons.mp hp with e | e
                  · rw [e]
                    exact Int.le_refl _
                  · cases e
                refine s_164 (by omega) ([((4 : Int), (1 : Int))]) C tb L_h926 ⟨by omega, by omega, wl1, cC, wm1⟩ (fun J929 h928 P => P.elim (fun ok => ?_) (fun fa => ⟨fun c => absurd fa.1 c, fun _ => hQ 0 h928 (Or.inr ⟨rfl, faP_pre st1 fa.2⟩)⟩))
                obtain ⟨hr, j, c2, ⟨L_h928, lj, lc, sc⟩, mr⟩ := ok
                have lt2 : ((O ++ c) ++ c2).length < 300 := by
                  rw [List.length_append]
                  omega
                refine ⟨fun cc4 => ?_, fun cc4 => ?_⟩
                · skip
                  refine ⟨?_, ?_⟩
                  · first | omega | (unfold xI; omega) | (exfalso; omega)
                  refine ih j 1 (v2 + 1) _ (by omega) ⟨c ++ c2, [(4, 1)], O ++ c ++ c2, ?_, by omega, Or.inr rfl, ?_, by omega, ?_, wl1, ?_, mR_trans st1 mr⟩
                  · rw [← List.append_assoc]
                    exact L_h928
                  · rw [List.length_append]
                    omega
                  · rw [if_neg (by decide), mFl_21, List.append_assoc]
                  · rcases ty with ⟨y, s⟩ | ⟨y, -⟩
                    · exact Or.inr ⟨rfl, c, c2, rfl, asC_le s (by omega), asC_le sc (by omega)⟩
                    · omega
                · skip
                  exfalso
                  omega
              · skip
                have lt1 : (O ++ c).length < 300 := by
                  rw [List.length_append]
                  omega
                refine s_161 (by omega) tb L_H lt1 (fun h930 L_h930 => ?_)
                refine s_160 (by omega) tb L_h930 (by omega) (fun h932 L_h932 => ?_)
                have hK : H0 55 i' = 4 := by omega
                have hv : ¬ v = 0 := by assumption
                rw [if_neg hv] at fl
                have st1 : rMK H0 (0, i, 0, [(2, 0)], [], O, C) (0, i' + 1, 0, [(2, 0)], ([((4 : Int), (1 : Int))]), (O ++ c ++ [10004]), C) := mR_trans ms (mR_one ok1 (by
                  rw [mS_3]
                  unfold mS3
                  rw [if_pos (Or.inl hK), hK, eL, show mRk 4 = 1 from by decide, ← mFl_two (show (1 : Int) ≤ 2 by decide), fl]
                  dsimp only
                  rw [mFl_11]))
                have ol0 : (O ++ c ++ [10004]).length = O.length + c.length + 1 := by
                  rw [List.length_append, List.length_append]
                  rfl
                have wl1 : ([((4 : Int), (1 : Int))]).length ≤ 2 := by
                  exact Nat.le_succ 1
                have wm1 : ∀ p ∈ ([((4 : Int), (1 : Int))]), p.2 ≤ (1 : Int) := by
                  intro p hp
                  rcases List.mem_cons.mp hp with e | e
                  · rw [e]
                    exact Int.le_refl _
                  · cases e
                refine s_164 (by omega) ([((4 : Int), (1 : Int))]) C tb L_h932 ⟨by omega, by omega, wl1, cC, wm1⟩ (fun J935 h934 P => P.elim (fun ok => ?_) (fun fa => ⟨fun c => absurd fa.1 c, fun _ => hQ 0 h934 (Or.inr ⟨rfl, faP_pre st1 fa.2⟩)⟩))
                obtain ⟨hr, j, c2, ⟨L_h934, lj, lc, sc⟩, mr⟩ := ok
                have lt2 : ((O ++ c ++ [10004]) ++ c2).length < 300 := by
                  rw [List.length_append]
                  omega
                refine ⟨fun cc5 => ?_, fun cc5 => ?_⟩
                · skip
                  refine ⟨?_, ?_⟩
                  · first | omega | (unfold xI; omega) | (exfalso; omega)
                  refine ih j 1 (v2 + 1) _ (by omega) ⟨c ++ [10004] ++ c2, [(4, 1)], O ++ c ++ [10004] ++ c2, ?_, by omega, Or.inr rfl, ?_, by omega, ?_, wl1, ?_, mR_trans st1 mr⟩
                  · rw [← List.append_assoc, ← List.append_assoc]
                    exact L_h934
                  · rw [List.length_append, List.length_append]
                    simp only [List.length_cons, List.length_nil]
                    omega
                  · rw [if_neg (by decide), mFl_21, ← List.append_assoc, ← List.append_assoc]
                  · rcases ty with ⟨y, -⟩ | ⟨-, a, b, e, sa, sb⟩
                    · exact absurd y hv
                    · refine Or.inr ⟨rfl, c ++ [10004], c2, rfl, ?_, asC_le sc (by omega)⟩
                      rw [e, List.append_assoc]
                      exact asC_bo sa sb (Or.inl rfl)
                · skip
                  exfalso
                  omega
  refine U_165 (by omega) H ?_
  refine s_164 (by omega) [] C tb L0 ⟨i1, O1, by decide, cC, fun p hp => by cases hp⟩ (fun J937 h936 P => P.elim (fun ok => ?_) (fun fa => ⟨fun c => absurd fa.1 c, fun _ => hQ 0 h936 (Or.inr ⟨rfl, fa.2⟩)⟩))
  obtain ⟨hr, j, c, ⟨L_HH, lj, lc, sc⟩, mr⟩ := ok
  refine ⟨fun c1 => ?_, fun c1 => ?_⟩
  · skip
    refine key ((H0 51 10 - j).toNat + 1) j 0 0 _ (by omega) ⟨c, [], O ++ c, L_HH, lj, Or.inl rfl, by omega, by omega, rfl, by decide, Or.inl ⟨rfl, asC_le sc (by omega)⟩, mr⟩
  · skip
    exfalso
    omega
