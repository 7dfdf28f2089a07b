/-! THE PURE LAYER 47: the law is read: clauses, the whole -/
set_option maxRecDepth 4000 in
theorem U_166 {X : Int × (Int → Int)} {d : Nat} {Q : Int → XH → Prop} (hd : 1 ≤ d) (a : Int) (H : XH) (h : ((((0 ≤ (H 51 12) ∧ (H 51 12) ≤ 3)) → ((¬ H 51 12 = 0) → ((¬ H 51 12 = 1) → xq X d 166 Q 49 [(2, (0, H 51 12)), (0, (2, 51)), (1, (0, a))] [] H) ∧ (¬ (¬ H 51 12 = 1) → ((H 51 15 = 0) → xq X d 166 Q 49 [(2, (0, H 51 12)), (0, (2, 51)), (1, (0, a))] [] H) ∧ (¬ (H 51 15 = 0) → (xc X d 159 [(2, 51), (0, 4)] H (fun (J939 : Int) (h938 : XH) => (0 ≤ J939 ∧ J939 ≤ 1) ∧ Q J939 h938))))) ∧ (¬ (¬ H 51 12 = 0) → ((¬ H 51 14 = 0) → (xc X d 159 [(2, 51), (0, 4)] H (fun (J941 : Int) (h940 : XH) => (0 ≤ J941 ∧ J941 ≤ 1) ∧ Q J941 h940))) ∧ (¬ (¬ H 51 14 = 0) → ((¬ H 51 12 = 1) → xq X d 166 Q 49 [(2, (0, H 51 12)), (0, (2, 51)), (1, (0, a))] [] H) ∧ (¬ (¬ H 51 12 = 1) → ((H 51 15 = 0) → xq X d 166 Q 49 [(2, (0, H 51 12)), (0, (2, 51)), (1, (0, a))] [] H) ∧ (¬ (H 51 15 = 0) → (xc X d 159 [(2, 51), (0, 4)] H (fun (J943 : Int) (h942 : XH) => (0 ≤ J943 ∧ J943 ≤ 1) ∧ Q J943 h942))))))) ∧ (¬ ((0 ≤ (H 51 12) ∧ (H 51 12) ≤ 3)) → (xc X d 159 [(2, 51), (0, 1)] H (fun (J945 : Int) (h944 : XH) => (0 ≤ J945 ∧ J945 ≤ 1) ∧ Q J945 h944))))) : xc X (d + 1) 166 [(2, 51), (0, a)] H Q := by
  refine ⟨rfl, ?_⟩
  show xq X d 166 Q 100000 [(0, (2, 51)), (1, (0, a))] [] H
  refine xq_run [11, 19, 48, 49, 60, 80, 84, 98, 105, 106, 126, 136, 140] 300 ?_
  show xWM (xE X) xMC d 19 [(0, H 51 12), (0, 0), (0, 3)] xKZ H _
  refine xc_in (s_19 (by omega) (H 51 12) 0 3 H  ?_)
  replace h := h
  show xq X d 166 Q 11 [(2, (0, H 51 12)), (0, (2, 51)), (1, (0, a))] [(0, xb (0 ≤ (H 51 12) ∧ (H 51 12) ≤ 3))] H
  refine xq_run [11, 19, 48, 49, 60, 80, 84, 98, 105, 106, 126, 136, 140] 300 ?_
  show ((¬ xb (0 ≤ (H 51 12) ∧ (H 51 12) ≤ 3) = 0) → ((¬ H 51 12 = 0) → ((¬ H 51 12 = 1) → xq X d 166 Q 49 [(2, (0, H 51 12)), (0, (2, 51)), (1, (0, a))] [] H) ∧ (¬ (¬ H 51 12 = 1) → ((H 51 15 = 0) → xq X d 166 Q 49 [(2, (0, H 51 12)), (0, (2, 51)), (1, (0, a))] [] H) ∧ (¬ (H 51 15 = 0) → xWM (xE X) xMC d 159 [(2, 51), (0, 4)] xKZ H _))) ∧ (¬ (¬ H 51 12 = 0) → ((¬ H 51 14 = 0) → xWM (xE X) xMC d 159 [(2, 51), (0, 4)] xKZ H _) ∧ (¬ (¬ H 51 14 = 0) → ((¬ H 51 12 = 1) → xq X d 166 Q 49 [(2, (0, H 51 12)), (0, (2, 51)), (1, (0, a))] [] H) ∧ (¬ (¬ H 51 12 = 1) → ((H 51 15 = 0) → xq X d 166 Q 49 [(2, (0, H 51 12)), (0, (2, 51)), (1, (0, a))] [] H) ∧ (¬ (H 51 15 = 0) → xWM (xE X) xMC d 159 [(2, 51), (0, 4)] xKZ H _))))) ∧ (¬ (¬ xb (0 ≤ (H 51 12) ∧ (H 51 12) ≤ 3) = 0) → xWM (xE X) xMC d 159 [(2, 51), (0, 1)] xKZ H _)
  refine ⟨fun k_ => ?_, fun k_ => ?_⟩
  · replace h := h.1 (xbe_1.mp k_)
    refine ⟨fun k_ => ?_, fun k_ => ?_⟩
    · replace h := h.1 k_
      refine ⟨fun k_ => ?_, fun k_ => ?_⟩
      · replace h := h.1 k_
        exact h
      · replace h := h.2 k_
        refine ⟨fun k_ => ?_, fun k_ => ?_⟩
        · replace h := h.1 k_
          exact h
        · replace h := h.2 k_
          refine xc_in (xc_mono (fun J939 h938 q_ => ?_) h)
          replace h := q_
          show xq X d 166 Q 48 [(2, (0, H 51 12)), (0, (2, 51)), (1, (0, a))] [(0, J939)] h938
          refine xq_run [11, 19, 48, 49, 60, 80, 84, 98, 105, 106, 126, 136, 140] 300 ?_
          show xfR 3 J939 ∧ xKZ = xKZ ∧ Q J939 h938
          exact ⟨h.1, rfl, h.2⟩
    · replace h := h.2 k_
      refine ⟨fun k_ => ?_, fun k_ => ?_⟩
      · replace h := h.1 k_
        refine xc_in (xc_mono (fun J941 h940 q_ => ?_) h)
        replace h := q_
        show xq X d 166 Q 48 [(2, (0, H 51 12)), (0, (2, 51)), (1, (0, a))] [(0, J941)] h940
        refine xq_run [11, 19, 48, 49, 60, 80, 84, 98, 105, 106, 126, 136, 140] 300 ?_
        show xfR 3 J941 ∧ xKZ = xKZ ∧ Q J941 h940
        exact ⟨h.1, rfl, h.2⟩
      · replace h := h.2 k_
        refine ⟨fun k_ => ?_, fun k_ => ?_⟩
        · replace h := h.1 k_
          exact h
        · replace h := h.2 k_
          refine ⟨fun k_ => ?_, fun k_ => ?_⟩
          · replace h := h.1 k_
            exact h
          · replace h := h.2 k_
            refine xc_in (xc_mono (fun J943 h942 q_ => ?_) h)
            replace h := q_
            show xq X d 166 Q 48 [(2, (0, H 51 12)), (0, (2, 51)), (1, (0, a))] [(0, J943)] h942
            refine xq_run [11, 19, 48, 49, 60, 80, 84, 98, 105, 106, 126, 136, 140] 300 ?_
            show xfR 3 J943 ∧ xKZ = xKZ ∧ Q J943 h942
            exact ⟨h.1, rfl, h.2⟩
  · replace h := h.2 (xbe_n.mp k_)
    refine xc_in (xc_mono (fun J945 h944 q_ => ?_) h)
    replace h := q_
    show xq X d 166 Q 19 [(2, (0, H 51 12)), (0, (2, 51)), (1, (0, a))] [(0, J945)] h944
    refine xq_run [11, 19, 48, 49, 60, 80, 84, 98, 105, 106, 126, 136, 140] 300 ?_
    show xfR 3 J945 ∧ xKZ = xKZ ∧ Q J945 h944
    exact ⟨h.1, rfl, h.2⟩
theorem U_166_49 {X : Int × (Int → Int)} {d : Nat} {Q : Int → XH → Prop} (hd : 0 ≤ d) (v2 v1 : Int) (H : XH) (h : ((v1 < 10) → ((¬ v2 = 0) → ((¬ v2 = 1) → xq X d 166 Q 80 [(2, (0, v2)), (0, (2, 51)), (1, (0, v1))] [] H) ∧ (¬ (¬ v2 = 1) → xq X d 166 Q 80 [(2, (0, v2)), (0, (2, 51)), (1, (0, v1))] [] (xup H 51 15 1))) ∧ (¬ (¬ v2 = 0) → ((¬ v2 = 1) → xq X d 166 Q 80 [(2, (0, v2)), (0, (2, 51)), (1, (0, v1))] [] (xup H 51 14 1)) ∧ (¬ (¬ v2 = 1) → xq X d 166 Q 80 [(2, (0, v2)), (0, (2, 51)), (1, (0, v1))] [] (xup (xup H 51 14 1) 51 15 1)))) ∧ (¬ (v1 < 10) → (xc X d 159 [(2, 51), (0, 5)] H (fun (J947 : Int) (h946 : XH) => (0 ≤ J947 ∧ J947 ≤ 1) ∧ Q J947 h946)))) : xq X d 166 Q 49 [(2, (0, v2)), (0, (2, 51)), (1, (0, v1))] [] H := by
  show xq X d 166 Q 49 [(2, (0, v2)), (0, (2, 51)), (1, (0, v1))] [] H
  refine xq_run [11, 19, 48, 49, 60, 80, 84, 98, 105, 106, 126, 136, 140] 300 ?_
  show ((v1 < 10) → ((¬ v2 = 0) → ((¬ v2 = 1) → xq X d 166 Q 80 [(2, (0, v2)), (0, (2, 51)), (1, (0, v1))] [] H) ∧ (¬ (¬ v2 = 1) → ((0 : Int) ≤ 1 ∧ (1 : Int) ≤ 1) ∧ xq X d 166 Q 80 [(2, (0, v2)), (0, (2, 51)), (1, (0, v1))] [] (xup H 51 15 1))) ∧ (¬ (¬ v2 = 0) → ((0 : Int) ≤ 1 ∧ (1 : Int) ≤ 1) ∧ ((¬ v2 = 1) → xq X d 166 Q 80 [(2, (0, v2)), (0, (2, 51)), (1, (0, v1))] [] (xup H 51 14 1)) ∧ (¬ (¬ v2 = 1) → ((0 : Int) ≤ 1 ∧ (1 : Int) ≤ 1) ∧ xq X d 166 Q 80 [(2, (0, v2)), (0, (2, 51)), (1, (0, v1))] [] (xup (xup H 51 14 1) 51 15 1)))) ∧ (¬ (v1 < 10) → xWM (xE X) xMC d 159 [(2, 51), (0, 5)] xKZ H _)
  refine ⟨fun k_ => ?_, fun k_ => ?_⟩
  · replace h := h.1 k_
    refine ⟨fun k_ => ?_, fun k_ => ?_⟩
    · replace h := h.1 k_
      refine ⟨fun k_ => ?_, fun k_ => ?_⟩
      · replace h := h.1 k_
        exact h
      · replace h := h.2 k_
        refine ⟨⟨by decide, by decide⟩, ?_⟩
        exact h
    · replace h := h.2 k_
      refine ⟨⟨by decide, by decide⟩, ?_⟩
      refine ⟨fun k_ => ?_, fun k_ => ?_⟩
      · replace h := h.1 k_
        exact h
      · replace h := h.2 k_
        refine ⟨⟨by decide, by decide⟩, ?_⟩
        exact h
  · replace h := h.2 k_
    refine xc_in (xc_mono (fun J947 h946 q_ => ?_) h)
    replace h := q_
    show xq X d 166 Q 60 [(2, (0, v2)), (0, (2, 51)), (1, (0, v1))] [(0, J947)] h946
    refine xq_run [11, 19, 48, 49, 60, 80, 84, 98, 105, 106, 126, 136, 140] 300 ?_
    show xfR 3 J947 ∧ xKZ = xKZ ∧ Q J947 h946
    exact ⟨h.1, rfl, h.2⟩
theorem U_166_80 {X : Int × (Int → Int)} {d : Nat} {Q : Int → XH → Prop} (hd : 0 ≤ d) (v2 v1 : Int) (H : XH) (h : (xc X d 160 [(2, 51)] H (fun (J949 : Int) (h948 : XH) => ((v2 = 0) → (xc X d 163 [(2, 51), (0, 0)] h948 (fun (J951 : Int) (h950 : XH) => xq X d 166 Q 106 [(3, (0, J951)), (2, (0, v2)), (0, (2, 51)), (1, (0, v1))] [] h950))) ∧ (¬ (v2 = 0) → ((¬ v2 = 1) → (xc X d 165 [(2, 51)] h948 (fun (J953 : Int) (h952 : XH) => xq X d 166 Q 106 [(3, (0, J953)), (2, (0, v2)), (0, (2, 51)), (1, (0, v1))] [] h952))) ∧ (¬ (¬ v2 = 1) → (xc X d 163 [(2, 51), (0, 0)] h948 (fun (J955 : Int) (h954 : XH) => xq X d 166 Q 106 [(3, (0, J955)), (2, (0, v2)), (0, (2, 51)), (1, (0, v1))] [] h954))))))) : xq X d 166 Q 80 [(2, (0, v2)), (0, (2, 51)), (1, (0, v1))] [] H := by
  show xq X d 166 Q 80 [(2, (0, v2)), (0, (2, 51)), (1, (0, v1))] [] H
  refine xq_run [11, 19, 48, 49, 60, 80, 84, 98, 105, 106, 126, 136, 140] 300 ?_
  show xWM (xE X) xMC d 160 [(2, 51)] xKZ H _
  refine xc_in (xc_mono (fun J949 h948 q_ => ?_) h)
  replace h := q_
  show xq X d 166 Q 84 [(2, (0, v2)), (0, (2, 51)), (1, (0, v1))] [] h948
  refine xq_run [11, 19, 48, 49, 60, 80, 84, 98, 105, 106, 126, 136, 140] 300 ?_
  show ((v2 = 0) → xWM (xE X) xMC d 163 [(2, 51), (0, 0)] xKZ h948 _) ∧ (¬ (v2 = 0) → ((¬ v2 = 1) → xWM (xE X) xMC d 165 [(2, 51)] xKZ h948 _) ∧ (¬ (¬ v2 = 1) → xWM (xE X) xMC d 163 [(2, 51), (0, 0)] xKZ h948 _))
  refine ⟨fun k_ => ?_, fun k_ => ?_⟩
  · replace h := h.1 k_
    refine xc_in (xc_mono (fun J951 h950 q_ => ?_) h)
    replace h := q_
    show xq X d 166 Q 98 [(2, (0, v2)), (0, (2, 51)), (1, (0, v1))] [(0, J951)] h950
    refine xq_run [11, 19, 48, 49, 60, 80, 84, 98, 105, 106, 126, 136, 140] 300 ?_
    show xq X d 166 Q 105 [(2, (0, v2)), (0, (2, 51)), (1, (0, v1))] [(0, J951)] h950
    show xq X d 166 Q 105 [(2, (0, v2)), (0, (2, 51)), (1, (0, v1))] [(0, J951)] h950
    refine xq_run [11, 19, 48, 49, 60, 80, 84, 98, 105, 106, 126, 136, 140] 300 ?_
    show xq X d 166 Q 106 [(3, (0, J951)), (2, (0, v2)), (0, (2, 51)), (1, (0, v1))] [] h950
    exact h
  · replace h := h.2 k_
    refine ⟨fun k_ => ?_, fun k_ => ?_⟩
    · replace h := h.1 k_
      refine xc_in (xc_mono (fun J953 h952 q_ => ?_) h)
      replace h := q_
      show xq X d 166 Q 105 [(2, (0, v2)), (0, (2, 51)), (1, (0, v1))] [(0, J953)] h952
      refine xq_run [11, 19, 48, 49, 60, 80, 84, 98, 105, 106, 126, 136, 140] 300 ?_
      show xq X d 166 Q 106 [(3, (0, J953)), (2, (0, v2)), (0, (2, 51)), (1, (0, v1))] [] h952
      exact h
    · replace h := h.2 k_
      refine xc_in (xc_mono (fun J955 h954 q_ => ?_) h)
      replace h := q_
      show xq X d 166 Q 98 [(2, (0, v2)), (0, (2, 51)), (1, (0, v1))] [(0, J955)] h954
      refine xq_run [11, 19, 48, 49, 60, 80, 84, 98, 105, 106, 126, 136, 140] 300 ?_
      show xq X d 166 Q 105 [(2, (0, v2)), (0, (2, 51)), (1, (0, v1))] [(0, J955)] h954
      show xq X d 166 Q 105 [(2, (0, v2)), (0, (2, 51)), (1, (0, v1))] [(0, J955)] h954
      refine xq_run [11, 19, 48, 49, 60, 80, 84, 98, 105, 106, 126, 136, 140] 300 ?_
      show xq X d 166 Q 106 [(3, (0, J955)), (2, (0, v2)), (0, (2, 51)), (1, (0, v1))] [] h954
      exact h
theorem U_166_106 {X : Int × (Int → Int)} {d : Nat} {Q : Int → XH → Prop} (hd : 0 ≤ d) (v3 v2 v1 : Int) (H : XH) (h : ((¬ v3 = 0) → ((H 51 12 = 40) → (xI (10000 + v2)) ∧ (xc X d 161 [(2, 51), (0, 10000 + v2)] H (fun (J957 : Int) (h956 : XH) => (xc X d 160 [(2, 51)] h956 (fun (J959 : Int) (h958 : XH) => Q 1 h958))))) ∧ (¬ (H 51 12 = 40) → (xc X d 159 [(2, 51), (0, 1)] H (fun (J961 : Int) (h960 : XH) => (0 ≤ J961 ∧ J961 ≤ 1) ∧ Q J961 h960)))) ∧ (¬ (¬ v3 = 0) → Q 0 H)) : xq X d 166 Q 106 [(3, (0, v3)), (2, (0, v2)), (0, (2, 51)), (1, (0, v1))] [] H := by
  show xq X d 166 Q 106 [(3, (0, v3)), (2, (0, v2)), (0, (2, 51)), (1, (0, v1))] [] H
  refine xq_run [11, 19, 48, 49, 60, 80, 84, 98, 105, 106, 126, 136, 140] 300 ?_
  show ((¬ v3 = 0) → ((H 51 12 = 40) → (xI (10000 + v2)) ∧ xWM (xE X) xMC d 161 [(2, 51), (0, 10000 + v2)] xKZ H _) ∧ (¬ (H 51 12 = 40) → xWM (xE X) xMC d 159 [(2, 51), (0, 1)] xKZ H _)) ∧ (¬ (¬ v3 = 0) → xfR 3 0 ∧ xKZ = xKZ ∧ Q 0 H)
  refine ⟨fun k_ => ?_, fun k_ => ?_⟩
  · replace h := h.1 k_
    refine ⟨fun k_ => ?_, fun k_ => ?_⟩
    · replace h := h.1 k_
      refine ⟨h.1, ?_⟩
      replace h := h.2
      refine xc_in (xc_mono (fun J957 h956 q_ => ?_) h)
      replace h := q_
      show xq X d 166 Q 136 [(3, (0, v3)), (2, (0, v2)), (0, (2, 51)), (1, (0, v1))] [] h956
      refine xq_run [11, 19, 48, 49, 60, 80, 84, 98, 105, 106, 126, 136, 140] 300 ?_
      show xWM (xE X) xMC d 160 [(2, 51)] xKZ h956 _
      refine xc_in (xc_mono (fun J959 h958 q_ => ?_) h)
      replace h := q_
      show xq X d 166 Q 140 [(3, (0, v3)), (2, (0, v2)), (0, (2, 51)), (1, (0, v1))] [] h958
      refine xq_run [11, 19, 48, 49, 60, 80, 84, 98, 105, 106, 126, 136, 140] 300 ?_
      show xfR 3 1 ∧ xKZ = xKZ ∧ Q 1 h958
      exact ⟨xfR3_1, rfl, h⟩
    · replace h := h.2 k_
      refine xc_in (xc_mono (fun J961 h960 q_ => ?_) h)
      replace h := q_
      show xq X d 166 Q 126 [(3, (0, v3)), (2, (0, v2)), (0, (2, 51)), (1, (0, v1))] [(0, J961)] h960
      refine xq_run [11, 19, 48, 49, 60, 80, 84, 98, 105, 106, 126, 136, 140] 300 ?_
      show xfR 3 J961 ∧ xKZ = xKZ ∧ Q J961 h960
      exact ⟨h.1, rfl, h.2⟩
  · replace h := h.2 k_
    exact ⟨xfR3_0, rfl, h⟩

def clP (H0 : XH) (ta lo i : Int) (O : List Int) (C : List (Int × Int)) (r : Int) (h : XH) : Prop := (r = 1 ∧ ∃ (j : Int) (c : List Int) (w : Int), (0 ≤ w ∧ w ≤ 3) ∧ rLS H0 (if w = 0 then 1 else ta) (if w = 1 then 1 else lo) j (O ++ (c ++ [10000 + w])) h ∧ (i < j ∧ j ≤ H0 51 10) ∧ (c.length : Int) + 1 ≤ j - i ∧ (w ≤ 1 → suC 22 c) ∧ (2 ≤ w → asC 22 c) ∧ C.length < 10 ∧ rMK H0 (4, i, 0, [], [], O, C) (4, j, 0, [], [], O ++ (c ++ [10000 + w]), C ++ [(w, (O.length : Int))])) ∨ (r = 0 ∧ faP H0 (4, i, 0, [], [], O, C) h)
theorem mLst_at (C : List (Int × Int)) (p : Int × Int) : mLst (C ++ [p]) = p := by
  unfold mLst
  simp
theorem rLS_14 {H0 h : XH} {ta lo i : Int} {O : List Int} (L : rLS H0 ta lo i O h) : rLS H0 1 lo i O (xup h 51 14 1) := by
  obtain ⟨a, b, c, e, f, g, k, l, m⟩ := L
  exact ⟨fun o p q r => by rw [xup_ne p]; exact a o p q r, fun k p q r s => by rw [xup_k r]; exact b k p q r s, c, e, ⟨xup_self _ _ _ _, by rw [xup_k (by decide)]; exact f.2⟩, g, k, l, m⟩
theorem rLS_15 {H0 h : XH} {ta lo i : Int} {O : List Int} (L : rLS H0 ta lo i O h) : rLS H0 ta 1 i O (xup h 51 15 1) := by
  obtain ⟨a, b, c, e, f, g, k, l, m⟩ := L
  exact ⟨fun o p q r => by rw [xup_ne p]; exact a o p q r, fun k p q r s => by rw [xup_k s]; exact b k p q r s, c, e, ⟨by rw [xup_k (by decide)]; exact f.1, xup_self _ _ _ _⟩, g, k, l, m⟩

/-- from behind the sum or the either of a clause: the stop -/
theorem q_166_106 {X : Int × (Int → Int)} {d : Nat} {Q : Int → XH → Prop} (hd : 2 ≤ d) {H0 h : XH} {ta lo j a w : Int} {O : List Int} (tb : rTB H0) (L_H : rLS H0 ta lo j O h) (hj : 0 ≤ j ∧ j ≤ H0 51 10) (hO : (O.length : Int) + 1 ≤ j) (hw : 0 ≤ w ∧ w ≤ 3) (hq1 : H0 55 j = 40 → ∀ h1, rLS H0 ta lo (j + 1) (O ++ [10000 + w]) h1 → Q 1 h1) (hq0 : ¬ H0 55 j = 40 → ∀ h1, rLF H0 1 j h1 → Q 0 h1) : xq X d 166 Q 106 [(3, (0, 1)), (2, (0, w)), (0, (2, 51)), (1, (0, a))] [] h := by
  have t1 := tb.1
  have t2 := tb.2.1
  have k12 : h 51 12 = H0 55 j := L_H.2.2.2.1
  have iT := jT_of tb hj.2
  refine U_166_106 (by omega) 1 w a h ?_
  rw [k12]
  refine ⟨fun c1 => ?_, fun c1 => ?_⟩
  · skip
    refine ⟨fun c2 => ?_, fun c2 => ?_⟩
    · skip
      refine ⟨?_, ?_⟩
      · first | omega | exact ⟨by omega, by omega⟩ | (unfold xI; omega) | (exfalso; omega)
      refine s_161 (by omega) tb L_H (by omega) (fun h1056 L_h1056 => ?_)
      refine s_160 (by omega) tb L_h1056 (by omega) (fun h1058 L_h1058 => ?_)
      exact hq1 (by assumption) _ L_h1058
    · skip
      refine s_159 (by omega) _ tb L_H (by omega) (fun h1060 L_h1060 => ?_)
      refine ⟨?_, ?_⟩
      · first | omega | exact ⟨by omega, by omega⟩ | (unfold xI; omega) | (exfalso; omega)
      exact hq0 (by assumption) _ L_h1060
  · skip
    exfalso
    omega

theorem q_166_80 {X : Int × (Int → Int)} {d : Nat} {Q : Int → XH → Prop} (hd : 29 ≤ d) {H0 h : XH} {ta lo ta' lo' i a w : Int} {O : List Int} {C : List (Int × Int)} (tb : rTB H0) (L_H : rLS H0 ta' lo' i O h) (i1 : 0 ≤ i ∧ i < H0 51 10) (O1 : (O.length : Int) ≤ i) (cC : C.length < 10) (hw : 0 ≤ w ∧ w ≤ 3) (hK : H0 55 i = w) (et : ta' = if w = 0 then 1 else ta) (el : lo' = if w = 1 then 1 else lo) (st : rMK H0 (4, i, 0, [], [], O, C) ((if w ≤ 1 then 1 else 0), i + 1, 0, [((if w ≤ 1 then 1 else 2), 0)], [], O, C ++ [(w, (O.length : Int))])) (hQ : ∀ r h1, clP H0 ta lo i O C r h1 → Q r h1) : xq X d 166 Q 80 [(2, (0, w)), (0, (2, 51)), (1, (0, a))] [] h := by
  have t1 := tb.1
  have t2 := tb.2.1
  have cC1 : 1 ≤ (C ++ [(w, (O.length : Int))]).length ∧ (C ++ [(w, (O.length : Int))]).length ≤ 10 := by
    rw [List.length_append]
    show 1 ≤ C.length + 1 ∧ C.length + 1 ≤ 10
    omega
  subst et el
  refine U_166_80 (by omega) w a h ?_
  refine s_160 (by omega) tb L_H (by omega) (fun h1114 L_h1114 => ?_)
  refine ⟨fun c1 => ?_, fun c1 => ?_⟩
  · skip
    rw [if_pos (show w ≤ 1 by omega), if_pos (show w ≤ 1 by omega)] at st
    refine s_163 (by omega) [(1, 0)] [] (C ++ [(w, (O.length : Int))]) tb L_h1114 ⟨⟨by omega, by decide, by omega, fP_1, by decide, by decide, cC1, (by decide : ¬ (1 : Int) = 7), fun p hp => by cases hp⟩, by decide, fun p hp => by cases hp⟩ (fun J1117 h1116 P => P.elim (fun ok => ?_) (fun fa => ?_))
    · obtain ⟨hr, j, c, W', Om, ⟨Lj, lj, lc, sc⟩, nk, fl, wl, mr⟩ := ok
      subst hr
      have lO := mFl_len (d := mLen [(1, 0)]) (r := 3) W' Om
      rw [fl, List.length_append] at lO
      have lO : Om.length ≤ O.length + c.length := lO.1
      have ok2 : mOk (H0 55) (H0 51 10) (2, j, 0, [(1, 0)], W', Om, C ++ [(w, (O.length : Int))]) := mOk_i (by decide) (by omega) (by decide) (by decide) (by simp only [List.length_nil] at wl; omega) (by omega) cC1 fP_1
      have lo1 : (O ++ c).length = O.length + c.length := List.length_append
      have jT := jT_of tb lj.2
      refine q_166_106 (by omega) tb Lj (by omega) (by omega) hw (fun e h1 L1 => hQ 1 h1 (Or.inl ⟨rfl, j + 1, c, w, hw, ?_, by omega, by omega, fun _ => suC_le sc (by omega), fun q => absurd q (by omega), by omega, ?_⟩)) (fun e h1 F1 => hQ 0 h1 (Or.inr ⟨rfl, faP_mk (o := 0) (F := [(1, 0)]) (W := W') (O := Om) (C := C ++ [(w, (O.length : Int))]) F1 (by decide) (by omega) (mR_trans st mr) ok2 ?_⟩))
      · rw [← List.append_assoc]
        exact L1
      · refine mR_trans st (mR_trans mr (mR_one ok2 ?_))
        rw [mS_2]
        unfold mS2
        rw [if_neg nk, if_neg (fun z => absurd z.1 (by decide : ¬ (1 : Int) = 6)), if_neg (fun z => absurd z.1 (by decide : ¬ (1 : Int) = 4)), if_neg (show ¬ (mTop [((1 : Int), (0 : Int))]).1 = 5 from (by decide : ¬ (1 : Int) = 5)), if_pos ⟨rfl, e⟩]
        unfold mEnd
        rw [← mFl_two (show (1 : Int) ≤ 3 by decide), fl, mLst_at, ← List.append_assoc]
        rfl
      · rw [mS_2]
        unfold mS2
        rw [if_neg nk, if_neg (fun z => absurd z.1 (by decide : ¬ (1 : Int) = 6)), if_neg (fun z => absurd z.1 (by decide : ¬ (1 : Int) = 4)), if_neg (show ¬ (mTop [((1 : Int), (0 : Int))]).1 = 5 from (by decide : ¬ (1 : Int) = 5)), if_neg (fun z => absurd z.2 e)]
    · rw [fa.1]
      refine U_166_106 (by omega) 0 w a _ ?_
      refine ⟨fun c1 => ?_, fun c1 => ?_⟩
      · skip
        refine ⟨fun c2 => ?_, fun c2 => ?_⟩
        · skip
          refine ⟨?_, ?_⟩
          · first | omega | exact absurd rfl (by assumption) | (exfalso; omega)
          exact absurd (rfl : (0 : Int) = 0) (by assumption)
        · skip
          exact absurd (rfl : (0 : Int) = 0) (by assumption)
      · skip
        exact hQ 0 _ (Or.inr ⟨rfl, faP_pre st fa.2⟩)
  · skip
    refine ⟨fun c2 => ?_, fun c2 => ?_⟩
    · skip
      rw [if_neg (show ¬ w ≤ 1 by omega), if_neg (show ¬ w ≤ 1 by omega)] at st
      refine s_165 (by omega) (C ++ [(w, (O.length : Int))]) tb L_h1114 (by omega) (by omega) cC1 (fun J1119 h1118 P => P.elim (fun ok => ?_) (fun fa => ?_))
      · obtain ⟨hr, j, c, W', Om, ⟨Lj, lj, lc, sc⟩, nk, fl, wl, mr⟩ := ok
        subst hr
        have lO := mFl_len (d := 1) (r := 1) W' Om
        rw [fl, List.length_append] at lO
        have lO : Om.length ≤ O.length + c.length := lO.1
        have ok2 : mOk (H0 55) (H0 51 10) (3, j, 0, [(2, 0)], W', Om, C ++ [(w, (O.length : Int))]) := mOk_i (by decide) (by omega) (by decide) (by decide) (by omega) (by omega) cC1 fP_2
        have lo1 : (O ++ c).length = O.length + c.length := List.length_append
        have jT := jT_of tb lj.2
        refine q_166_106 (by omega) tb Lj (by omega) (by omega) hw (fun e h1 L1 => hQ 1 h1 (Or.inl ⟨rfl, j + 1, c, w, hw, ?_, by omega, by omega, fun q => absurd q (by omega), fun _ => asC_le sc (by omega), by omega, ?_⟩)) (fun e h1 F1 => hQ 0 h1 (Or.inr ⟨rfl, faP_mk (o := 0) (F := [(2, 0)]) (W := W') (O := Om) (C := C ++ [(w, (O.length : Int))]) F1 (by decide) (by omega) (mR_trans st mr) ok2 ?_⟩))
        · rw [← List.append_assoc]
          exact L1
        · refine mR_trans st (mR_trans mr (mR_one ok2 ?_))
          rw [mS_3]
          unfold mS3
          rw [if_neg nk, if_pos ⟨rfl, e⟩]
          unfold mEnd
          have eL : mLen [(2, 0)] = 1 := rfl
          rw [eL, fl, mLst_at, ← List.append_assoc]
        · rw [mS_3]
          unfold mS3
          rw [if_neg nk, if_neg (fun z => absurd z.2 e)]
      · rw [fa.1]
        refine U_166_106 (by omega) 0 w a _ ?_
        refine ⟨fun c1 => ?_, fun c1 => ?_⟩
        · skip
          refine ⟨fun c2 => ?_, fun c2 => ?_⟩
          · skip
            refine ⟨?_, ?_⟩
            · first | omega | exact absurd rfl (by assumption) | (exfalso; omega)
            exact absurd (rfl : (0 : Int) = 0) (by assumption)
          · skip
            exact absurd (rfl : (0 : Int) = 0) (by assumption)
        · skip
          exact hQ 0 _ (Or.inr ⟨rfl, faP_pre st fa.2⟩)
    · skip
      rw [if_pos (show w ≤ 1 by omega), if_pos (show w ≤ 1 by omega)] at st
      refine s_163 (by omega) [(1, 0)] [] (C ++ [(w, (O.length : Int))]) tb L_h1114 ⟨⟨by omega, by decide, by omega, fP_1, by decide, by decide, cC1, (by decide : ¬ (1 : Int) = 7), fun p hp => by cases hp⟩, by decide, fun p hp => by cases hp⟩ (fun J1121 h1120 P => P.elim (fun ok => ?_) (fun fa => ?_))
      · obtain ⟨hr, j, c, W', Om, ⟨Lj, lj, lc, sc⟩, nk, fl, wl, mr⟩ := ok
        subst hr
        have lO := mFl_len (d := mLen [(1, 0)]) (r := 3) W' Om
        rw [fl, List.length_append] at lO
        have lO : Om.length ≤ O.length + c.length := lO.1
        have ok2 : mOk (H0 55) (H0 51 10) (2, j, 0, [(1, 0)], W', Om, C ++ [(w, (O.length : Int))]) := mOk_i (by decide) (by omega) (by decide) (by decide) (by simp only [List.length_nil] at wl; omega) (by omega) cC1 fP_1
        have lo1 : (O ++ c).length = O.length + c.length := List.length_append
        have jT := jT_of tb lj.2
        refine q_166_106 (by omega) tb Lj (by omega) (by omega) hw (fun e h1 L1 => hQ 1 h1 (Or.inl ⟨rfl, j + 1, c, w, hw, ?_, by omega, by omega, fun _ => suC_le sc (by omega), fun q => absurd q (by omega), by omega, ?_⟩)) (fun e h1 F1 => hQ 0 h1 (Or.inr ⟨rfl, faP_mk (o := 0) (F := [(1, 0)]) (W := W') (O := Om) (C := C ++ [(w, (O.length : Int))]) F1 (by decide) (by omega) (mR_trans st mr) ok2 ?_⟩))
        · rw [← List.append_assoc]
          exact L1
        · refine mR_trans st (mR_trans mr (mR_one ok2 ?_))
          rw [mS_2]
          unfold mS2
          rw [if_neg nk, if_neg (fun z => absurd z.1 (by decide : ¬ (1 : Int) = 6)), if_neg (fun z => absurd z.1 (by decide : ¬ (1 : Int) = 4)), if_neg (show ¬ (mTop [((1 : Int), (0 : Int))]).1 = 5 from (by decide : ¬ (1 : Int) = 5)), if_pos ⟨rfl, e⟩]
          unfold mEnd
          rw [← mFl_two (show (1 : Int) ≤ 3 by decide), fl, mLst_at, ← List.append_assoc]
          rfl
        · rw [mS_2]
          unfold mS2
          rw [if_neg nk, if_neg (fun z => absurd z.1 (by decide : ¬ (1 : Int) = 6)), if_neg (fun z => absurd z.1 (by decide : ¬ (1 : Int) = 4)), if_neg (show ¬ (mTop [((1 : Int), (0 : Int))]).1 = 5 from (by decide : ¬ (1 : Int) = 5)), if_neg (fun z => absurd z.2 e)]
      · rw [fa.1]
        refine U_166_106 (by omega) 0 w a _ ?_
        refine ⟨fun c1 => ?_, fun c1 => ?_⟩
        · skip
          refine ⟨fun c2 => ?_, fun c2 => ?_⟩
          · skip
            refine ⟨?_, ?_⟩
            · first | omega | exact absurd rfl (by assumption) | (exfalso; omega)
            exact absurd (rfl : (0 : Int) = 0) (by assumption)
          · skip
            exact absurd (rfl : (0 : Int) = 0) (by assumption)
        · skip
          exact hQ 0 _ (Or.inr ⟨rfl, faP_pre st fa.2⟩)
