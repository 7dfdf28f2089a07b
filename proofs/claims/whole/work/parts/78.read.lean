/-! THE PURE LAYER 48: the law is read: clauses, the whole -/
def flP (ta lo : Int) (C : List (Int × Int)) : Prop := (ta = 0 ∨ ta = 1) ∧ (lo = 0 ∨ lo = 1) ∧ (ta = 1 ↔ ∃ p ∈ C, p.1 = 0) ∧ (lo = 1 ↔ ∃ p ∈ C, p.1 = 1)
theorem flP_add {ta lo w n : Int} {C : List (Int × Int)} (h : flP ta lo C) : flP (if w = 0 then 1 else ta) (if w = 1 then 1 else lo) (C ++ [(w, n)]) := by
  obtain ⟨a, b, c, e⟩ := h
  have x : ∀ k : Int, (∃ p ∈ C ++ [(w, n)], p.1 = k) ↔ ((∃ p ∈ C, p.1 = k) ∨ w = k) := fun k => by
    constructor
    · rintro ⟨p, hp, q⟩
      rcases List.mem_append.mp hp with z | z
      · exact Or.inl ⟨p, z, q⟩
      · rw [List.mem_singleton.mp z] at q
        exact Or.inr q
    · rintro (⟨p, hp, q⟩ | q)
      · exact ⟨p, List.mem_append_left _ hp, q⟩
      · exact ⟨(w, n), List.mem_append_right _ (List.mem_singleton.mpr rfl), q⟩
  unfold flP
  rw [x, x, ← c, ← e]
  refine ⟨?_, ?_, ?_, ?_⟩
  · split <;> omega
  · split <;> omega
  · split <;> omega
  · split <;> omega
theorem mOk_4 {K : Int → Int} {T i : Int} {O : List Int} {C : List (Int × Int)} (h : ¬ K i = 21) (h2 : 0 ≤ i ∧ i ≤ T) (h6 : O.length ≤ 300) (h7 : C.length ≤ 10) : mOk K T (4, i, 0, [], [], O, C) :=
  ⟨⟨by decide, by decide⟩, fun q => h q.2, h2, ⟨by decide, by decide⟩, by decide, by decide, h6, h7, fun q => absurd rfl q, Or.inl ⟨rfl, rfl⟩⟩

theorem s_166 {X : Int × (Int → Int)} {d : Nat} {Q : Int → XH → Prop} (hd : 30 ≤ d) {H0 : XH} {ta lo i a : Int} {O : List Int} (C : List (Int × Int)) {H : XH} (tb : rTB H0) (L_H : rLS H0 ta lo i O H) (i0 : 0 ≤ i ∧ i ≤ H0 51 10) (h21 : ¬ H0 55 i = 21) (O1 : (O.length : Int) ≤ i) (cC : C.length ≤ 10) (ha : a = (C.length : Int)) (fp : flP ta lo C) (hQ : ∀ r h1, clP H0 ta lo i O C r h1 → Q r h1) : xc X d 166 [(2, 51), (0, a)] H Q := by
  cases d with
  | zero => omega
  | succ d =>
  obtain ⟨f1, f2, f3, f4⟩ := fp
  have t1 := tb.1
  have t2 := tb.2.1
  have i1 : 0 ≤ i ∧ i < H0 51 10 := ⟨i0.1, jT_of tb i0.2 h21⟩
  have k12 : H 51 12 = H0 55 i := L_H.2.2.2.1
  have k14 : H 51 14 = ta := L_H.2.2.2.2.1.1
  have k15 : H 51 15 = lo := L_H.2.2.2.2.1.2
  have ok4 : mOk (H0 55) (H0 51 10) (4, i, 0, [], [], O, C) := mOk_4 h21 i0 (by omega) cC
  refine U_166 (by omega) a H ?_
  rw [k12, k14, k15]
  refine ⟨fun c1 => ?_, fun c1 => ?_⟩
  · skip
    refine ⟨fun c2 => ?_, fun c2 => ?_⟩
    · skip
      refine ⟨fun c3 => ?_, fun c3 => ?_⟩
      · skip
        have hk : 0 ≤ H0 55 i ∧ H0 55 i ≤ 3 := by omega
        have nt : ¬ (H0 55 i ≤ 1 ∧ ∃ p ∈ C, p.1 = H0 55 i) := fun z => by
          rcases (show H0 55 i = 0 ∨ H0 55 i = 1 by omega) with y | y
          · rw [y] at z
            have := f3.mpr z.2
            omega
          · rw [y] at z
            have := f4.mpr z.2
            omega
        refine U_166_49 (by omega) (H0 55 i) a H ?_
        refine ⟨fun c1 => ?_, fun c1 => ?_⟩
        · skip
          refine ⟨fun c2 => ?_, fun c2 => ?_⟩
          · skip
            refine ⟨fun c3 => ?_, fun c3 => ?_⟩
            · skip
              refine q_166_80 (by omega) tb L_H ⟨i1.1, i1.2⟩ O1 (by omega) hk rfl (by rw [if_neg (by omega)]) (by rw [if_neg (by omega)]) (mR_one ok4 ?_) hQ
              rw [mS_4]
              unfold mS4
              rw [if_pos hk, if_neg nt, if_neg (by omega)]
            · skip
              refine q_166_80 (by omega) tb (rLS_15 L_H) ⟨i1.1, i1.2⟩ O1 (by omega) hk rfl (by rw [if_neg (by omega)]) (by rw [if_pos (by omega)]) (mR_one ok4 ?_) hQ
              rw [mS_4]
              unfold mS4
              rw [if_pos hk, if_neg nt, if_neg (by omega)]
          · skip
            refine ⟨fun c4 => ?_, fun c4 => ?_⟩
            · skip
              refine q_166_80 (by omega) tb (rLS_14 L_H) ⟨i1.1, i1.2⟩ O1 (by omega) hk rfl (by rw [if_pos (by omega)]) (by rw [if_neg (by omega)]) (mR_one ok4 ?_) hQ
              rw [mS_4]
              unfold mS4
              rw [if_pos hk, if_neg nt, if_neg (by omega)]
            · skip
              exfalso
              omega
        · skip
          refine s_159 (by omega) _ tb L_H (by omega) (fun h1138 L_h1138 => ?_)
          refine ⟨?_, ?_⟩
          · first | omega | exact ⟨by omega, by omega⟩ | (unfold xI; omega) | (exfalso; omega)
          refine hQ 0 _ (Or.inr ⟨rfl, faP_mk (o := 0) (F := []) (W := []) (O := O) (C := C) L_h1138 (by decide) (by omega) (mR_refl _ _ _ _) ok4 ?_⟩)
          rw [mS_4]
          unfold mS4
          rw [if_pos hk, if_neg nt, if_pos (by omega)]
      · skip
        refine ⟨fun c4 => ?_, fun c4 => ?_⟩
        · skip
          have hk : 0 ≤ H0 55 i ∧ H0 55 i ≤ 3 := by omega
          have nt : ¬ (H0 55 i ≤ 1 ∧ ∃ p ∈ C, p.1 = H0 55 i) := fun z => by
            rcases (show H0 55 i = 0 ∨ H0 55 i = 1 by omega) with y | y
            · rw [y] at z
              have := f3.mpr z.2
              omega
            · rw [y] at z
              have := f4.mpr z.2
              omega
          refine U_166_49 (by omega) (H0 55 i) a H ?_
          refine ⟨fun c1 => ?_, fun c1 => ?_⟩
          · skip
            refine ⟨fun c2 => ?_, fun c2 => ?_⟩
            · skip
              refine ⟨fun c3 => ?_, fun c3 => ?_⟩
              · skip
                refine q_166_80 (by omega) tb L_H ⟨i1.1, i1.2⟩ O1 (by omega) hk rfl (by rw [if_neg (by omega)]) (by rw [if_neg (by omega)]) (mR_one ok4 ?_) hQ
                rw [mS_4]
                unfold mS4
                rw [if_pos hk, if_neg nt, if_neg (by omega)]
              · skip
                refine q_166_80 (by omega) tb (rLS_15 L_H) ⟨i1.1, i1.2⟩ O1 (by omega) hk rfl (by rw [if_neg (by omega)]) (by rw [if_pos (by omega)]) (mR_one ok4 ?_) hQ
                rw [mS_4]
                unfold mS4
                rw [if_pos hk, if_neg nt, if_neg (by omega)]
            · skip
              refine ⟨fun c4 => ?_, fun c4 => ?_⟩
              · skip
                refine q_166_80 (by omega) tb (rLS_14 L_H) ⟨i1.1, i1.2⟩ O1 (by omega) hk rfl (by rw [if_pos (by omega)]) (by rw [if_neg (by omega)]) (mR_one ok4 ?_) hQ
                rw [mS_4]
                unfold mS4
                rw [if_pos hk, if_neg nt, if_neg (by omega)]
              · skip
                exfalso
                omega
          · skip
            refine s_159 (by omega) _ tb L_H (by omega) (fun h1148 L_h1148 => ?_)
            refine ⟨?_, ?_⟩
            · first | omega | exact ⟨by omega, by omega⟩ | (unfold xI; omega) | (exfalso; omega)
            refine hQ 0 _ (Or.inr ⟨rfl, faP_mk (o := 0) (F := []) (W := []) (O := O) (C := C) L_h1148 (by decide) (by omega) (mR_refl _ _ _ _) ok4 ?_⟩)
            rw [mS_4]
            unfold mS4
            rw [if_pos hk, if_neg nt, if_pos (by omega)]
        · skip
          refine s_159 (by omega) _ tb L_H (by omega) (fun h1122 L_h1122 => ?_)
          refine ⟨?_, ?_⟩
          · first | omega | exact ⟨by omega, by omega⟩ | (unfold xI; omega) | (exfalso; omega)
          have hk : 0 ≤ H0 55 i ∧ H0 55 i ≤ 3 := by omega
          have tt : H0 55 i ≤ 1 ∧ ∃ p ∈ C, p.1 = H0 55 i := by
            refine ⟨by omega, ?_⟩
            rcases (show H0 55 i = 0 ∨ H0 55 i = 1 by omega) with y | y
            · rw [y]
              exact f3.mp (show ta = 1 by clear f3 f4; omega)
            · rw [y]
              exact f4.mp (show lo = 1 by clear f3 f4; omega)
          refine hQ 0 _ (Or.inr ⟨rfl, faP_mk (o := 0) (F := []) (W := []) (O := O) (C := C) L_h1122 (by decide) (by omega) (mR_refl _ _ _ _) ok4 ?_⟩)
          rw [mS_4]
          unfold mS4
          rw [if_pos hk, if_pos tt]
    · skip
      refine ⟨fun c5 => ?_, fun c5 => ?_⟩
      · skip
        refine s_159 (by omega) _ tb L_H (by omega) (fun h1124 L_h1124 => ?_)
        refine ⟨?_, ?_⟩
        · first | omega | exact ⟨by omega, by omega⟩ | (unfold xI; omega) | (exfalso; omega)
        have hk : 0 ≤ H0 55 i ∧ H0 55 i ≤ 3 := by omega
        have tt : H0 55 i ≤ 1 ∧ ∃ p ∈ C, p.1 = H0 55 i := by
          refine ⟨by omega, ?_⟩
          rcases (show H0 55 i = 0 ∨ H0 55 i = 1 by omega) with y | y
          · rw [y]
            exact f3.mp (show ta = 1 by clear f3 f4; omega)
          · rw [y]
            exact f4.mp (show lo = 1 by clear f3 f4; omega)
        refine hQ 0 _ (Or.inr ⟨rfl, faP_mk (o := 0) (F := []) (W := []) (O := O) (C := C) L_h1124 (by decide) (by omega) (mR_refl _ _ _ _) ok4 ?_⟩)
        rw [mS_4]
        unfold mS4
        rw [if_pos hk, if_pos tt]
      · skip
        refine ⟨fun c6 => ?_, fun c6 => ?_⟩
        · skip
          have hk : 0 ≤ H0 55 i ∧ H0 55 i ≤ 3 := by omega
          have nt : ¬ (H0 55 i ≤ 1 ∧ ∃ p ∈ C, p.1 = H0 55 i) := fun z => by
            rcases (show H0 55 i = 0 ∨ H0 55 i = 1 by omega) with y | y
            · rw [y] at z
              have := f3.mpr z.2
              omega
            · rw [y] at z
              have := f4.mpr z.2
              omega
          refine U_166_49 (by omega) (H0 55 i) a H ?_
          refine ⟨fun c1 => ?_, fun c1 => ?_⟩
          · skip
            refine ⟨fun c2 => ?_, fun c2 => ?_⟩
            · skip
              refine ⟨fun c3 => ?_, fun c3 => ?_⟩
              · skip
                refine q_166_80 (by omega) tb L_H ⟨i1.1, i1.2⟩ O1 (by omega) hk rfl (by rw [if_neg (by omega)]) (by rw [if_neg (by omega)]) (mR_one ok4 ?_) hQ
                rw [mS_4]
                unfold mS4
                rw [if_pos hk, if_neg nt, if_neg (by omega)]
              · skip
                refine q_166_80 (by omega) tb (rLS_15 L_H) ⟨i1.1, i1.2⟩ O1 (by omega) hk rfl (by rw [if_neg (by omega)]) (by rw [if_pos (by omega)]) (mR_one ok4 ?_) hQ
                rw [mS_4]
                unfold mS4
                rw [if_pos hk, if_neg nt, if_neg (by omega)]
            · skip
              refine ⟨fun c4 => ?_, fun c4 => ?_⟩
              · skip
                refine q_166_80 (by omega) tb (rLS_14 L_H) ⟨i1.1, i1.2⟩ O1 (by omega) hk rfl (by rw [if_pos (by omega)]) (by rw [if_neg (by omega)]) (mR_one ok4 ?_) hQ
                rw [mS_4]
                unfold mS4
                rw [if_pos hk, if_neg nt, if_neg (by omega)]
              · skip
                exfalso
                omega
          · skip
            refine s_159 (by omega) _ tb L_H (by omega) (fun h1158 L_h1158 => ?_)
            refine ⟨?_, ?_⟩
            · first | omega | exact ⟨by omega, by omega⟩ | (unfold xI; omega) | (exfalso; omega)
            refine hQ 0 _ (Or.inr ⟨rfl, faP_mk (o := 0) (F := []) (W := []) (O := O) (C := C) L_h1158 (by decide) (by omega) (mR_refl _ _ _ _) ok4 ?_⟩)
            rw [mS_4]
            unfold mS4
            rw [if_pos hk, if_neg nt, if_pos (by omega)]
        · skip
          refine ⟨fun c7 => ?_, fun c7 => ?_⟩
          · skip
            have hk : 0 ≤ H0 55 i ∧ H0 55 i ≤ 3 := by omega
            have nt : ¬ (H0 55 i ≤ 1 ∧ ∃ p ∈ C, p.1 = H0 55 i) := fun z => by
              rcases (show H0 55 i = 0 ∨ H0 55 i = 1 by omega) with y | y
              · rw [y] at z
                have := f3.mpr z.2
                omega
              · rw [y] at z
                have := f4.mpr z.2
                omega
            refine U_166_49 (by omega) (H0 55 i) a H ?_
            refine ⟨fun c1 => ?_, fun c1 => ?_⟩
            · skip
              refine ⟨fun c2 => ?_, fun c2 => ?_⟩
              · skip
                refine ⟨fun c3 => ?_, fun c3 => ?_⟩
                · skip
                  refine q_166_80 (by omega) tb L_H ⟨i1.1, i1.2⟩ O1 (by omega) hk rfl (by rw [if_neg (by omega)]) (by rw [if_neg (by omega)]) (mR_one ok4 ?_) hQ
                  rw [mS_4]
                  unfold mS4
                  rw [if_pos hk, if_neg nt, if_neg (by omega)]
                · skip
                  refine q_166_80 (by omega) tb (rLS_15 L_H) ⟨i1.1, i1.2⟩ O1 (by omega) hk rfl (by rw [if_neg (by omega)]) (by rw [if_pos (by omega)]) (mR_one ok4 ?_) hQ
                  rw [mS_4]
                  unfold mS4
                  rw [if_pos hk, if_neg nt, if_neg (by omega)]
              · skip
                refine ⟨fun c4 => ?_, fun c4 => ?_⟩
                · skip
                  refine q_166_80 (by omega) tb (rLS_14 L_H) ⟨i1.1, i1.2⟩ O1 (by omega) hk rfl (by rw [if_pos (by omega)]) (by rw [if_neg (by omega)]) (mR_one ok4 ?_) hQ
                  rw [mS_4]
                  unfold mS4
                  rw [if_pos hk, if_neg nt, if_neg (by omega)]
                · skip
                  exfalso
                  omega
            · skip
              refine s_159 (by omega) _ tb L_H (by omega) (fun h1168 L_h1168 => ?_)
              refine ⟨?_, ?_⟩
              · first | omega | exact ⟨by omega, by omega⟩ | (unfold xI; omega) | (exfalso; omega)
              refine hQ 0 _ (Or.inr ⟨rfl, faP_mk (o := 0) (F := []) (W := []) (O := O) (C := C) L_h1168 (by decide) (by omega) (mR_refl _ _ _ _) ok4 ?_⟩)
              rw [mS_4]
              unfold mS4
              rw [if_pos hk, if_neg nt, if_pos (by omega)]
          · skip
            refine s_159 (by omega) _ tb L_H (by omega) (fun h1126 L_h1126 => ?_)
            refine ⟨?_, ?_⟩
            · first | omega | exact ⟨by omega, by omega⟩ | (unfold xI; omega) | (exfalso; omega)
            have hk : 0 ≤ H0 55 i ∧ H0 55 i ≤ 3 := by omega
            have tt : H0 55 i ≤ 1 ∧ ∃ p ∈ C, p.1 = H0 55 i := by
              refine ⟨by omega, ?_⟩
              rcases (show H0 55 i = 0 ∨ H0 55 i = 1 by omega) with y | y
              · rw [y]
                exact f3.mp (show ta = 1 by clear f3 f4; omega)
              · rw [y]
                exact f4.mp (show lo = 1 by clear f3 f4; omega)
            refine hQ 0 _ (Or.inr ⟨rfl, faP_mk (o := 0) (F := []) (W := []) (O := O) (C := C) L_h1126 (by decide) (by omega) (mR_refl _ _ _ _) ok4 ?_⟩)
            rw [mS_4]
            unfold mS4
            rw [if_pos hk, if_pos tt]
  · skip
    refine s_159 (by omega) _ tb L_H (by omega) (fun h1128 L_h1128 => ?_)
    refine ⟨?_, ?_⟩
    · first | omega | exact ⟨by omega, by omega⟩ | (unfold xI; omega) | (exfalso; omega)
    refine hQ 0 _ (Or.inr ⟨rfl, faP_mk (o := 0) (F := []) (W := []) (O := O) (C := C) L_h1128 (by decide) (by omega) (mR_refl _ _ _ _) ok4 ?_⟩)
    rw [mS_4]
    unfold mS4
    rw [if_neg (by omega)]

/-- clauses with their code, one behind the other; where each begins -/
def clF : List (Int × List Int) → List Int
  | [] => []
  | p :: L => p.2 ++ (10000 + p.1) :: clF L
def clO : Int → List (Int × List Int) → List (Int × Int)
  | _, [] => []
  | n, p :: L => (p.1, n) :: clO (n + (p.2.length : Int) + 1) L
def clOk (p : Int × List Int) : Prop := (0 ≤ p.1 ∧ p.1 ≤ 3) ∧ (p.1 ≤ 1 → suC 22 p.2) ∧ (2 ≤ p.1 → asC 22 p.2)
theorem clF_add (p : Int × List Int) : ∀ L : List (Int × List Int), clF (L ++ [p]) = clF L ++ (p.2 ++ [10000 + p.1])
  | [] => rfl
  | q :: L => by
    show q.2 ++ (10000 + q.1) :: clF (L ++ [p]) = (q.2 ++ (10000 + q.1) :: clF L) ++ _
    rw [clF_add p L, List.append_assoc]
    rfl
theorem clO_add (p : Int × List Int) : ∀ (L : List (Int × List Int)) (n : Int), clO n (L ++ [p]) = clO n L ++ [(p.1, n + ((clF L).length : Int))]
  | [], n => by
    show [(p.1, n)] = [(p.1, n + ((0 : Nat) : Int))]
    rw [show n + ((0 : Nat) : Int) = n by omega]
  | q :: L, n => by
    show (q.1, n) :: clO (n + (q.2.length : Int) + 1) (L ++ [p]) = (q.1, n) :: (clO (n + (q.2.length : Int) + 1) L ++ _)
    rw [clO_add p L]
    have e : ((clF (q :: L)).length : Int) = (q.2.length : Int) + 1 + ((clF L).length : Int) := by
      show ((q.2 ++ (10000 + q.1) :: clF L).length : Int) = _
      rw [List.length_append]
      simp only [List.length_cons]
      omega
    rw [e, show n + (q.2.length : Int) + 1 + ((clF L).length : Int) = n + ((q.2.length : Int) + 1 + ((clF L).length : Int)) by omega]
theorem clO_len : ∀ (L : List (Int × List Int)) (n : Int), (clO n L).length = L.length
  | [], _ => rfl
  | q :: L, n => by
    show (clO _ L).length + 1 = L.length + 1
    rw [clO_len L]
def mS_s : MS := (4, 0, 0, [], [], [], [])
/-- the whole text is read -/
def riP (H0 : XH) (r : Int) (h : XH) : Prop := (r = 1 ∧ ∃ (L : List (Int × List Int)) (i ta lo : Int), (∀ p ∈ L, clOk p) ∧ rLS H0 ta lo i (clF L) h ∧ H0 55 i = 21 ∧ (0 ≤ i ∧ i ≤ H0 51 10) ∧ ((clF L).length : Int) ≤ i ∧ L.length ≤ 10 ∧ rMK H0 mS_s (4, i, 0, [], [], clF L, clO 0 L)) ∨ (r = 0 ∧ faP H0 mS_s h)
theorem nkP_rng {t : Int → Int} {b e k : Int} (h : nkP t b e k) : (0 ≤ k ∧ k ≤ 17) ∨ k = 22 := by
  rcases h with h | h
  · exact Or.inl ⟨h.1, h.2.1⟩
  · exact Or.inr h.1
theorem tkP_rng {t : Int → Int} {n b k v e : Int} (h : tkP t n b k v e) : (0 ≤ k ∧ k ≤ 42) ∧ ¬ k = 21 ∧ 0 ≤ v ∧ v ≤ 10000 := by
  rcases h with ⟨-, -, -, -, h, hv⟩ | ⟨-, hb, h, -, hk, hv⟩ | ⟨-, -, -, -, hk, hv⟩ | ⟨-, -, -, -, hk, hv⟩
  · have := nkP_rng h
    omega
  · have := ncF_rng (t := t) (b := b) (e - b).toNat (fun i x y => h i x (by omega))
    omega
  · split at hk <;> omega
  · have := sgI_rng (t b)
    split at hk <;> omega
theorem TKS_rng {t : Int → Int} {n T : Int} {B K N E : Int → Int} (h : TKS t n T B K N E) : (0 ≤ T ∧ T ≤ 300) ∧ K T = 21 ∧ (∀ i, 0 ≤ i → i ≤ T → 0 ≤ K i ∧ K i ≤ 42) ∧ ∀ i, 0 ≤ i → i < T → 0 ≤ N i ∧ N i ≤ 10000 := by
  obtain ⟨a, -, b, -, -, -, c⟩ := h
  refine ⟨a, c, fun i x y => ?_, fun i x y => (tkP_rng (b i x y).2.2.2).2.2⟩
  by_cases q : i = T
  · rw [q, c]
    decide
  · exact (tkP_rng (b i x (by omega)).2.2.2).1
/-- how the heap stands when the reading begins -/
def rBg (H : XH) (l : Int) (E : Int → Int) (H0 : XH) : Prop := (∀ o, ¬ o = 51 → ¬ o = 54 → ¬ o = 55 → ¬ o = 56 → ¬ o = 57 → H0 o = H o) ∧ (∀ k, ¬ k = l → H0 54 k = H 54 k) ∧ H0 51 3 = 0 ∧ H0 51 4 = 1 ∧ H0 51 5 = 0 ∧ H0 51 6 = -1 ∧ H0 51 13 = l ∧ TKS (H 52) (H 51 3) (H0 51 10) (H0 56) (H0 55) (H0 57) E

theorem U_167 {X : Int × (Int → Int)} {d : Nat} {Q : Int → XH → Prop} (hd : 8 ≤ d) (l : Int) (H : XH) (h : ((((0 ≤ l ∧ l ≤ 3)) → ((0 : Int) ≤ l ∧ (l : Int) < 4) ∧ (0 ≤ (xup (xup (xup (xup (xup (xup (xup H 51 13 l) 54 l 0) 51 4 1) 51 5 0) 51 6 (-1)) 51 14 0) 51 15 0) 51 3 ∧ (xup (xup (xup (xup (xup (xup (xup H 51 13 l) 54 l 0) 51 4 1) 51 5 0) 51 6 (-1)) 51 14 0) 51 15 0) 51 3 ≤ 300) ∧ (∀ i, 0 ≤ i → i < (xup (xup (xup (xup (xup (xup (xup H 51 13 l) 54 l 0) 51 4 1) 51 5 0) 51 6 (-1)) 51 14 0) 51 15 0) 51 3 → 0 ≤ (xup (xup (xup (xup (xup (xup (xup H 51 13 l) 54 l 0) 51 4 1) 51 5 0) 51 6 (-1)) 51 14 0) 51 15 0) 52 i ∧ (xup (xup (xup (xup (xup (xup (xup H 51 13 l) 54 l 0) 51 4 1) 51 5 0) 51 6 (-1)) 51 14 0) 51 15 0) 52 i ≤ 255) ∧ (∀ (E1171 : Int → Int) (h1170 : XH), (spF (xup (xup (xup (xup (xup (xup (xup H 51 13 l) 54 l 0) 51 4 1) 51 5 0) 51 6 (-1)) 51 14 0) 51 15 0) h1170) → (TKS ((xup (xup (xup (xup (xup (xup (xup H 51 13 l) 54 l 0) 51 4 1) 51 5 0) 51 6 (-1)) 51 14 0) 51 15 0) 52) ((xup (xup (xup (xup (xup (xup (xup H 51 13 l) 54 l 0) 51 4 1) 51 5 0) 51 6 (-1)) 51 14 0) 51 15 0) 51 3) (h1170 51 10) (h1170 56) (h1170 55) (h1170 57) E1171) → (h1170 51 11 = 0) → (h1170 51 12 = h1170 55 0) → xq X d 167 Q 62 [(0, (2, 51)), (2, (0, 0))] [] (xup h1170 51 3 0))) ∧ (¬ ((0 ≤ l ∧ l ≤ 3)) → Q 0 H))) : xc X (d + 1) 167 [(2, 51), (0, l)] H Q := by
  refine ⟨rfl, ?_⟩
  show xq X d 167 Q 100000 [(0, (2, 51)), (1, (0, l))] [] H
  refine xq_run [6, 55, 62, 83] 300 ?_
  show xWM (xE X) xMC d 19 [(0, l), (0, 0), (0, 3)] xKZ H _
  refine xc_in (s_19 (by omega) l 0 3 H  ?_)
  replace h := h
  show xq X d 167 Q 6 [(0, (2, 51)), (1, (0, l))] [(0, xb (0 ≤ l ∧ l ≤ 3))] H
  refine xq_run [6, 55, 62, 83] 300 ?_
  show ((¬ xb (0 ≤ l ∧ l ≤ 3) = 0) → ((0 : Int) ≤ l ∧ (l : Int) < 4) ∧ ((0 : Int) ≤ 1 ∧ (1 : Int) ≤ 1) ∧ ((0 : Int) ≤ 0 ∧ (0 : Int) ≤ 1) ∧ ((0 : Int) ≤ 0 ∧ (0 : Int) ≤ 1) ∧ xWM (xE X) xMC d 158 [(2, 51)] xKZ (xup (xup (xup (xup (xup (xup (xup H 51 13 l) 54 l 0) 51 4 1) 51 5 0) 51 6 (-1)) 51 14 0) 51 15 0) _) ∧ (¬ (¬ xb (0 ≤ l ∧ l ≤ 3) = 0) → xfR 3 0 ∧ xKZ = xKZ ∧ Q 0 H)
  refine ⟨fun k_ => ?_, fun k_ => ?_⟩
  · replace h := h.1 (xbe_1.mp k_)
    refine ⟨h.1, ?_⟩
    replace h := h.2
    refine ⟨⟨by decide, by decide⟩, ?_⟩
    refine ⟨⟨by decide, by decide⟩, ?_⟩
    refine ⟨⟨by decide, by decide⟩, ?_⟩
    refine xc_in (s_158 (by omega) (xup (xup (xup (xup (xup (xup (xup H 51 13 l) 54 l 0) 51 4 1) 51 5 0) 51 6 (-1)) 51 14 0) 51 15 0) (h.1) (h.2.1) ?_)
    intro E1171 h1170 q_0 q_1 q_2 q_3
    replace h := h.2.2 E1171 h1170 q_0 q_1 q_2 q_3
    show xq X d 167 Q 55 [(0, (2, 51)), (1, (0, l))] [] h1170
    refine xq_run [6, 55, 62, 83] 300 ?_
    show xq X d 167 Q 62 [(0, (2, 51)), (2, (0, 0))] [] (xup h1170 51 3 0)
    exact h
  · replace h := h.2 (xbe_n.mp k_)
    exact ⟨xfR3_0, rfl, h⟩
theorem U_167_62 {X : Int × (Int → Int)} {d : Nat} {Q : Int → XH → Prop} (hd : 0 ≤ d) (v2 : Int) (H : XH) (h : ((300 < v2) → ((¬ H 51 12 = 21) → Q 0 H) ∧ (¬ (¬ H 51 12 = 21) → Q 1 H)) ∧ (¬ (300 < v2) → ((H 51 12 = 21) → ((¬ H 51 12 = 21) → Q 0 H) ∧ (¬ (¬ H 51 12 = 21) → Q 1 H)) ∧ (¬ (H 51 12 = 21) → (xc X d 166 [(2, 51), (0, v2)] H (fun (J1173 : Int) (h1172 : XH) => ((¬ J1173 = 0) → (xI (v2 + 1)) ∧ xq X d 167 Q 62 [(0, (2, 51)), (2, (0, v2 + 1))] [] h1172) ∧ (¬ (¬ J1173 = 0) → Q 0 h1172)))))) : xq X d 167 Q 62 [(0, (2, 51)), (2, (0, v2))] [] H := by
  show xq X d 167 Q 62 [(0, (2, 51)), (2, (0, v2))] [] H
  refine xq_run [6, 55, 62, 83] 300 ?_
  show ((300 < v2) → ((¬ H 51 12 = 21) → xfR 3 0 ∧ xKZ = xKZ ∧ Q 0 H) ∧ (¬ (¬ H 51 12 = 21) → xfR 3 1 ∧ xKZ = xKZ ∧ Q 1 H)) ∧ (¬ (300 < v2) → ((H 51 12 = 21) → ((¬ H 51 12 = 21) → xfR 3 0 ∧ xKZ = xKZ ∧ Q 0 H) ∧ (¬ (¬ H 51 12 = 21) → xfR 3 1 ∧ xKZ = xKZ ∧ Q 1 H)) ∧ (¬ (H 51 12 = 21) → xWM (xE X) xMC d 166 [(2, 51), (0, v2)] xKZ H _))
  refine ⟨fun k_ => ?_, fun k_ => ?_⟩
  · replace h := h.1 k_
    refine ⟨fun k_ => ?_, fun k_ => ?_⟩
    · replace h := h.1 k_
      exact ⟨xfR3_0, rfl, h⟩
    · replace h := h.2 k_
      exact ⟨xfR3_1, rfl, h⟩
  · replace h := h.2 k_
    refine ⟨fun k_ => ?_, fun k_ => ?_⟩
    · replace h := h.1 k_
      refine ⟨fun k_ => ?_, fun k_ => ?_⟩
      · replace h := h.1 k_
        exact ⟨xfR3_0, rfl, h⟩
      · replace h := h.2 k_
        exact ⟨xfR3_1, rfl, h⟩
    · replace h := h.2 k_
      refine xc_in (xc_mono (fun J1173 h1172 q_ => ?_) h)
      replace h := q_
      show xq X d 167 Q 83 [(0, (2, 51)), (2, (0, v2))] [(0, J1173)] h1172
      refine xq_run [6, 55, 62, 83] 300 ?_
      show ((¬ J1173 = 0) → (xI (v2 + 1)) ∧ xq X d 167 Q 62 [(0, (2, 51)), (2, (0, v2 + 1))] [] h1172) ∧ (¬ (¬ J1173 = 0) → xfR 3 0 ∧ xKZ = xKZ ∧ Q 0 h1172)
      refine ⟨fun k_ => ?_, fun k_ => ?_⟩
      · replace h := h.1 k_
        refine ⟨h.1, ?_⟩
        replace h := h.2
        exact h
      · replace h := h.2 k_
        exact ⟨xfR3_0, rfl, h⟩

theorem s_167 {X : Int × (Int → Int)} {d : Nat} {Q : Int → XH → Prop} (hd : 31 ≤ d) (l : Int) (H : XH) (pl : 0 ≤ l ∧ l ≤ 3) (pn : 0 ≤ H 51 3 ∧ H 51 3 ≤ 300) (pc : ∀ i, 0 ≤ i → i < H 51 3 → 0 ≤ H 52 i ∧ H 52 i ≤ 255) (hQ : ∀ (E : Int → Int) (H0 : XH) (r : Int) (h1 : XH), rBg H l E H0 → riP H0 r h1 → Q r h1) : xc X d 167 [(2, 51), (0, l)] H Q := by
  cases d with
  | zero => omega
  | succ d =>
  have key : ∀ (E : Int → Int) (H0 : XH), rBg H l E H0 → rTB H0 → ∀ (k : Nat) (L : List (Int × List Int)) (i ta lo v : Int) (h : XH), L.length + k = 11 → v = (L.length : Int) → (∀ p ∈ L, clOk p) → rLS H0 ta lo i (clF L) h → (0 ≤ i ∧ i ≤ H0 51 10) → ((clF L).length : Int) ≤ i → flP ta lo (clO 0 L) → L.length ≤ 10 → rMK H0 mS_s (4, i, 0, [], [], clF L, clO 0 L) → xq X d 167 Q 62 [(0, (2, 51)), (2, (0, v))] [] h := by
    intro E H0 bg tb k
    have t1 := tb.1
    have t2 := tb.2.1
    induction k with
    | zero =>
      intro L i ta lo v h hk hv hL Lh i1 cl fp l10 ms
      omega
    | succ k ih =>
      intro L i ta lo v h hk hv hL L_H i1 cl fp l10 ms
      have k12 : h 51 12 = H0 55 i := L_H.2.2.2.1
      have ln := clO_len L 0
      refine U_167_62 (by omega) v h ?_
      rw [k12]
      refine ⟨fun c1 => ?_, fun c1 => ?_⟩
      · skip
        refine ⟨fun c2 => ?_, fun c2 => ?_⟩
        · skip
          exfalso
          omega
        · skip
          exfalso
          omega
      · skip
        refine ⟨fun c3 => ?_, fun c3 => ?_⟩
        · skip
          refine ⟨fun c4 => ?_, fun c4 => ?_⟩
          · skip
            exfalso
            omega
          · skip
            exact hQ E H0 1 h bg (Or.inl ⟨rfl, L, i, ta, lo, hL, L_H, by omega, i1, cl, l10, ms⟩)
        · skip
          refine s_166 (by omega) (clO 0 L) tb L_H i1 (by assumption) cl (by omega) (by omega) fp (fun J1177 h1176 P => P.elim (fun ok => ?_) (fun fa => ⟨fun c => absurd fa.1 c, fun _ => hQ E H0 0 h1176 bg (Or.inr ⟨rfl, faP_pre ms fa.2⟩)⟩))
          obtain ⟨hr, j, c, w, hw, Lj, lj, lc, s1, s2, c10, mr⟩ := ok
          refine ⟨fun c5 => ?_, fun c5 => ?_⟩
          · skip
            refine ⟨?_, ?_⟩
            · first | omega | (unfold xI; omega) | (exfalso; omega)
            have ea := clF_add (w, c) L
            have eo := clO_add (w, c) L 0
            rw [Int.zero_add] at eo
            have es : (clF (L ++ [(w, c)])).length = (clF L).length + (c.length + 1) := by
              rw [ea, List.length_append, List.length_append]
              rfl
            refine ih (L ++ [(w, c)]) j _ _ (v + 1) _ (by rw [List.length_append]; simp only [List.length_cons, List.length_nil]; omega) (by rw [List.length_append]; simp only [List.length_cons, List.length_nil]; omega) (fun p hp => ?_) (by rw [ea]; exact Lj) (by omega) (by omega) (by rw [eo]; exact flP_add fp) (by rw [List.length_append]; simp only [List.length_cons, List.length_nil]; omega) (by rw [ea, eo]; exact mR_trans ms mr)
            rcases List.mem_append.mp hp with z | z
            · exact hL p z
            · rw [List.mem_singleton.mp z]
              exact ⟨hw, s1, s2⟩
          · skip
            exfalso
            omega
  refine U_167 (by omega) l H ?_
  refine ⟨fun c1 => ?_, fun c1 => ?_⟩
  · skip
    refine ⟨?_, ?_⟩
    · first | omega | exact pn | exact pc | (unfold xI; omega) | (exfalso; omega)
    refine ⟨?_, ?_⟩
    · first | omega | exact pn | exact pc | (unfold xI; omega) | (exfalso; omega)
    refine ⟨?_, ?_⟩
    · first | omega | exact pn | exact pc | (unfold xI; omega) | (exfalso; omega)
    intro E1179 h1178 c2 c3 c4 c5
    have sp := c2
    have tk := c3
    have k11 := c4
    have k12 := c5
    obtain ⟨H0, hH0⟩ : ∃ H0, xup h1178 51 3 0 = H0 := ⟨_, rfl⟩
    have g51 : ∀ k, ¬ k = 3 → H0 51 k = h1178 51 k := fun k q => by rw [← hH0, xup_k q]
    have go : ∀ o, ¬ o = 51 → H0 o = h1178 o := fun o q => by rw [← hH0, xup_ne q]
    have f52 : (xup (xup (xup (xup (xup (xup (xup H 51 13 l) 54 l 0) 51 4 1) 51 5 0) 51 6 (-1)) 51 14 0) 51 15 0) 52 = H 52 := rfl
    have f3 : (xup (xup (xup (xup (xup (xup (xup H 51 13 l) 54 l 0) 51 4 1) 51 5 0) 51 6 (-1)) 51 14 0) 51 15 0) 51 3 = H 51 3 := rfl
    rw [f52, f3] at tk
    have f13 : h1178 51 13 = l := sp.2 13 (by omega)
    have f14 : h1178 51 14 = 0 := sp.2 14 (by omega)
    have f15 : h1178 51 15 = 0 := sp.2 15 (by omega)
    have f54 : h1178 54 = (xup (xup (xup (xup (xup (xup (xup H 51 13 l) 54 l 0) 51 4 1) 51 5 0) 51 6 (-1)) 51 14 0) 51 15 0) 54 := sp.1 54 (by decide) (by decide) (by decide) (by decide)
    have f54l : h1178 54 l = 0 := by
      rw [f54, xup_ne (by decide), xup_ne (by decide), xup_ne (by decide), xup_ne (by decide), xup_ne (by decide), xup_self]
    have tr := TKS_rng tk
    have bg : rBg H l E1179 H0 := by
      refine ⟨fun o a b c e f => ?_, fun k q => ?_, by rw [← hH0, xup_self], ?_, ?_, ?_, ?_, ?_⟩
      · rw [go o a, sp.1 o a c e f, xup_ne a, xup_ne a, xup_ne a, xup_ne a, xup_ne a, xup_ne b, xup_ne a]
      · rw [go 54 (by decide), f54, xup_ne (by decide), xup_ne (by decide), xup_ne (by decide), xup_ne (by decide), xup_ne (by decide), xup_k q, xup_ne (by decide)]
      · rw [g51 4 (by decide)]
        exact sp.2 4 (by omega)
      · rw [g51 5 (by decide)]
        exact sp.2 5 (by omega)
      · rw [g51 6 (by decide)]
        exact sp.2 6 (by omega)
      · rw [g51 13 (by decide)]
        exact f13
      · rw [g51 10 (by decide), go 56 (by decide), go 55 (by decide), go 57 (by decide)]
        exact tk
    have tb : rTB H0 := by
      refine ⟨?_, ?_⟩
      · rw [g51 13 (by decide), f13]
        exact pl
      · rw [g51 10 (by decide), go 55 (by decide), go 57 (by decide)]
        exact tr
    refine key E1179 H0 bg tb 11 [] 0 0 0 0 (xup h1178 51 3 0) (by decide) rfl (fun p hp => by cases hp) ?_ ⟨by decide, tb.2.1.1⟩ (by decide) ⟨Or.inl rfl, Or.inl rfl, ⟨fun q => absurd q (by decide), fun ⟨p, hp, _⟩ => by cases hp⟩, ⟨fun q => absurd q (by decide), fun ⟨p, hp, _⟩ => by cases hp⟩⟩ (by decide) (mR_refl _ _ _ _)
    rw [hH0]
    refine ⟨fun _ _ _ _ => rfl, fun _ _ _ _ _ => rfl, ?_, ?_, ⟨?_, ?_⟩, ?_, fun _ _ => rfl, fun k q => absurd q (Nat.not_lt_zero k), fun _ _ => rfl⟩
    · rw [g51 11 (by decide)]
      exact k11
    · rw [g51 12 (by decide), go 55 (by decide)]
      exact k12
    · rw [g51 14 (by decide)]
      exact f14
    · rw [g51 15 (by decide)]
      exact f15
    · rw [g51 13 (by decide), f13, go 54 (by decide)]
      exact f54l
  · skip
    exfalso
    omega
