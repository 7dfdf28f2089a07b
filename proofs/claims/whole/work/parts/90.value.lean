/-! THE PURE LAYER 60: what a law says: the model -/
theorem U_219 {X : Int × (Int → Int)} {d : Nat} {Q : Int → XH → Prop} (hd : 0 ≤ d) (v : Int) (H : XH) (h : ((v ≤ 1000000) → (((-1000000) ≤ v) → Q v H) ∧ (¬ ((-1000000) ≤ v) → Q (-1000000) H)) ∧ (¬ (v ≤ 1000000) → Q 1000000 H)) : xc X (d + 1) 219 [(1, v)] H Q := by
  refine ⟨rfl, ?_⟩
  show xq X d 219 Q 100000 [(0, (1, v))] [] H
  refine xq_run [] 300 ?_
  show ((xcmp v 1000000 ≤ 0) → ((0 ≤ xcmp v (-1000000)) → xfR 1 v ∧ xKZ = xKZ ∧ Q v H) ∧ (¬ (0 ≤ xcmp v (-1000000)) → xfR 1 (-1000000) ∧ xKZ = xKZ ∧ Q (-1000000) H)) ∧ (¬ (xcmp v 1000000 ≤ 0) → xfR 1 1000000 ∧ xKZ = xKZ ∧ Q 1000000 H)
  refine ⟨fun k_ => ?_, fun k_ => ?_⟩
  · replace h := h.1 (xcmp_le.mp k_)
    refine ⟨fun k_ => ?_, fun k_ => ?_⟩
    · replace h := h.1 (xcmp_ge.mp k_)
      exact ⟨trivial, rfl, h⟩
    · replace h := h.2 (fun q => k_ (xcmp_ge.mpr q))
      exact ⟨trivial, rfl, h⟩
  · replace h := h.2 (fun q => k_ (xcmp_le.mpr q))
    exact ⟨trivial, rfl, h⟩

theorem s_219 {X : Int × (Int → Int)} {d : Nat} {Q : Int → XH → Prop} (hd : 1 ≤ d) (v : Int) (H : XH) (hQ : Q (cl6 v) H) : xc X d 219 [(1, v)] H Q := by
  cases d with
  | zero => omega
  | succ d =>
  unfold cl6 at hQ
  refine U_219 (by omega) v H ?_
  refine ⟨fun c1 => ?_, fun c1 => ?_⟩
  · skip
    refine ⟨fun c2 => ?_, fun c2 => ?_⟩
    · skip
      first | (exfalso; omega) | (simp (disch := omega) only [if_pos, if_neg] at hQ; exact hQ)
    · skip
      first | (exfalso; omega) | (simp (disch := omega) only [if_pos, if_neg] at hQ; exact hQ)
  · skip
    first | (exfalso; omega) | (simp (disch := omega) only [if_pos, if_neg] at hQ; exact hQ)

theorem U_220 {X : Int × (Int → Int)} {d : Nat} {Q : Int → XH → Prop} (hd : 1 ≤ d) (o x y : Int) (H : XH) (h : ((o = 35) → ((x = y) → Q 0 H) ∧ (¬ (x = y) → Q 1 H)) ∧ (¬ (o = 35) → ((o = 42) → (xJ (x * y)) ∧ (Q (cl6 (x * y)) H)) ∧ (¬ (o = 42) → ((o = 43) → (xJ (x + y)) ∧ (Q (cl6 (x + y)) H)) ∧ (¬ (o = 43) → ((o = 45) → (xJ (x - y)) ∧ (Q (cl6 (x - y)) H)) ∧ (¬ (o = 45) → ((o = 47) → ((¬ y = 0) → (¬ y = 0 ∧ xJ (Int.tdiv x y)) ∧ Q (Int.tdiv x y) H) ∧ (¬ (¬ y = 0) → Q 0 H)) ∧ (¬ (o = 47) → ((o = 60) → ((y ≤ x) → Q 0 H) ∧ (¬ (y ≤ x) → Q 1 H)) ∧ (¬ (o = 60) → ((o = 61) → ((¬ x = y) → Q 0 H) ∧ (¬ (¬ x = y) → Q 1 H)) ∧ (¬ (o = 61) → ((o = 62) → ((x ≤ y) → Q 0 H) ∧ (¬ (x ≤ y) → Q 1 H)) ∧ (¬ (o = 62) → ((o = 300) → ((y < x) → Q 0 H) ∧ (¬ (y < x) → Q 1 H)) ∧ (¬ (o = 300) → ((o = 301) → ((x < y) → Q 0 H) ∧ (¬ (x < y) → Q 1 H)) ∧ (¬ (o = 301) → ((o = 406) → (xJ (x * y)) ∧ Q (x * y) H) ∧ (¬ (o = 406) → (xJ (x + y)) ∧ ((x + y ≤ 0) → Q 0 H) ∧ (¬ (x + y ≤ 0) → Q 1 H))))))))))))) : xc X (d + 1) 220 [(0, o), (1, x), (1, y)] H Q := by
  refine ⟨rfl, ?_⟩
  show xq X d 220 Q 100000 [(0, (0, o)), (1, (1, x)), (3, (1, y))] [] H
  refine xq_run [106, 113, 120] 300 ?_
  show ((o = 35) → ((xcmp x y = 0) → xfR 1 0 ∧ xKZ = xKZ ∧ Q 0 H) ∧ (¬ (xcmp x y = 0) → xfR 1 1 ∧ xKZ = xKZ ∧ Q 1 H)) ∧ (¬ (o = 35) → ((o = 42) → (xJ (x * y)) ∧ xWM (xE X) xMC d 219 [(1, x * y)] xKZ H _) ∧ (¬ (o = 42) → ((o = 43) → (xJ (x + y)) ∧ xWM (xE X) xMC d 219 [(1, x + y)] xKZ H _) ∧ (¬ (o = 43) → ((o = 45) → (xJ (x - y)) ∧ xWM (xE X) xMC d 219 [(1, x - y)] xKZ H _) ∧ (¬ (o = 45) → ((o = 47) → ((¬ xcmp y 0 = 0) → (¬ y = 0 ∧ xJ (Int.tdiv x y)) ∧ xfR 1 (Int.tdiv x y) ∧ xKZ = xKZ ∧ Q (Int.tdiv x y) H) ∧ (¬ (¬ xcmp y 0 = 0) → xfR 1 0 ∧ xKZ = xKZ ∧ Q 0 H)) ∧ (¬ (o = 47) → ((o = 60) → ((0 ≤ xcmp x y) → xfR 1 0 ∧ xKZ = xKZ ∧ Q 0 H) ∧ (¬ (0 ≤ xcmp x y) → xfR 1 1 ∧ xKZ = xKZ ∧ Q 1 H)) ∧ (¬ (o = 60) → ((o = 61) → ((¬ xcmp x y = 0) → xfR 1 0 ∧ xKZ = xKZ ∧ Q 0 H) ∧ (¬ (¬ xcmp x y = 0) → xfR 1 1 ∧ xKZ = xKZ ∧ Q 1 H)) ∧ (¬ (o = 61) → ((o = 62) → ((xcmp x y ≤ 0) → xfR 1 0 ∧ xKZ = xKZ ∧ Q 0 H) ∧ (¬ (xcmp x y ≤ 0) → xfR 1 1 ∧ xKZ = xKZ ∧ Q 1 H)) ∧ (¬ (o = 62) → ((o = 300) → ((0 < xcmp x y) → xfR 1 0 ∧ xKZ = xKZ ∧ Q 0 H) ∧ (¬ (0 < xcmp x y) → xfR 1 1 ∧ xKZ = xKZ ∧ Q 1 H)) ∧ (¬ (o = 300) → ((o = 301) → ((xcmp x y < 0) → xfR 1 0 ∧ xKZ = xKZ ∧ Q 0 H) ∧ (¬ (xcmp x y < 0) → xfR 1 1 ∧ xKZ = xKZ ∧ Q 1 H)) ∧ (¬ (o = 301) → ((o = 406) → (xJ (x * y)) ∧ xfR 1 (x * y) ∧ xKZ = xKZ ∧ Q (x * y) H) ∧ (¬ (o = 406) → (xJ (x + y)) ∧ ((xcmp (x + y) 0 ≤ 0) → xfR 1 0 ∧ xKZ = xKZ ∧ Q 0 H) ∧ (¬ (xcmp (x + y) 0 ≤ 0) → xfR 1 1 ∧ xKZ = xKZ ∧ Q 1 H))))))))))))
  refine ⟨fun k_ => ?_, fun k_ => ?_⟩
  · replace h := h.1 k_
    refine ⟨fun k_ => ?_, fun k_ => ?_⟩
    · replace h := h.1 (xcmp_eq.mp k_)
      exact ⟨trivial, rfl, h⟩
    · replace h := h.2 (fun q => k_ (xcmp_eq.mpr q))
      exact ⟨trivial, rfl, h⟩
  · replace h := h.2 k_
    refine ⟨fun k_ => ?_, fun k_ => ?_⟩
    · replace h := h.1 k_
      refine ⟨h.1, ?_⟩
      replace h := h.2
      refine xc_in (s_219 (by omega) (x * y) H  ?_)
      replace h := h
      show xq X d 220 Q 120 [(0, (0, o)), (1, (1, x)), (3, (1, y))] [(1, cl6 (x * y))] H
      refine xq_run [106, 113, 120] 300 ?_
      show xfR 1 (cl6 (x * y)) ∧ xKZ = xKZ ∧ Q (cl6 (x * y)) H
      exact ⟨trivial, rfl, h⟩
    · replace h := h.2 k_
      refine ⟨fun k_ => ?_, fun k_ => ?_⟩
      · replace h := h.1 k_
        refine ⟨h.1, ?_⟩
        replace h := h.2
        refine xc_in (s_219 (by omega) (x + y) H  ?_)
        replace h := h
        show xq X d 220 Q 106 [(0, (0, o)), (1, (1, x)), (3, (1, y))] [(1, cl6 (x + y))] H
        refine xq_run [106, 113, 120] 300 ?_
        show xfR 1 (cl6 (x + y)) ∧ xKZ = xKZ ∧ Q (cl6 (x + y)) H
        exact ⟨trivial, rfl, h⟩
      · replace h := h.2 k_
        refine ⟨fun k_ => ?_, fun k_ => ?_⟩
        · replace h := h.1 k_
          refine ⟨h.1, ?_⟩
          replace h := h.2
          refine xc_in (s_219 (by omega) (x - y) H  ?_)
          replace h := h
          show xq X d 220 Q 113 [(0, (0, o)), (1, (1, x)), (3, (1, y))] [(1, cl6 (x - y))] H
          refine xq_run [106, 113, 120] 300 ?_
          show xfR 1 (cl6 (x - y)) ∧ xKZ = xKZ ∧ Q (cl6 (x - y)) H
          exact ⟨trivial, rfl, h⟩
        · replace h := h.2 k_
          refine ⟨fun k_ => ?_, fun k_ => ?_⟩
          · replace h := h.1 k_
            refine ⟨fun k_ => ?_, fun k_ => ?_⟩
            · replace h := h.1 (xcmp_ne.mp k_)
              refine ⟨h.1, ?_⟩
              replace h := h.2
              exact ⟨trivial, rfl, h⟩
            · replace h := h.2 (fun q => k_ (xcmp_ne.mpr q))
              exact ⟨trivial, rfl, h⟩
          · replace h := h.2 k_
            refine ⟨fun k_ => ?_, fun k_ => ?_⟩
            · replace h := h.1 k_
              refine ⟨fun k_ => ?_, fun k_ => ?_⟩
              · replace h := h.1 (xcmp_ge.mp k_)
                exact ⟨trivial, rfl, h⟩
              · replace h := h.2 (fun q => k_ (xcmp_ge.mpr q))
                exact ⟨trivial, rfl, h⟩
            · replace h := h.2 k_
              refine ⟨fun k_ => ?_, fun k_ => ?_⟩
              · replace h := h.1 k_
                refine ⟨fun k_ => ?_, fun k_ => ?_⟩
                · replace h := h.1 (xcmp_ne.mp k_)
                  exact ⟨trivial, rfl, h⟩
                · replace h := h.2 (fun q => k_ (xcmp_ne.mpr q))
                  exact ⟨trivial, rfl, h⟩
              · replace h := h.2 k_
                refine ⟨fun k_ => ?_, fun k_ => ?_⟩
                · replace h := h.1 k_
                  refine ⟨fun k_ => ?_, fun k_ => ?_⟩
                  · replace h := h.1 (xcmp_le.mp k_)
                    exact ⟨trivial, rfl, h⟩
                  · replace h := h.2 (fun q => k_ (xcmp_le.mpr q))
                    exact ⟨trivial, rfl, h⟩
                · replace h := h.2 k_
                  refine ⟨fun k_ => ?_, fun k_ => ?_⟩
                  · replace h := h.1 k_
                    refine ⟨fun k_ => ?_, fun k_ => ?_⟩
                    · replace h := h.1 (xcmp_gt.mp k_)
                      exact ⟨trivial, rfl, h⟩
                    · replace h := h.2 (fun q => k_ (xcmp_gt.mpr q))
                      exact ⟨trivial, rfl, h⟩
                  · replace h := h.2 k_
                    refine ⟨fun k_ => ?_, fun k_ => ?_⟩
                    · replace h := h.1 k_
                      refine ⟨fun k_ => ?_, fun k_ => ?_⟩
                      · replace h := h.1 (xcmp_lt.mp k_)
                        exact ⟨trivial, rfl, h⟩
                      · replace h := h.2 (fun q => k_ (xcmp_lt.mpr q))
                        exact ⟨trivial, rfl, h⟩
                    · replace h := h.2 k_
                      refine ⟨fun k_ => ?_, fun k_ => ?_⟩
                      · replace h := h.1 k_
                        refine ⟨h.1, ?_⟩
                        replace h := h.2
                        exact ⟨trivial, rfl, h⟩
                      · replace h := h.2 k_
                        refine ⟨h.1, ?_⟩
                        replace h := h.2
                        refine ⟨fun k_ => ?_, fun k_ => ?_⟩
                        · replace h := h.1 (xcmp_le.mp k_)
                          exact ⟨trivial, rfl, h⟩
                        · replace h := h.2 (fun q => k_ (xcmp_le.mpr q))
                          exact ⟨trivial, rfl, h⟩

theorem s_220 {X : Int × (Int → Int)} {d : Nat} {Q : Int → XH → Prop} (hd : 3 ≤ d) (k o l r : Int) (H : XH) (ko : wtR k o ∨ cmR k o) (p : tw2P k l r) (hQ : ∀ y, y = rkV k l r → Q y H) : xc X d 220 [(0, o), (1, l), (1, r)] H Q := by
  cases d with
  | zero => omega
  | succ d =>
  replace hQ := hQ _ rfl
  have lr : (-1000000 ≤ l ∧ l ≤ 1000000) ∧ (-1000000 ≤ r ∧ r ≤ 1000000) := by
    rcases p with ⟨-, a, b⟩ | ⟨-, a, b⟩ <;> omega
  have m6 := mul_6 (l := l) (r := r) lr.1 lr.2
  have mj : xJ (l * r) := by
    unfold xJ
    omega
  have td : ¬ r = 0 → xJ (l.tdiv r) := fun q => by
    have := tdiv_6 lr.1 q
    unfold xJ
    omega
  clear p
  unfold rkV at hQ
  unfold wtR cmR at ko
  refine U_220 (by omega) o l r H ?_
  refine ⟨fun c1 => ?_, fun c1 => ?_⟩
  · skip
    refine ⟨fun c2 => ?_, fun c2 => ?_⟩
    · skip
      first | (exfalso; omega) | (simp (disch := omega) only [if_pos, if_neg] at hQ; first | exact hQ | (rw [xb_t (by omega)] at hQ; exact hQ) | (rw [xb_f (by omega)] at hQ; exact hQ) | (rw [if_pos (by assumption)] at hQ; exact hQ))
    · skip
      first | (exfalso; omega) | (simp (disch := omega) only [if_pos, if_neg] at hQ; first | exact hQ | (rw [xb_t (by omega)] at hQ; exact hQ) | (rw [xb_f (by omega)] at hQ; exact hQ) | (rw [if_pos (by assumption)] at hQ; exact hQ))
  · skip
    refine ⟨fun c3 => ?_, fun c3 => ?_⟩
    · skip
      refine ⟨?_, ?_⟩
      · first | exact mj | exact ⟨by assumption, td (by assumption)⟩ | omega | (unfold xJ; omega) | (unfold xI; omega) | (exfalso; omega)
      first | (exfalso; omega) | (simp (disch := omega) only [if_pos, if_neg] at hQ; first | exact hQ | (rw [xb_t (by omega)] at hQ; exact hQ) | (rw [xb_f (by omega)] at hQ; exact hQ) | (rw [if_pos (by assumption)] at hQ; exact hQ))
    · skip
      refine ⟨fun c4 => ?_, fun c4 => ?_⟩
      · skip
        refine ⟨?_, ?_⟩
        · first | exact mj | exact ⟨by assumption, td (by assumption)⟩ | omega | (unfold xJ; omega) | (unfold xI; omega) | (exfalso; omega)
        first | (exfalso; omega) | (simp (disch := omega) only [if_pos, if_neg] at hQ; first | exact hQ | (rw [xb_t (by omega)] at hQ; exact hQ) | (rw [xb_f (by omega)] at hQ; exact hQ) | (rw [if_pos (by assumption)] at hQ; exact hQ))
      · skip
        refine ⟨fun c5 => ?_, fun c5 => ?_⟩
        · skip
          refine ⟨?_, ?_⟩
          · first | exact mj | exact ⟨by assumption, td (by assumption)⟩ | omega | (unfold xJ; omega) | (unfold xI; omega) | (exfalso; omega)
          first | (exfalso; omega) | (simp (disch := omega) only [if_pos, if_neg] at hQ; first | exact hQ | (rw [xb_t (by omega)] at hQ; exact hQ) | (rw [xb_f (by omega)] at hQ; exact hQ) | (rw [if_pos (by assumption)] at hQ; exact hQ))
        · skip
          refine ⟨fun c6 => ?_, fun c6 => ?_⟩
          · skip
            refine ⟨fun c7 => ?_, fun c7 => ?_⟩
            · skip
              refine ⟨?_, ?_⟩
              · first | exact mj | exact ⟨by assumption, td (by assumption)⟩ | omega | (unfold xJ; omega) | (unfold xI; omega) | (exfalso; omega)
              first | (exfalso; omega) | (simp (disch := omega) only [if_pos, if_neg] at hQ; first | exact hQ | (rw [xb_t (by omega)] at hQ; exact hQ) | (rw [xb_f (by omega)] at hQ; exact hQ) | (rw [if_pos (by assumption)] at hQ; exact hQ))
            · skip
              first | (exfalso; omega) | (simp (disch := omega) only [if_pos, if_neg] at hQ; first | exact hQ | (rw [xb_t (by omega)] at hQ; exact hQ) | (rw [xb_f (by omega)] at hQ; exact hQ) | (rw [if_pos (by assumption)] at hQ; exact hQ))
          · skip
            refine ⟨fun c8 => ?_, fun c8 => ?_⟩
            · skip
              refine ⟨fun c9 => ?_, fun c9 => ?_⟩
              · skip
                first | (exfalso; omega) | (simp (disch := omega) only [if_pos, if_neg] at hQ; first | exact hQ | (rw [xb_t (by omega)] at hQ; exact hQ) | (rw [xb_f (by omega)] at hQ; exact hQ) | (rw [if_pos (by assumption)] at hQ; exact hQ))
              · skip
                first | (exfalso; omega) | (simp (disch := omega) only [if_pos, if_neg] at hQ; first | exact hQ | (rw [xb_t (by omega)] at hQ; exact hQ) | (rw [xb_f (by omega)] at hQ; exact hQ) | (rw [if_pos (by assumption)] at hQ; exact hQ))
            · skip
              refine ⟨fun c10 => ?_, fun c10 => ?_⟩
              · skip
                refine ⟨fun c11 => ?_, fun c11 => ?_⟩
                · skip
                  first | (exfalso; omega) | (simp (disch := omega) only [if_pos, if_neg] at hQ; first | exact hQ | (rw [xb_t (by omega)] at hQ; exact hQ) | (rw [xb_f (by omega)] at hQ; exact hQ) | (rw [if_pos (by assumption)] at hQ; exact hQ))
                · skip
                  first | (exfalso; omega) | (simp (disch := omega) only [if_pos, if_neg] at hQ; first | exact hQ | (rw [xb_t (by omega)] at hQ; exact hQ) | (rw [xb_f (by omega)] at hQ; exact hQ) | (rw [if_pos (by assumption)] at hQ; exact hQ))
              · skip
                refine ⟨fun c12 => ?_, fun c12 => ?_⟩
                · skip
                  refine ⟨fun c13 => ?_, fun c13 => ?_⟩
                  · skip
                    first | (exfalso; omega) | (simp (disch := omega) only [if_pos, if_neg] at hQ; first | exact hQ | (rw [xb_t (by omega)] at hQ; exact hQ) | (rw [xb_f (by omega)] at hQ; exact hQ) | (rw [if_pos (by assumption)] at hQ; exact hQ))
                  · skip
                    first | (exfalso; omega) | (simp (disch := omega) only [if_pos, if_neg] at hQ; first | exact hQ | (rw [xb_t (by omega)] at hQ; exact hQ) | (rw [xb_f (by omega)] at hQ; exact hQ) | (rw [if_pos (by assumption)] at hQ; exact hQ))
                · skip
                  refine ⟨fun c14 => ?_, fun c14 => ?_⟩
                  · skip
                    refine ⟨fun c15 => ?_, fun c15 => ?_⟩
                    · skip
                      first | (exfalso; omega) | (simp (disch := omega) only [if_pos, if_neg] at hQ; first | exact hQ | (rw [xb_t (by omega)] at hQ; exact hQ) | (rw [xb_f (by omega)] at hQ; exact hQ) | (rw [if_pos (by assumption)] at hQ; exact hQ))
                    · skip
                      first | (exfalso; omega) | (simp (disch := omega) only [if_pos, if_neg] at hQ; first | exact hQ | (rw [xb_t (by omega)] at hQ; exact hQ) | (rw [xb_f (by omega)] at hQ; exact hQ) | (rw [if_pos (by assumption)] at hQ; exact hQ))
                  · skip
                    refine ⟨fun c16 => ?_, fun c16 => ?_⟩
                    · skip
                      refine ⟨fun c17 => ?_, fun c17 => ?_⟩
                      · skip
                        first | (exfalso; omega) | (simp (disch := omega) only [if_pos, if_neg] at hQ; first | exact hQ | (rw [xb_t (by omega)] at hQ; exact hQ) | (rw [xb_f (by omega)] at hQ; exact hQ) | (rw [if_pos (by assumption)] at hQ; exact hQ))
                      · skip
                        first | (exfalso; omega) | (simp (disch := omega) only [if_pos, if_neg] at hQ; first | exact hQ | (rw [xb_t (by omega)] at hQ; exact hQ) | (rw [xb_f (by omega)] at hQ; exact hQ) | (rw [if_pos (by assumption)] at hQ; exact hQ))
                    · skip
                      refine ⟨fun c18 => ?_, fun c18 => ?_⟩
                      · skip
                        refine ⟨?_, ?_⟩
                        · first | exact mj | exact ⟨by assumption, td (by assumption)⟩ | omega | (unfold xJ; omega) | (unfold xI; omega) | (exfalso; omega)
                        first | (exfalso; omega) | (simp (disch := omega) only [if_pos, if_neg] at hQ; first | exact hQ | (rw [xb_t (by omega)] at hQ; exact hQ) | (rw [xb_f (by omega)] at hQ; exact hQ) | (rw [if_pos (by assumption)] at hQ; exact hQ))
                      · skip
                        refine ⟨?_, ?_⟩
                        · first | exact mj | exact ⟨by assumption, td (by assumption)⟩ | omega | (unfold xJ; omega) | (unfold xI; omega) | (exfalso; omega)
                        refine ⟨fun c19 => ?_, fun c19 => ?_⟩
                        · skip
                          first | (exfalso; omega) | (simp (disch := omega) only [if_pos, if_neg] at hQ; first | exact hQ | (rw [xb_t (by omega)] at hQ; exact hQ) | (rw [xb_f (by omega)] at hQ; exact hQ) | (rw [if_pos (by assumption)] at hQ; exact hQ))
                        · skip
                          first | (exfalso; omega) | (simp (disch := omega) only [if_pos, if_neg] at hQ; first | exact hQ | (rw [xb_t (by omega)] at hQ; exact hQ) | (rw [xb_f (by omega)] at hQ; exact hQ) | (rw [if_pos (by assumption)] at hQ; exact hQ))

theorem U_221 {X : Int × (Int → Int)} {d : Nat} {Q : Int → XH → Prop} (hd : 0 ≤ d) (f : Int) (H : XH) (h : xq X d 221 Q 4 [(0, (2, 67)), (2, (0, 0)), (3, (0, f))] [] H) : xc X (d + 1) 221 [(2, 67), (0, f)] H Q := by
  refine ⟨rfl, ?_⟩
  show xq X d 221 Q 100000 [(0, (2, 67)), (1, (0, f))] [] H
  refine xq_run [4, 168] 300 ?_
  show xq X d 221 Q 4 [(0, (2, 67)), (2, (0, 0)), (3, (0, f))] [] H
  exact h
theorem U_221_4 {X : Int × (Int → Int)} {d : Nat} {Q : Int → XH → Prop} (hd : 0 ≤ d) (v2 v3 : Int) (H : XH) (h : ((0 : Int) ≤ v3 ∧ (v3 : Int) < 1600) ∧ ((H 74 v3 = 408) → Q (H 95 0) H) ∧ (¬ (H 74 v3 = 408) → ((0 : Int) ≤ v3 ∧ (v3 : Int) < 1600) ∧ ((H 74 v3 = 400) → ((¬ H 74 v3 = 400) → ((0 : Int) ≤ v3 ∧ (v3 : Int) < 1600) ∧ ((0 : Int) ≤ H 75 v3 ∧ (H 75 v3 : Int) < 11) ∧ ((0 : Int) ≤ v2 ∧ (v2 : Int) < 200) ∧ (xI (v2 + 1)) ∧ (xI (v3 + 1)) ∧ xq X d 221 Q 4 [(0, (2, 67)), (2, (0, v2 + 1)), (3, (0, v3 + 1))] [] (xup H 95 v2 (H 94 (H 75 v3)))) ∧ (¬ (¬ H 74 v3 = 400) → ((0 : Int) ≤ v3 ∧ (v3 : Int) < 1600) ∧ ((0 : Int) ≤ v2 ∧ (v2 : Int) < 200) ∧ (xI (v2 + 1)) ∧ (xI (v3 + 1)) ∧ xq X d 221 Q 4 [(0, (2, 67)), (2, (0, v2 + 1)), (3, (0, v3 + 1))] [] (xup H 95 v2 (H 75 v3)))) ∧ (¬ (H 74 v3 = 400) → ((¬ H 74 v3 = 401) → ((¬ H 74 v3 = 402) → ((¬ H 74 v3 = 405) → (xI (v2 + (-1))) ∧ (xI ((v2 + (-1)) - 1)) ∧ (xI ((v2 + (-1)) - 1)) ∧ ((0 : Int) ≤ (v2 + (-1)) - 1 ∧ ((v2 + (-1)) - 1 : Int) < 200) ∧ ((0 : Int) ≤ v2 + (-1) ∧ (v2 + (-1) : Int) < 200) ∧ (xc X d 220 [(0, H 74 v3), (1, H 95 ((v2 + (-1)) - 1)), (1, H 95 (v2 + (-1)))] H (fun (J1743 : Int) (h1742 : XH) => ((0 : Int) ≤ (v2 + (-1)) - 1 ∧ ((v2 + (-1)) - 1 : Int) < 200) ∧ (xI (v3 + 1)) ∧ xq X d 221 Q 4 [(0, (2, 67)), (2, (0, v2 + (-1))), (3, (0, v3 + 1))] [] (xup h1742 95 ((v2 + (-1)) - 1) J1743)))) ∧ (¬ (¬ H 74 v3 = 405) → (xI (v2 - 1)) ∧ (xI (v2 - 1)) ∧ ((0 : Int) ≤ v2 - 1 ∧ (v2 - 1 : Int) < 200) ∧ (xJ (1 - (H 95 (v2 - 1)))) ∧ ((0 : Int) ≤ v2 - 1 ∧ (v2 - 1 : Int) < 200) ∧ (xI (v3 + 1)) ∧ xq X d 221 Q 4 [(0, (2, 67)), (2, (0, v2)), (3, (0, v3 + 1))] [] (xup H 95 (v2 - 1) (1 - (H 95 (v2 - 1)))))) ∧ (¬ (¬ H 74 v3 = 402) → (xI (v2 - 1)) ∧ (xI (v2 - 1)) ∧ ((0 : Int) ≤ v2 - 1 ∧ (v2 - 1 : Int) < 200) ∧ (xJ (-(H 95 (v2 - 1)))) ∧ ((0 : Int) ≤ v2 - 1 ∧ (v2 - 1 : Int) < 200) ∧ (xI (v3 + 1)) ∧ xq X d 221 Q 4 [(0, (2, 67)), (2, (0, v2)), (3, (0, v3 + 1))] [] (xup H 95 (v2 - 1) (-(H 95 (v2 - 1)))))) ∧ (¬ (¬ H 74 v3 = 401) → ((¬ H 74 v3 = 400) → ((0 : Int) ≤ v3 ∧ (v3 : Int) < 1600) ∧ ((0 : Int) ≤ H 75 v3 ∧ (H 75 v3 : Int) < 11) ∧ ((0 : Int) ≤ v2 ∧ (v2 : Int) < 200) ∧ (xI (v2 + 1)) ∧ (xI (v3 + 1)) ∧ xq X d 221 Q 4 [(0, (2, 67)), (2, (0, v2 + 1)), (3, (0, v3 + 1))] [] (xup H 95 v2 (H 94 (H 75 v3)))) ∧ (¬ (¬ H 74 v3 = 400) → ((0 : Int) ≤ v3 ∧ (v3 : Int) < 1600) ∧ ((0 : Int) ≤ v2 ∧ (v2 : Int) < 200) ∧ (xI (v2 + 1)) ∧ (xI (v3 + 1)) ∧ xq X d 221 Q 4 [(0, (2, 67)), (2, (0, v2 + 1)), (3, (0, v3 + 1))] [] (xup H 95 v2 (H 75 v3))))))) : xq X d 221 Q 4 [(0, (2, 67)), (2, (0, v2)), (3, (0, v3))] [] H := by
  show xq X d 221 Q 4 [(0, (2, 67)), (2, (0, v2)), (3, (0, v3))] [] H
  refine xq_run [4, 168] 300 ?_
  show ((0 : Int) ≤ v3 ∧ (v3 : Int) < 1600) ∧ ((H 74 v3 = 408) → ((0 : Int) ≤ 0 ∧ (0 : Int) < 200) ∧ xfR 1 (H 95 0) ∧ xKZ = xKZ ∧ Q (H 95 0) H) ∧ (¬ (H 74 v3 = 408) → ((0 : Int) ≤ v3 ∧ (v3 : Int) < 1600) ∧ ((H 74 v3 = 400) → ((¬ H 74 v3 = 400) → ((0 : Int) ≤ v3 ∧ (v3 : Int) < 1600) ∧ ((0 : Int) ≤ H 75 v3 ∧ (H 75 v3 : Int) < 11) ∧ ((0 : Int) ≤ v2 ∧ (v2 : Int) < 200) ∧ (xI (v2 + 1)) ∧ (xI (v3 + 1)) ∧ xq X d 221 Q 4 [(0, (2, 67)), (2, (0, v2 + 1)), (3, (0, v3 + 1))] [] (xup H 95 v2 (H 94 (H 75 v3)))) ∧ (¬ (¬ H 74 v3 = 400) → ((0 : Int) ≤ v3 ∧ (v3 : Int) < 1600) ∧ ((0 : Int) ≤ v2 ∧ (v2 : Int) < 200) ∧ (xI (v2 + 1)) ∧ (xI (v3 + 1)) ∧ xq X d 221 Q 4 [(0, (2, 67)), (2, (0, v2 + 1)), (3, (0, v3 + 1))] [] (xup H 95 v2 (H 75 v3)))) ∧ (¬ (H 74 v3 = 400) → ((¬ H 74 v3 = 401) → ((¬ H 74 v3 = 402) → ((¬ H 74 v3 = 405) → (xI (v2 + (-1))) ∧ (xI ((v2 + (-1)) - 1)) ∧ (xI ((v2 + (-1)) - 1)) ∧ ((0 : Int) ≤ (v2 + (-1)) - 1 ∧ ((v2 + (-1)) - 1 : Int) < 200) ∧ ((0 : Int) ≤ v2 + (-1) ∧ (v2 + (-1) : Int) < 200) ∧ xWM (xE X) xMC d 220 [(0, H 74 v3), (1, H 95 ((v2 + (-1)) - 1)), (1, H 95 (v2 + (-1)))] xKZ H _) ∧ (¬ (¬ H 74 v3 = 405) → (xI (v2 - 1)) ∧ (xI (v2 - 1)) ∧ ((0 : Int) ≤ v2 - 1 ∧ (v2 - 1 : Int) < 200) ∧ (xJ (1 - (H 95 (v2 - 1)))) ∧ ((0 : Int) ≤ v2 - 1 ∧ (v2 - 1 : Int) < 200) ∧ (xI (v3 + 1)) ∧ xq X d 221 Q 4 [(0, (2, 67)), (2, (0, v2)), (3, (0, v3 + 1))] [] (xup H 95 (v2 - 1) (1 - (H 95 (v2 - 1)))))) ∧ (¬ (¬ H 74 v3 = 402) → (xI (v2 - 1)) ∧ (xI (v2 - 1)) ∧ ((0 : Int) ≤ v2 - 1 ∧ (v2 - 1 : Int) < 200) ∧ (xJ (-(H 95 (v2 - 1)))) ∧ ((0 : Int) ≤ v2 - 1 ∧ (v2 - 1 : Int) < 200) ∧ (xI (v3 + 1)) ∧ xq X d 221 Q 4 [(0, (2, 67)), (2, (0, v2)), (3, (0, v3 + 1))] [] (xup H 95 (v2 - 1) (-(H 95 (v2 - 1)))))) ∧ (¬ (¬ H 74 v3 = 401) → ((¬ H 74 v3 = 400) → ((0 : Int) ≤ v3 ∧ (v3 : Int) < 1600) ∧ ((0 : Int) ≤ H 75 v3 ∧ (H 75 v3 : Int) < 11) ∧ ((0 : Int) ≤ v2 ∧ (v2 : Int) < 200) ∧ (xI (v2 + 1)) ∧ (xI (v3 + 1)) ∧ xq X d 221 Q 4 [(0, (2, 67)), (2, (0, v2 + 1)), (3, (0, v3 + 1))] [] (xup H 95 v2 (H 94 (H 75 v3)))) ∧ (¬ (¬ H 74 v3 = 400) → ((0 : Int) ≤ v3 ∧ (v3 : Int) < 1600) ∧ ((0 : Int) ≤ v2 ∧ (v2 : Int) < 200) ∧ (xI (v2 + 1)) ∧ (xI (v3 + 1)) ∧ xq X d 221 Q 4 [(0, (2, 67)), (2, (0, v2 + 1)), (3, (0, v3 + 1))] [] (xup H 95 v2 (H 75 v3))))))
  refine ⟨h.1, ?_⟩
  replace h := h.2
  refine ⟨fun k_ => ?_, fun k_ => ?_⟩
  · replace h := h.1 k_
    refine ⟨⟨by decide, by decide⟩, ?_⟩
    exact ⟨trivial, rfl, h⟩
  · replace h := h.2 k_
    refine ⟨h.1, ?_⟩
    replace h := h.2
    refine ⟨fun k_ => ?_, fun k_ => ?_⟩
    · replace h := h.1 k_
      refine ⟨fun k_ => ?_, fun k_ => ?_⟩
      · replace h := h.1 k_
        refine ⟨h.1, ?_⟩
        replace h := h.2
        refine ⟨h.1, ?_⟩
        replace h := h.2
        refine ⟨h.1, ?_⟩
        replace h := h.2
        refine ⟨h.1, ?_⟩
        replace h := h.2
        refine ⟨h.1, ?_⟩
        replace h := h.2
        exact h
      · replace h := h.2 k_
        refine ⟨h.1, ?_⟩
        replace h := h.2
        refine ⟨h.1, ?_⟩
        replace h := h.2
        refine ⟨h.1, ?_⟩
        replace h := h.2
        refine ⟨h.1, ?_⟩
        replace h := h.2
        exact h
    · replace h := h.2 k_
      refine ⟨fun k_ => ?_, fun k_ => ?_⟩
      · replace h := h.1 k_
        refine ⟨fun k_ => ?_, fun k_ => ?_⟩
        · replace h := h.1 k_
          refine ⟨fun k_ => ?_, fun k_ => ?_⟩
          · replace h := h.1 k_
            refine ⟨h.1, ?_⟩
            replace h := h.2
            refine ⟨h.1, ?_⟩
            replace h := h.2
            refine ⟨h.1, ?_⟩
            replace h := h.2
            refine ⟨h.1, ?_⟩
            replace h := h.2
            refine ⟨h.1, ?_⟩
            replace h := h.2
            refine xc_in (xc_mono (fun J1743 h1742 q_ => ?_) h)
            replace h := q_
            show xq X d 221 Q 168 [(2, (0, v2 + (-1))), (4, (0, H 74 v3)), (0, (2, 67)), (3, (0, v3))] [(1, J1743), (0, (v2 + (-1)) - 1), (2, 95)] h1742
            refine xq_run [4, 168] 300 ?_
            show ((0 : Int) ≤ (v2 + (-1)) - 1 ∧ ((v2 + (-1)) - 1 : Int) < 200) ∧ (xI (v3 + 1)) ∧ xq X d 221 Q 4 [(0, (2, 67)), (2, (0, v2 + (-1))), (3, (0, v3 + 1))] [] (xup h1742 95 ((v2 + (-1)) - 1) J1743)
            refine ⟨h.1, ?_⟩
            replace h := h.2
            refine ⟨h.1, ?_⟩
            replace h := h.2
            exact h
          · replace h := h.2 k_
            refine ⟨h.1, ?_⟩
            replace h := h.2
            refine ⟨h.1, ?_⟩
            replace h := h.2
            refine ⟨h.1, ?_⟩
            replace h := h.2
            refine ⟨h.1, ?_⟩
            replace h := h.2
            refine ⟨h.1, ?_⟩
            replace h := h.2
            refine ⟨h.1, ?_⟩
            replace h := h.2
            exact h
        · replace h := h.2 k_
          refine ⟨h.1, ?_⟩
          replace h := h.2
          refine ⟨h.1, ?_⟩
          replace h := h.2
          refine ⟨h.1, ?_⟩
          replace h := h.2
          refine ⟨h.1, ?_⟩
          replace h := h.2
          refine ⟨h.1, ?_⟩
          replace h := h.2
          refine ⟨h.1, ?_⟩
          replace h := h.2
          exact h
      · replace h := h.2 k_
        refine ⟨fun k_ => ?_, fun k_ => ?_⟩
        · replace h := h.1 k_
          refine ⟨h.1, ?_⟩
          replace h := h.2
          refine ⟨h.1, ?_⟩
          replace h := h.2
          refine ⟨h.1, ?_⟩
          replace h := h.2
          refine ⟨h.1, ?_⟩
          replace h := h.2
          refine ⟨h.1, ?_⟩
          replace h := h.2
          exact h
        · replace h := h.2 k_
          refine ⟨h.1, ?_⟩
          replace h := h.2
          refine ⟨h.1, ?_⟩
          replace h := h.2
          refine ⟨h.1, ?_⟩
          replace h := h.2
          refine ⟨h.1, ?_⟩
          replace h := h.2
          exact h

theorem orR_p {x o v : Int} (h : orR x o v) (q : (0 ≤ x ∧ x ≤ 9999) ∨ (10007 ≤ x ∧ x ≤ 10017)) : (0 ≤ x ∧ x ≤ 9999 ∧ o = 400 ∧ v = x) ∨ (10007 ≤ x ∧ x ≤ 10017 ∧ o = 401 ∧ v = x - 10007) := by
  unfold orR wtR cmR at h
  omega
theorem orR_m {x o v : Int} (h : orR x o v) (q : x = 10043) : o = 402 := by
  unfold orR wtR cmR at h
  omega
theorem orR_n {x o v : Int} (h : orR x o v) (q : x = 10006) : o = 405 := by
  unfold orR wtR cmR at h
  omega
theorem orR_e {x o v : Int} (h : orR x o v) (q : 10000 ≤ x ∧ x ≤ 10003) : o = 408 := by
  unfold orR wtR cmR at h
  omega
theorem orR_2 {x o v : Int} (h : orR x o v) (q : (10034 ≤ x ∧ x ≤ 10037) ∨ (10030 ≤ x ∧ x ≤ 10033) ∨ x = 10041 ∨ x = 10042 ∨ x = 10004 ∨ x = 10005) : (¬ o = 400 ∧ ¬ o = 401 ∧ ¬ o = 402 ∧ ¬ o = 405 ∧ ¬ o = 408) ∧ (wtR (x - 10000) o ∨ cmR (x - 10000) o) := by
  unfold orR at h
  have z : wtR (x - 10000) o ∨ cmR (x - 10000) o := by
    rcases h with h | h | h | h | h | h | h
    · omega
    · omega
    · omega
    · omega
    · omega
    · exact Or.inl h
    · exact Or.inr h
  refine ⟨?_, z⟩
  unfold wtR cmR at z
  omega
def jM (H h : XH) : Prop := ∀ o, ¬ o = 95 → h o = H o
theorem jM_refl (H : XH) : jM H H := fun _ _ => rfl
theorem jM_up {H h : XH} (a : jM H h) (k v : Int) : jM H (xup h 95 k v) := fun o q => by
  rw [xup_ne q]
  exact a o q
theorem skR_ps {h : XH} {o v c : Int} {s : List Int} (K : skR (h o) s) (e : c = (s.length : Int)) : skR (xup h o c v o) (v :: s) := by
  subst e
  exact ⟨xup_self _ _ _ _, skR_up (f := h o) s (fun k a b => (xup_k (by omega) : xup h o (s.length : Int) v o k = h o k)) K⟩

theorem s_221 {X : Int × (Int → Int)} {d : Nat} {Q : Int → XH → Prop} (hd : 5 ≤ d) (a : Int) (w : Int → Int) (p : Int × List Int) (H : XH) (po : clOk p) (hw : ∀ i, 0 ≤ i → i ≤ 10 → -1000000 ≤ w i ∧ w i ≤ 1000000) (hn : ∀ i, 0 ≤ i → i ≤ 10 → H 94 i = w i) (ha : 0 ≤ a ∧ a + (p.2.length : Int) < 1600) (ho : ∀ k : Nat, k < p.2.length → orR (p.2.getD k 0) (H 74 (a + k)) (H 75 (a + k))) (he : H 74 (a + (p.2.length : Int)) = 408) (hQ : ∀ h1, jM H h1 → Q (valS w p.2) h1) : xc X d 221 [(2, 67), (0, a)] H Q := by
  cases d with
  | zero => omega
  | succ d =>
  have key : ∀ (cd : List Int) (b b' : List Bool) (s : List Int) (i : Int) (h : XH), jM H h → skR (h 95) s → tcR cd b = some b' → tyS b s → s.length ≤ 60 → (0 ≤ i ∧ i + (cd.length : Int) < 1600) → (∀ k : Nat, k < cd.length → orR (cd.getD k 0) (H 74 (i + k)) (H 75 (i + k))) → (∀ h1, jM H h1 → skR (h1 95) (evR w cd s) → xq X d 221 Q 4 [(0, (2, 67)), (2, (0, ((evR w cd s).length : Int))), (3, (0, i + (cd.length : Int)))] [] h1) → xq X d 221 Q 4 [(0, (2, 67)), (2, (0, (s.length : Int))), (3, (0, i))] [] h := by
    intro cd
    induction cd with
    | nil =>
      intro b b' s i h f K _ _ _ _ _ k
      have z := k h f K
      rw [show i + (([] : List Int).length : Int) = i from Int.add_zero i] at z
      exact z
    | cons x cd ih =>
      intro b b' s i h f K tc ty ls li hx k
      have tc' : (tcS x b).bind (tcR cd) = some b' := tc
      obtain ⟨b1, eb⟩ : ∃ b1, tcS x b = some b1 := by
        cases e : tcS x b with
        | none =>
          rw [e] at tc'
          cases tc'
        | some b1 => exact ⟨b1, rfl⟩
      rw [eb] at tc'
      have tc2 : tcR cd b1 = some b' := tc'
      have ty2 := evS_ty hw eb ty
      have lb := tyS_len _ _ ty2
      have lc : ((x :: cd).length : Int) = (cd.length : Int) + 1 := rfl
      have o0 : orR x (h 74 i) (h 75 i) := by
        rw [f 74 (by decide), f 75 (by decide)]
        have z := hx 0 (Nat.zero_lt_succ _)
        rw [show i + ((0 : Nat) : Int) = i from Int.add_zero i] at z
        exact z
      have n94 : ∀ j, 0 ≤ j → j ≤ 10 → h 94 j = w j := fun j p q => by rw [f 94 (by decide)]; exact hn j p q
      have lsx : (evS w x s).length ≤ 60 := by
        rcases tcS_cases eb ty with ⟨q, l60, e⟩ | ⟨q, v, r, e, -, c', e2, t2⟩ | ⟨q, v, r, e, -, c', e2, t2⟩ | ⟨l, v, r, e, z⟩
        · rw [lb, e]
          have := tyS_len _ _ ty
          simp only [List.length_cons]
          omega
        · have := tyS_len _ _ t2
          rw [lb, e2]
          rw [e] at ls
          simp only [List.length_cons] at ls ⊢
          omega
        · have := tyS_len _ _ t2
          rw [lb, e2]
          rw [e] at ls
          simp only [List.length_cons] at ls ⊢
          omega
        · rw [e] at ls
          simp only [List.length_cons] at ls
          rcases z with ⟨-, -, -, c', e2, t2⟩ | ⟨-, -, -, c', e2, t2⟩ | ⟨-, -, -, c', e2, t2⟩ <;> (have := tyS_len _ _ t2; rw [lb, e2]; simp only [List.length_cons]; omega)
      have nx : ∀ (c : Int) (h1 : XH), jM H h1 → c = ((evS w x s).length : Int) → skR (h1 95) (evS w x s) → xq X d 221 Q 4 [(0, (2, 67)), (2, (0, c)), (3, (0, i + 1))] [] h1 := fun c h1 f1 ec K1 => by
        subst ec
        refine ih b1 b' (evS w x s) (i + 1) h1 f1 K1 tc2 ty2 lsx (by omega) (fun j hj => ?_) (fun h2 f2 K2 => ?_)
        · have z := hx (j + 1) (Nat.succ_lt_succ hj)
          rw [show i + 1 + (j : Int) = i + ((j + 1 : Nat) : Int) by omega]
          exact z
        · have z := k h2 f2 K2
          rw [show i + ((x :: cd).length : Int) = i + 1 + (cd.length : Int) by omega] at z
          exact z
      rcases tcS_cases eb ty with ⟨q, l60, -⟩ | ⟨q, v, r, e, hv, -⟩ | ⟨q, v, r, e, hv, -⟩ | ⟨l, v, r, e, z⟩
      · have op := orR_p o0 q
        have ev : evS w x s = (if 0 ≤ x ∧ x ≤ 9999 then x else w (x - 10007)) :: s := by
          unfold evS
          by_cases q2 : 0 ≤ x ∧ x ≤ 9999
          · rw [if_pos q2, if_pos q2]
          · rw [if_neg q2, if_neg q2, if_pos (by omega)]
        have v75 : h 75 i = if 0 ≤ x ∧ x ≤ 9999 then x else x - 10007 := by
          split <;> omega
        have w94 : h 74 i = 401 → h 94 (h 75 i) = if 0 ≤ x ∧ x ≤ 9999 then x else w (x - 10007) := fun q1 => by
          rw [if_neg (by omega), show h 75 i = x - 10007 by omega]
          exact n94 _ (by omega) (by omega)
        refine U_221_4 (by omega) _ i h ?_
        refine ⟨?_, ?_⟩
        · first | omega | (unfold xI; omega) | (unfold xJ; omega) | (exfalso; omega)
        refine ⟨fun c1 => ?_, fun c1 => ?_⟩
        · skip
          first | (exfalso; omega) | exact nx _ _ (jM_up f _ _) (by rw [ev]; rfl) (by rw [ev, w94 (by omega)]; exact skR_ps K rfl) | exact nx _ _ (jM_up f _ _) (by rw [ev]; rfl) (by rw [ev, show h 75 i = if 0 ≤ x ∧ x ≤ 9999 then x else w (x - 10007) by (rw [if_pos (by omega)]; omega)]; exact skR_ps K rfl)
        · skip
          refine ⟨?_, ?_⟩
          · first | omega | (unfold xI; omega) | (unfold xJ; omega) | (exfalso; omega)
          refine ⟨fun c2 => ?_, fun c2 => ?_⟩
          · skip
            refine ⟨fun c3 => ?_, fun c3 => ?_⟩
            · skip
              refine ⟨?_, ?_⟩
              · first | omega | (unfold xI; omega) | (unfold xJ; omega) | (exfalso; omega)
              refine ⟨?_, ?_⟩
              · first | omega | (unfold xI; omega) | (unfold xJ; omega) | (exfalso; omega)
              refine ⟨?_, ?_⟩
              · first | omega | (unfold xI; omega) | (unfold xJ; omega) | (exfalso; omega)
              refine ⟨?_, ?_⟩
              · first | omega | (unfold xI; omega) | (unfold xJ; omega) | (exfalso; omega)
              refine ⟨?_, ?_⟩
              · first | omega | (unfold xI; omega) | (unfold xJ; omega) | (exfalso; omega)
              first | (exfalso; omega) | exact nx _ _ (jM_up f _ _) (by rw [ev]; rfl) (by rw [ev, w94 (by omega)]; exact skR_ps K rfl) | exact nx _ _ (jM_up f _ _) (by rw [ev]; rfl) (by rw [ev, show h 75 i = if 0 ≤ x ∧ x ≤ 9999 then x else w (x - 10007) by (rw [if_pos (by omega)]; omega)]; exact skR_ps K rfl)
            · skip
              refine ⟨?_, ?_⟩
              · first | omega | (unfold xI; omega) | (unfold xJ; omega) | (exfalso; omega)
              refine ⟨?_, ?_⟩
              · first | omega | (unfold xI; omega) | (unfold xJ; omega) | (exfalso; omega)
              refine ⟨?_, ?_⟩
              · first | omega | (unfold xI; omega) | (unfold xJ; omega) | (exfalso; omega)
              refine ⟨?_, ?_⟩
              · first | omega | (unfold xI; omega) | (unfold xJ; omega) | (exfalso; omega)
              first | (exfalso; omega) | exact nx _ _ (jM_up f _ _) (by rw [ev]; rfl) (by rw [ev, w94 (by omega)]; exact skR_ps K rfl) | exact nx _ _ (jM_up f _ _) (by rw [ev]; rfl) (by rw [ev, show h 75 i = if 0 ≤ x ∧ x ≤ 9999 then x else w (x - 10007) by (rw [if_pos (by omega)]; omega)]; exact skR_ps K rfl)
          · skip
            refine ⟨fun c4 => ?_, fun c4 => ?_⟩
            · skip
              refine ⟨fun c5 => ?_, fun c5 => ?_⟩
              · skip
                refine ⟨fun c6 => ?_, fun c6 => ?_⟩
                · skip
                  refine ⟨?_, ?_⟩
                  · first | omega | (unfold xI; omega) | (unfold xJ; omega) | (exfalso; omega)
                  refine ⟨?_, ?_⟩
                  · first | omega | (unfold xI; omega) | (unfold xJ; omega) | (exfalso; omega)
                  refine ⟨?_, ?_⟩
                  · first | omega | (unfold xI; omega) | (unfold xJ; omega) | (exfalso; omega)
                  refine ⟨?_, ?_⟩
                  · first | omega | (unfold xI; omega) | (unfold xJ; omega) | (exfalso; omega)
                  refine ⟨?_, ?_⟩
                  · first | omega | (unfold xI; omega) | (unfold xJ; omega) | (exfalso; omega)
                  exfalso
                  omega
                · skip
                  refine ⟨?_, ?_⟩
                  · first | omega | (unfold xI; omega) | (unfold xJ; omega) | (exfalso; omega)
                  refine ⟨?_, ?_⟩
                  · first | omega | (unfold xI; omega) | (unfold xJ; omega) | (exfalso; omega)
                  refine ⟨?_, ?_⟩
                  · first | omega | (unfold xI; omega) | (unfold xJ; omega) | (exfalso; omega)
                  refine ⟨?_, ?_⟩
                  · first | omega | (unfold xI; omega) | (unfold xJ; omega) | (exfalso; omega)
                  refine ⟨?_, ?_⟩
                  · first | omega | (unfold xI; omega) | (unfold xJ; omega) | (exfalso; omega)
                  refine ⟨?_, ?_⟩
                  · first | omega | (unfold xI; omega) | (unfold xJ; omega) | (exfalso; omega)
                  first | (exfalso; omega) | exact nx _ _ (jM_up f _ _) (by rw [ev]; rfl) (by rw [ev, w94 (by omega)]; exact skR_ps K rfl) | exact nx _ _ (jM_up f _ _) (by rw [ev]; rfl) (by rw [ev, show h 75 i = if 0 ≤ x ∧ x ≤ 9999 then x else w (x - 10007) by (rw [if_pos (by omega)]; omega)]; exact skR_ps K rfl)
              · skip
                refine ⟨?_, ?_⟩
                · first | omega | (unfold xI; omega) | (unfold xJ; omega) | (exfalso; omega)
                refine ⟨?_, ?_⟩
                · first | omega | (unfold xI; omega) | (unfold xJ; omega) | (exfalso; omega)
                refine ⟨?_, ?_⟩
                · first | omega | (unfold xI; omega) | (unfold xJ; omega) | (exfalso; omega)
                refine ⟨?_, ?_⟩
                · first | omega | (unfold xI; omega) | (unfold xJ; omega) | (exfalso; omega)
                refine ⟨?_, ?_⟩
                · first | omega | (unfold xI; omega) | (unfold xJ; omega) | (exfalso; omega)
                refine ⟨?_, ?_⟩
                · first | omega | (unfold xI; omega) | (unfold xJ; omega) | (exfalso; omega)
                first | (exfalso; omega) | exact nx _ _ (jM_up f _ _) (by rw [ev]; rfl) (by rw [ev, w94 (by omega)]; exact skR_ps K rfl) | exact nx _ _ (jM_up f _ _) (by rw [ev]; rfl) (by rw [ev, show h 75 i = if 0 ≤ x ∧ x ≤ 9999 then x else w (x - 10007) by (rw [if_pos (by omega)]; omega)]; exact skR_ps K rfl)
            · skip
              refine ⟨fun c7 => ?_, fun c7 => ?_⟩
              · skip
                refine ⟨?_, ?_⟩
                · first | omega | (unfold xI; omega) | (unfold xJ; omega) | (exfalso; omega)
                refine ⟨?_, ?_⟩
                · first | omega | (unfold xI; omega) | (unfold xJ; omega) | (exfalso; omega)
                refine ⟨?_, ?_⟩
                · first | omega | (unfold xI; omega) | (unfold xJ; omega) | (exfalso; omega)
                refine ⟨?_, ?_⟩
                · first | omega | (unfold xI; omega) | (unfold xJ; omega) | (exfalso; omega)
                refine ⟨?_, ?_⟩
                · first | omega | (unfold xI; omega) | (unfold xJ; omega) | (exfalso; omega)
                first | (exfalso; omega) | exact nx _ _ (jM_up f _ _) (by rw [ev]; rfl) (by rw [ev, w94 (by omega)]; exact skR_ps K rfl) | exact nx _ _ (jM_up f _ _) (by rw [ev]; rfl) (by rw [ev, show h 75 i = if 0 ≤ x ∧ x ≤ 9999 then x else w (x - 10007) by (rw [if_pos (by omega)]; omega)]; exact skR_ps K rfl)
              · skip
                refine ⟨?_, ?_⟩
                · first | omega | (unfold xI; omega) | (unfold xJ; omega) | (exfalso; omega)
                refine ⟨?_, ?_⟩
                · first | omega | (unfold xI; omega) | (unfold xJ; omega) | (exfalso; omega)
                refine ⟨?_, ?_⟩
                · first | omega | (unfold xI; omega) | (unfold xJ; omega) | (exfalso; omega)
                refine ⟨?_, ?_⟩
                · first | omega | (unfold xI; omega) | (unfold xJ; omega) | (exfalso; omega)
                first | (exfalso; omega) | exact nx _ _ (jM_up f _ _) (by rw [ev]; rfl) (by rw [ev, w94 (by omega)]; exact skR_ps K rfl) | exact nx _ _ (jM_up f _ _) (by rw [ev]; rfl) (by rw [ev, show h 75 i = if 0 ≤ x ∧ x ≤ 9999 then x else w (x - 10007) by (rw [if_pos (by omega)]; omega)]; exact skR_ps K rfl)
      · have op := orR_m o0 q
        have ev : evS w x s = -v :: r := by
          rw [e]
          unfold evS
          rw [if_neg (by omega), if_neg (by omega)]
          dsimp only
          rw [if_pos q]
        rw [e] at K ls
        have e1 : ((v :: r).length : Int) - 1 = (r.length : Int) := by
          simp only [List.length_cons]
          omega
        have e2 : ((v :: r).length : Int) = (r.length : Int) + 1 := rfl
        have l2 : (v :: r).length = r.length + 1 := rfl
        rw [e]
        refine U_221_4 (by omega) _ i h ?_
        rw [e1, K.1]
        refine ⟨?_, ?_⟩
        · first | omega | (unfold xI; omega) | (unfold xJ; omega) | (exfalso; omega)
        refine ⟨fun c1 => ?_, fun c1 => ?_⟩
        · skip
          first | (exfalso; omega) | exact nx _ _ (jM_up f _ _) (by rw [ev]; rfl) (by rw [ev]; exact skR_ps K.2 rfl)
        · skip
          refine ⟨?_, ?_⟩
          · first | omega | (unfold xI; omega) | (unfold xJ; omega) | (exfalso; omega)
          refine ⟨fun c2 => ?_, fun c2 => ?_⟩
          · skip
            refine ⟨fun c3 => ?_, fun c3 => ?_⟩
            · skip
              refine ⟨?_, ?_⟩
              · first | omega | (unfold xI; omega) | (unfold xJ; omega) | (exfalso; omega)
              refine ⟨?_, ?_⟩
              · first | omega | (unfold xI; omega) | (unfold xJ; omega) | (exfalso; omega)
              refine ⟨?_, ?_⟩
              · first | omega | (unfold xI; omega) | (unfold xJ; omega) | (exfalso; omega)
              refine ⟨?_, ?_⟩
              · first | omega | (unfold xI; omega) | (unfold xJ; omega) | (exfalso; omega)
              refine ⟨?_, ?_⟩
              · first | omega | (unfold xI; omega) | (unfold xJ; omega) | (exfalso; omega)
              first | (exfalso; omega) | exact nx _ _ (jM_up f _ _) (by rw [ev]; rfl) (by rw [ev]; exact skR_ps K.2 rfl)
            · skip
              refine ⟨?_, ?_⟩
              · first | omega | (unfold xI; omega) | (unfold xJ; omega) | (exfalso; omega)
              refine ⟨?_, ?_⟩
              · first | omega | (unfold xI; omega) | (unfold xJ; omega) | (exfalso; omega)
              refine ⟨?_, ?_⟩
              · first | omega | (unfold xI; omega) | (unfold xJ; omega) | (exfalso; omega)
              refine ⟨?_, ?_⟩
              · first | omega | (unfold xI; omega) | (unfold xJ; omega) | (exfalso; omega)
              first | (exfalso; omega) | exact nx _ _ (jM_up f _ _) (by rw [ev]; rfl) (by rw [ev]; exact skR_ps K.2 rfl)
          · skip
            refine ⟨fun c4 => ?_, fun c4 => ?_⟩
            · skip
              refine ⟨fun c5 => ?_, fun c5 => ?_⟩
              · skip
                refine ⟨fun c6 => ?_, fun c6 => ?_⟩
                · skip
                  refine ⟨?_, ?_⟩
                  · first | omega | (unfold xI; omega) | (unfold xJ; omega) | (exfalso; omega)
                  refine ⟨?_, ?_⟩
                  · first | omega | (unfold xI; omega) | (unfold xJ; omega) | (exfalso; omega)
                  refine ⟨?_, ?_⟩
                  · first | omega | (unfold xI; omega) | (unfold xJ; omega) | (exfalso; omega)
                  refine ⟨?_, ?_⟩
                  · first | omega | (unfold xI; omega) | (unfold xJ; omega) | (exfalso; omega)
                  refine ⟨?_, ?_⟩
                  · first | omega | (unfold xI; omega) | (unfold xJ; omega) | (exfalso; omega)
                  exfalso
                  omega
                · skip
                  refine ⟨?_, ?_⟩
                  · first | omega | (unfold xI; omega) | (unfold xJ; omega) | (exfalso; omega)
                  refine ⟨?_, ?_⟩
                  · first | omega | (unfold xI; omega) | (unfold xJ; omega) | (exfalso; omega)
                  refine ⟨?_, ?_⟩
                  · first | omega | (unfold xI; omega) | (unfold xJ; omega) | (exfalso; omega)
                  refine ⟨?_, ?_⟩
                  · first | omega | (unfold xI; omega) | (unfold xJ; omega) | (exfalso; omega)
                  refine ⟨?_, ?_⟩
                  · first | omega | (unfold xI; omega) | (unfold xJ; omega) | (exfalso; omega)
                  refine ⟨?_, ?_⟩
                  · first | omega | (unfold xI; omega) | (unfold xJ; omega) | (exfalso; omega)
                  first | (exfalso; omega) | exact nx _ _ (jM_up f _ _) (by rw [ev]; rfl) (by rw [ev]; exact skR_ps K.2 rfl)
              · skip
                refine ⟨?_, ?_⟩
                · first | omega | (unfold xI; omega) | (unfold xJ; omega) | (exfalso; omega)
                refine ⟨?_, ?_⟩
                · first | omega | (unfold xI; omega) | (unfold xJ; omega) | (exfalso; omega)
                refine ⟨?_, ?_⟩
                · first | omega | (unfold xI; omega) | (unfold xJ; omega) | (exfalso; omega)
                refine ⟨?_, ?_⟩
                · first | omega | (unfold xI; omega) | (unfold xJ; omega) | (exfalso; omega)
                refine ⟨?_, ?_⟩
                · first | omega | (unfold xI; omega) | (unfold xJ; omega) | (exfalso; omega)
                refine ⟨?_, ?_⟩
                · first | omega | (unfold xI; omega) | (unfold xJ; omega) | (exfalso; omega)
                first | (exfalso; omega) | exact nx _ _ (jM_up f _ _) (by rw [ev]; rfl) (by rw [ev]; exact skR_ps K.2 rfl)
            · skip
              refine ⟨fun c7 => ?_, fun c7 => ?_⟩
              · skip
                refine ⟨?_, ?_⟩
                · first | omega | (unfold xI; omega) | (unfold xJ; omega) | (exfalso; omega)
                refine ⟨?_, ?_⟩
                · first | omega | (unfold xI; omega) | (unfold xJ; omega) | (exfalso; omega)
                refine ⟨?_, ?_⟩
                · first | omega | (unfold xI; omega) | (unfold xJ; omega) | (exfalso; omega)
                refine ⟨?_, ?_⟩
                · first | omega | (unfold xI; omega) | (unfold xJ; omega) | (exfalso; omega)
                refine ⟨?_, ?_⟩
                · first | omega | (unfold xI; omega) | (unfold xJ; omega) | (exfalso; omega)
                first | (exfalso; omega) | exact nx _ _ (jM_up f _ _) (by rw [ev]; rfl) (by rw [ev]; exact skR_ps K.2 rfl)
              · skip
                refine ⟨?_, ?_⟩
                · first | omega | (unfold xI; omega) | (unfold xJ; omega) | (exfalso; omega)
                refine ⟨?_, ?_⟩
                · first | omega | (unfold xI; omega) | (unfold xJ; omega) | (exfalso; omega)
                refine ⟨?_, ?_⟩
                · first | omega | (unfold xI; omega) | (unfold xJ; omega) | (exfalso; omega)
                refine ⟨?_, ?_⟩
                · first | omega | (unfold xI; omega) | (unfold xJ; omega) | (exfalso; omega)
                first | (exfalso; omega) | exact nx _ _ (jM_up f _ _) (by rw [ev]; rfl) (by rw [ev]; exact skR_ps K.2 rfl)
      · have op := orR_n o0 q
        have ev : evS w x s = (1 - v) :: r := by
          rw [e]
          unfold evS
          rw [if_neg (by omega), if_neg (by omega)]
          dsimp only
          rw [if_neg (by omega), if_pos q]
        rw [e] at K ls
        have e1 : ((v :: r).length : Int) - 1 = (r.length : Int) := by
          simp only [List.length_cons]
          omega
        have e2 : ((v :: r).length : Int) = (r.length : Int) + 1 := rfl
        have l2 : (v :: r).length = r.length + 1 := rfl
        rw [e]
        refine U_221_4 (by omega) _ i h ?_
        rw [e1, K.1]
        refine ⟨?_, ?_⟩
        · first | omega | (unfold xI; omega) | (unfold xJ; omega) | (exfalso; omega)
        refine ⟨fun c1 => ?_, fun c1 => ?_⟩
        · skip
          first | (exfalso; omega) | exact nx _ _ (jM_up f _ _) (by rw [ev]; rfl) (by rw [ev]; exact skR_ps K.2 rfl)
        · skip
          refine ⟨?_, ?_⟩
          · first | omega | (unfold xI; omega) | (unfold xJ; omega) | (exfalso; omega)
          refine ⟨fun c2 => ?_, fun c2 => ?_⟩
          · skip
            refine ⟨fun c3 => ?_, fun c3 => ?_⟩
            · skip
              refine ⟨?_, ?_⟩
              · first | omega | (unfold xI; omega) | (unfold xJ; omega) | (exfalso; omega)
              refine ⟨?_, ?_⟩
              · first | omega | (unfold xI; omega) | (unfold xJ; omega) | (exfalso; omega)
              refine ⟨?_, ?_⟩
              · first | omega | (unfold xI; omega) | (unfold xJ; omega) | (exfalso; omega)
              refine ⟨?_, ?_⟩
              · first | omega | (unfold xI; omega) | (unfold xJ; omega) | (exfalso; omega)
              refine ⟨?_, ?_⟩
              · first | omega | (unfold xI; omega) | (unfold xJ; omega) | (exfalso; omega)
              first | (exfalso; omega) | exact nx _ _ (jM_up f _ _) (by rw [ev]; rfl) (by rw [ev]; exact skR_ps K.2 rfl)
            · skip
              refine ⟨?_, ?_⟩
              · first | omega | (unfold xI; omega) | (unfold xJ; omega) | (exfalso; omega)
              refine ⟨?_, ?_⟩
              · first | omega | (unfold xI; omega) | (unfold xJ; omega) | (exfalso; omega)
              refine ⟨?_, ?_⟩
              · first | omega | (unfold xI; omega) | (unfold xJ; omega) | (exfalso; omega)
              refine ⟨?_, ?_⟩
              · first | omega | (unfold xI; omega) | (unfold xJ; omega) | (exfalso; omega)
              first | (exfalso; omega) | exact nx _ _ (jM_up f _ _) (by rw [ev]; rfl) (by rw [ev]; exact skR_ps K.2 rfl)
          · skip
            refine ⟨fun c4 => ?_, fun c4 => ?_⟩
            · skip
              refine ⟨fun c5 => ?_, fun c5 => ?_⟩
              · skip
                refine ⟨fun c6 => ?_, fun c6 => ?_⟩
                · skip
                  refine ⟨?_, ?_⟩
                  · first | omega | (unfold xI; omega) | (unfold xJ; omega) | (exfalso; omega)
                  refine ⟨?_, ?_⟩
                  · first | omega | (unfold xI; omega) | (unfold xJ; omega) | (exfalso; omega)
                  refine ⟨?_, ?_⟩
                  · first | omega | (unfold xI; omega) | (unfold xJ; omega) | (exfalso; omega)
                  refine ⟨?_, ?_⟩
                  · first | omega | (unfold xI; omega) | (unfold xJ; omega) | (exfalso; omega)
                  refine ⟨?_, ?_⟩
                  · first | omega | (unfold xI; omega) | (unfold xJ; omega) | (exfalso; omega)
                  exfalso
                  omega
                · skip
                  refine ⟨?_, ?_⟩
                  · first | omega | (unfold xI; omega) | (unfold xJ; omega) | (exfalso; omega)
                  refine ⟨?_, ?_⟩
                  · first | omega | (unfold xI; omega) | (unfold xJ; omega) | (exfalso; omega)
                  refine ⟨?_, ?_⟩
                  · first | omega | (unfold xI; omega) | (unfold xJ; omega) | (exfalso; omega)
                  refine ⟨?_, ?_⟩
                  · first | omega | (unfold xI; omega) | (unfold xJ; omega) | (exfalso; omega)
                  refine ⟨?_, ?_⟩
                  · first | omega | (unfold xI; omega) | (unfold xJ; omega) | (exfalso; omega)
                  refine ⟨?_, ?_⟩
                  · first | omega | (unfold xI; omega) | (unfold xJ; omega) | (exfalso; omega)
                  first | (exfalso; omega) | exact nx _ _ (jM_up f _ _) (by rw [ev]; rfl) (by rw [ev]; exact skR_ps K.2 rfl)
              · skip
                refine ⟨?_, ?_⟩
                · first | omega | (unfold xI; omega) | (unfold xJ; omega) | (exfalso; omega)
                refine ⟨?_, ?_⟩
                · first | omega | (unfold xI; omega) | (unfold xJ; omega) | (exfalso; omega)
                refine ⟨?_, ?_⟩
                · first | omega | (unfold xI; omega) | (unfold xJ; omega) | (exfalso; omega)
                refine ⟨?_, ?_⟩
                · first | omega | (unfold xI; omega) | (unfold xJ; omega) | (exfalso; omega)
                refine ⟨?_, ?_⟩
                · first | omega | (unfold xI; omega) | (unfold xJ; omega) | (exfalso; omega)
                refine ⟨?_, ?_⟩
                · first | omega | (unfold xI; omega) | (unfold xJ; omega) | (exfalso; omega)
                first | (exfalso; omega) | exact nx _ _ (jM_up f _ _) (by rw [ev]; rfl) (by rw [ev]; exact skR_ps K.2 rfl)
            · skip
              refine ⟨fun c7 => ?_, fun c7 => ?_⟩
              · skip
                refine ⟨?_, ?_⟩
                · first | omega | (unfold xI; omega) | (unfold xJ; omega) | (exfalso; omega)
                refine ⟨?_, ?_⟩
                · first | omega | (unfold xI; omega) | (unfold xJ; omega) | (exfalso; omega)
                refine ⟨?_, ?_⟩
                · first | omega | (unfold xI; omega) | (unfold xJ; omega) | (exfalso; omega)
                refine ⟨?_, ?_⟩
                · first | omega | (unfold xI; omega) | (unfold xJ; omega) | (exfalso; omega)
                refine ⟨?_, ?_⟩
                · first | omega | (unfold xI; omega) | (unfold xJ; omega) | (exfalso; omega)
                first | (exfalso; omega) | exact nx _ _ (jM_up f _ _) (by rw [ev]; rfl) (by rw [ev]; exact skR_ps K.2 rfl)
              · skip
                refine ⟨?_, ?_⟩
                · first | omega | (unfold xI; omega) | (unfold xJ; omega) | (exfalso; omega)
                refine ⟨?_, ?_⟩
                · first | omega | (unfold xI; omega) | (unfold xJ; omega) | (exfalso; omega)
                refine ⟨?_, ?_⟩
                · first | omega | (unfold xI; omega) | (unfold xJ; omega) | (exfalso; omega)
                refine ⟨?_, ?_⟩
                · first | omega | (unfold xI; omega) | (unfold xJ; omega) | (exfalso; omega)
                first | (exfalso; omega) | exact nx _ _ (jM_up f _ _) (by rw [ev]; rfl) (by rw [ev]; exact skR_ps K.2 rfl)
      · have op := orR_2 o0 (by rcases z with ⟨q, -⟩ | ⟨q, -⟩ | ⟨q, -⟩ <;> omega)
        have tw : tw2P (x - 10000) l v := by
          rcases z with ⟨q, hl, hv, -⟩ | ⟨q, hl, hv, -⟩ | ⟨q, hl, hv, -⟩
          · exact Or.inl ⟨by omega, hl, hv⟩
          · exact Or.inl ⟨by omega, hl, hv⟩
          · exact Or.inr ⟨by omega, hl, hv⟩
        have k2 : ¬ (0 ≤ x ∧ x ≤ 9999) ∧ ¬ (10007 ≤ x ∧ x ≤ 10017) ∧ ¬ x = 10043 ∧ ¬ x = 10006 := by rcases z with ⟨q, -⟩ | ⟨q, -⟩ | ⟨q, -⟩ <;> omega
        clear z
        have ev : evS w x s = rkV (x - 10000) l v :: r := by
          rw [e]
          unfold evS
          rw [if_neg k2.1, if_neg k2.2.1]
          dsimp only
          rw [if_neg k2.2.2.1, if_neg k2.2.2.2]
        rw [e] at K ls
        have e1 : ((v :: l :: r).length : Int) + (-1) = (r.length : Int) + 1 := by
          simp only [List.length_cons]
          omega
        have e2 : ((v :: l :: r).length : Int) = (r.length : Int) + 1 + 1 := rfl
        have e3 : (r.length : Int) + 1 - 1 = (r.length : Int) := by omega
        have l2 : (v :: l :: r).length = r.length + 1 + 1 := rfl
        have k1 : h 95 ((r.length : Int) + 1) = v := K.1
        have k0 : h 95 (r.length : Int) = l := K.2.1
        rw [e]
        refine U_221_4 (by omega) _ i h ?_
        rw [e1, e3, k1, k0]
        refine ⟨?_, ?_⟩
        · first | omega | (unfold xI; omega) | (unfold xJ; omega) | (exfalso; omega)
        refine ⟨fun c1 => ?_, fun c1 => ?_⟩
        · skip
          first | (exfalso; omega) | exact nx _ _ (jM_up f _ _) (by rw [ev]; rfl) (by rw [ev, ← rj]; exact skR_ps K.2.2 rfl)
        · skip
          refine ⟨?_, ?_⟩
          · first | omega | (unfold xI; omega) | (unfold xJ; omega) | (exfalso; omega)
          refine ⟨fun c2 => ?_, fun c2 => ?_⟩
          · skip
            refine ⟨fun c3 => ?_, fun c3 => ?_⟩
            · skip
              refine ⟨?_, ?_⟩
              · first | omega | (unfold xI; omega) | (unfold xJ; omega) | (exfalso; omega)
              refine ⟨?_, ?_⟩
              · first | omega | (unfold xI; omega) | (unfold xJ; omega) | (exfalso; omega)
              refine ⟨?_, ?_⟩
              · first | omega | (unfold xI; omega) | (unfold xJ; omega) | (exfalso; omega)
              refine ⟨?_, ?_⟩
              · first | omega | (unfold xI; omega) | (unfold xJ; omega) | (exfalso; omega)
              refine ⟨?_, ?_⟩
              · first | omega | (unfold xI; omega) | (unfold xJ; omega) | (exfalso; omega)
              first | (exfalso; omega) | exact nx _ _ (jM_up f _ _) (by rw [ev]; rfl) (by rw [ev, ← rj]; exact skR_ps K.2.2 rfl)
            · skip
              refine ⟨?_, ?_⟩
              · first | omega | (unfold xI; omega) | (unfold xJ; omega) | (exfalso; omega)
              refine ⟨?_, ?_⟩
              · first | omega | (unfold xI; omega) | (unfold xJ; omega) | (exfalso; omega)
              refine ⟨?_, ?_⟩
              · first | omega | (unfold xI; omega) | (unfold xJ; omega) | (exfalso; omega)
              refine ⟨?_, ?_⟩
              · first | omega | (unfold xI; omega) | (unfold xJ; omega) | (exfalso; omega)
              first | (exfalso; omega) | exact nx _ _ (jM_up f _ _) (by rw [ev]; rfl) (by rw [ev, ← rj]; exact skR_ps K.2.2 rfl)
          · skip
            refine ⟨fun c4 => ?_, fun c4 => ?_⟩
            · skip
              refine ⟨fun c5 => ?_, fun c5 => ?_⟩
              · skip
                refine ⟨fun c6 => ?_, fun c6 => ?_⟩
                · skip
                  refine ⟨?_, ?_⟩
                  · first | omega | (unfold xI; omega) | (unfold xJ; omega) | (exfalso; omega)
                  refine ⟨?_, ?_⟩
                  · first | omega | (unfold xI; omega) | (unfold xJ; omega) | (exfalso; omega)
                  refine ⟨?_, ?_⟩
                  · first | omega | (unfold xI; omega) | (unfold xJ; omega) | (exfalso; omega)
                  refine ⟨?_, ?_⟩
                  · first | omega | (unfold xI; omega) | (unfold xJ; omega) | (exfalso; omega)
                  refine ⟨?_, ?_⟩
                  · first | omega | (unfold xI; omega) | (unfold xJ; omega) | (exfalso; omega)
                  refine s_220 (by omega) (x - 10000) _ l v _ op.2 tw (fun J1751 rj => ?_)
                  refine ⟨?_, ?_⟩
                  · first | omega | (unfold xI; omega) | (unfold xJ; omega) | (exfalso; omega)
                  refine ⟨?_, ?_⟩
                  · first | omega | (unfold xI; omega) | (unfold xJ; omega) | (exfalso; omega)
                  first | (exfalso; omega) | exact nx _ _ (jM_up f _ _) (by rw [ev]; rfl) (by rw [ev, ← rj]; exact skR_ps K.2.2 rfl)
                · skip
                  refine ⟨?_, ?_⟩
                  · first | omega | (unfold xI; omega) | (unfold xJ; omega) | (exfalso; omega)
                  refine ⟨?_, ?_⟩
                  · first | omega | (unfold xI; omega) | (unfold xJ; omega) | (exfalso; omega)
                  refine ⟨?_, ?_⟩
                  · first | omega | (unfold xI; omega) | (unfold xJ; omega) | (exfalso; omega)
                  refine ⟨?_, ?_⟩
                  · first | omega | (unfold xI; omega) | (unfold xJ; omega) | (exfalso; omega)
                  refine ⟨?_, ?_⟩
                  · first | omega | (unfold xI; omega) | (unfold xJ; omega) | (exfalso; omega)
                  refine ⟨?_, ?_⟩
                  · first | omega | (unfold xI; omega) | (unfold xJ; omega) | (exfalso; omega)
                  first | (exfalso; omega) | exact nx _ _ (jM_up f _ _) (by rw [ev]; rfl) (by rw [ev, ← rj]; exact skR_ps K.2.2 rfl)
              · skip
                refine ⟨?_, ?_⟩
                · first | omega | (unfold xI; omega) | (unfold xJ; omega) | (exfalso; omega)
                refine ⟨?_, ?_⟩
                · first | omega | (unfold xI; omega) | (unfold xJ; omega) | (exfalso; omega)
                refine ⟨?_, ?_⟩
                · first | omega | (unfold xI; omega) | (unfold xJ; omega) | (exfalso; omega)
                refine ⟨?_, ?_⟩
                · first | omega | (unfold xI; omega) | (unfold xJ; omega) | (exfalso; omega)
                refine ⟨?_, ?_⟩
                · first | omega | (unfold xI; omega) | (unfold xJ; omega) | (exfalso; omega)
                refine ⟨?_, ?_⟩
                · first | omega | (unfold xI; omega) | (unfold xJ; omega) | (exfalso; omega)
                first | (exfalso; omega) | exact nx _ _ (jM_up f _ _) (by rw [ev]; rfl) (by rw [ev, ← rj]; exact skR_ps K.2.2 rfl)
            · skip
              refine ⟨fun c7 => ?_, fun c7 => ?_⟩
              · skip
                refine ⟨?_, ?_⟩
                · first | omega | (unfold xI; omega) | (unfold xJ; omega) | (exfalso; omega)
                refine ⟨?_, ?_⟩
                · first | omega | (unfold xI; omega) | (unfold xJ; omega) | (exfalso; omega)
                refine ⟨?_, ?_⟩
                · first | omega | (unfold xI; omega) | (unfold xJ; omega) | (exfalso; omega)
                refine ⟨?_, ?_⟩
                · first | omega | (unfold xI; omega) | (unfold xJ; omega) | (exfalso; omega)
                refine ⟨?_, ?_⟩
                · first | omega | (unfold xI; omega) | (unfold xJ; omega) | (exfalso; omega)
                first | (exfalso; omega) | exact nx _ _ (jM_up f _ _) (by rw [ev]; rfl) (by rw [ev, ← rj]; exact skR_ps K.2.2 rfl)
              · skip
                refine ⟨?_, ?_⟩
                · first | omega | (unfold xI; omega) | (unfold xJ; omega) | (exfalso; omega)
                refine ⟨?_, ?_⟩
                · first | omega | (unfold xI; omega) | (unfold xJ; omega) | (exfalso; omega)
                refine ⟨?_, ?_⟩
                · first | omega | (unfold xI; omega) | (unfold xJ; omega) | (exfalso; omega)
                refine ⟨?_, ?_⟩
                · first | omega | (unfold xI; omega) | (unfold xJ; omega) | (exfalso; omega)
                first | (exfalso; omega) | exact nx _ _ (jM_up f _ _) (by rw [ev]; rfl) (by rw [ev, ← rj]; exact skR_ps K.2.2 rfl)
  obtain ⟨bb, tb, ev, -⟩ := val_cl hw po
  refine U_221 (by omega) a H ?_
  refine key p.2 [] [bb] [] a H (jM_refl H) trivial tb trivial (by decide) ha ho (fun h1 f1 K1 => ?_)
  rw [ev] at K1 ⊢
  have hv : h1 95 0 = valS w p.2 := K1.1
  have g74 : h1 74 (a + (p.2.length : Int)) = 408 := by rw [f1 74 (by decide)]; exact he
  refine U_221_4 (by omega) _ _ h1 ?_
  rw [hv]
  refine ⟨?_, ?_⟩
  · first | omega | (unfold xI; omega) | (unfold xJ; omega) | (exfalso; omega)
  refine ⟨fun c1 => ?_, fun c1 => ?_⟩
  · skip
    exact hQ _ f1
  · skip
    refine ⟨?_, ?_⟩
    · first | omega | (unfold xI; omega) | (unfold xJ; omega) | (exfalso; omega)
    refine ⟨fun c2 => ?_, fun c2 => ?_⟩
    · skip
      refine ⟨fun c3 => ?_, fun c3 => ?_⟩
      · skip
        refine ⟨?_, ?_⟩
        · first | omega | (unfold xI; omega) | (unfold xJ; omega) | (exfalso; omega)
        refine ⟨?_, ?_⟩
        · first | omega | (unfold xI; omega) | (unfold xJ; omega) | (exfalso; omega)
        refine ⟨?_, ?_⟩
        · first | omega | (unfold xI; omega) | (unfold xJ; omega) | (exfalso; omega)
        refine ⟨?_, ?_⟩
        · first | omega | (unfold xI; omega) | (unfold xJ; omega) | (exfalso; omega)
        refine ⟨?_, ?_⟩
        · first | omega | (unfold xI; omega) | (unfold xJ; omega) | (exfalso; omega)
        exfalso
        omega
      · skip
        refine ⟨?_, ?_⟩
        · first | omega | (unfold xI; omega) | (unfold xJ; omega) | (exfalso; omega)
        refine ⟨?_, ?_⟩
        · first | omega | (unfold xI; omega) | (unfold xJ; omega) | (exfalso; omega)
        refine ⟨?_, ?_⟩
        · first | omega | (unfold xI; omega) | (unfold xJ; omega) | (exfalso; omega)
        refine ⟨?_, ?_⟩
        · first | omega | (unfold xI; omega) | (unfold xJ; omega) | (exfalso; omega)
        exfalso
        omega
    · skip
      refine ⟨fun c4 => ?_, fun c4 => ?_⟩
      · skip
        refine ⟨fun c5 => ?_, fun c5 => ?_⟩
        · skip
          refine ⟨fun c6 => ?_, fun c6 => ?_⟩
          · skip
            refine ⟨?_, ?_⟩
            · first | omega | (unfold xI; omega) | (unfold xJ; omega) | (exfalso; omega)
            refine ⟨?_, ?_⟩
            · first | omega | (unfold xI; omega) | (unfold xJ; omega) | (exfalso; omega)
            refine ⟨?_, ?_⟩
            · first | omega | (unfold xI; omega) | (unfold xJ; omega) | (exfalso; omega)
            refine ⟨?_, ?_⟩
            · first | omega | (unfold xI; omega) | (unfold xJ; omega) | (exfalso; omega)
            refine ⟨?_, ?_⟩
            · first | omega | (unfold xI; omega) | (unfold xJ; omega) | (exfalso; omega)
            exfalso
            omega
          · skip
            refine ⟨?_, ?_⟩
            · first | omega | (unfold xI; omega) | (unfold xJ; omega) | (exfalso; omega)
            refine ⟨?_, ?_⟩
            · first | omega | (unfold xI; omega) | (unfold xJ; omega) | (exfalso; omega)
            refine ⟨?_, ?_⟩
            · first | omega | (unfold xI; omega) | (unfold xJ; omega) | (exfalso; omega)
            refine ⟨?_, ?_⟩
            · first | omega | (unfold xI; omega) | (unfold xJ; omega) | (exfalso; omega)
            refine ⟨?_, ?_⟩
            · first | omega | (unfold xI; omega) | (unfold xJ; omega) | (exfalso; omega)
            refine ⟨?_, ?_⟩
            · first | omega | (unfold xI; omega) | (unfold xJ; omega) | (exfalso; omega)
            exfalso
            omega
        · skip
          refine ⟨?_, ?_⟩
          · first | omega | (unfold xI; omega) | (unfold xJ; omega) | (exfalso; omega)
          refine ⟨?_, ?_⟩
          · first | omega | (unfold xI; omega) | (unfold xJ; omega) | (exfalso; omega)
          refine ⟨?_, ?_⟩
          · first | omega | (unfold xI; omega) | (unfold xJ; omega) | (exfalso; omega)
          refine ⟨?_, ?_⟩
          · first | omega | (unfold xI; omega) | (unfold xJ; omega) | (exfalso; omega)
          refine ⟨?_, ?_⟩
          · first | omega | (unfold xI; omega) | (unfold xJ; omega) | (exfalso; omega)
          refine ⟨?_, ?_⟩
          · first | omega | (unfold xI; omega) | (unfold xJ; omega) | (exfalso; omega)
          exfalso
          omega
      · skip
        refine ⟨fun c7 => ?_, fun c7 => ?_⟩
        · skip
          refine ⟨?_, ?_⟩
          · first | omega | (unfold xI; omega) | (unfold xJ; omega) | (exfalso; omega)
          refine ⟨?_, ?_⟩
          · first | omega | (unfold xI; omega) | (unfold xJ; omega) | (exfalso; omega)
          refine ⟨?_, ?_⟩
          · first | omega | (unfold xI; omega) | (unfold xJ; omega) | (exfalso; omega)
          refine ⟨?_, ?_⟩
          · first | omega | (unfold xI; omega) | (unfold xJ; omega) | (exfalso; omega)
          refine ⟨?_, ?_⟩
          · first | omega | (unfold xI; omega) | (unfold xJ; omega) | (exfalso; omega)
          exfalso
          omega
        · skip
          refine ⟨?_, ?_⟩
          · first | omega | (unfold xI; omega) | (unfold xJ; omega) | (exfalso; omega)
          refine ⟨?_, ?_⟩
          · first | omega | (unfold xI; omega) | (unfold xJ; omega) | (exfalso; omega)
          refine ⟨?_, ?_⟩
          · first | omega | (unfold xI; omega) | (unfold xJ; omega) | (exfalso; omega)
          refine ⟨?_, ?_⟩
          · first | omega | (unfold xI; omega) | (unfold xJ; omega) | (exfalso; omega)
          exfalso
          omega

theorem U_222 {X : Int × (Int → Int)} {d : Nat} {Q : Int → XH → Prop} (hd : 0 ≤ d) (w u : Int) (H : XH) (h : xq X d 222 Q 17 [(0, (2, 67)), (1, (0, w)), (3, (0, H 68 3)), (4, (1, u)), (6, (0, 0)), (7, (0, 0))] [] H) : xc X (d + 1) 222 [(2, 67), (0, w), (0, u)] H Q := by
  refine ⟨rfl, ?_⟩
  show xq X d 222 Q 100000 [(0, (2, 67)), (1, (0, w)), (2, (0, u))] [] H
  refine xq_run [17, 65] 300 ?_
  show ((0 : Int) ≤ 3 ∧ (3 : Int) < 1180) ∧ xq X d 222 Q 17 [(0, (2, 67)), (1, (0, w)), (3, (0, H 68 3)), (4, (1, u)), (6, (0, 0)), (7, (0, 0))] [] H
  refine ⟨⟨by decide, by decide⟩, ?_⟩
  exact h
theorem U_222_17 {X : Int × (Int → Int)} {d : Nat} {Q : Int → XH → Prop} (hd : 0 ≤ d) (v1 v3 v4 v6 v7 : Int) (H : XH) (h : ((v3 = (-1)) → ((1 < v1) → ((v6 = 0) → Q 0 H) ∧ (¬ (v6 = 0) → Q 1 H)) ∧ (¬ (1 < v1) → Q (xl2i v4) H)) ∧ (¬ (v3 = (-1)) → ((0 : Int) ≤ v3 ∧ (v3 : Int) < 4) ∧ ((H 71 v3 ≤ v7) → ((1 < v1) → ((v6 = 0) → Q 0 H) ∧ (¬ (v6 = 0) → Q 1 H)) ∧ (¬ (1 < v1) → Q (xl2i v4) H)) ∧ (¬ (H 71 v3 ≤ v7) → (xI (10 * v3)) ∧ (xI ((10 * v3) + v7)) ∧ ((0 : Int) ≤ (10 * v3) + v7 ∧ ((10 * v3) + v7 : Int) < 40) ∧ ((¬ H 72 ((10 * v3) + v7) = v1) → (xI (v7 + 1)) ∧ xq X d 222 Q 17 [(0, (2, 67)), (1, (0, v1)), (3, (0, v3)), (4, (1, v4)), (6, (0, v6)), (7, (0, v7 + 1))] [] H) ∧ (¬ (¬ H 72 ((10 * v3) + v7) = v1) → (xI (10 * v3)) ∧ (xI ((10 * v3) + v7)) ∧ ((0 : Int) ≤ (10 * v3) + v7 ∧ ((10 * v3) + v7 : Int) < 40) ∧ (xc X d 221 [(2, 67), (0, H 73 ((10 * v3) + v7))] H (fun (J1755 : Int) (h1754 : XH) => ((¬ v6 = 0) → (xI (v7 + 1)) ∧ xq X d 222 Q 17 [(0, (2, 67)), (1, (0, v1)), (3, (0, v3)), (4, (1, J1755)), (6, (0, 1)), (7, (0, v7 + 1))] [] h1754) ∧ (¬ (¬ v6 = 0) → ((J1755 ≤ 0) → (xI (v7 + 1)) ∧ xq X d 222 Q 17 [(0, (2, 67)), (1, (0, v1)), (3, (0, v3)), (4, (1, J1755)), (6, (0, 0)), (7, (0, v7 + 1))] [] h1754) ∧ (¬ (J1755 ≤ 0) → (xI (v7 + 1)) ∧ xq X d 222 Q 17 [(0, (2, 67)), (1, (0, v1)), (3, (0, v3)), (4, (1, J1755)), (6, (0, 1)), (7, (0, v7 + 1))] [] h1754)))))))) : xq X d 222 Q 17 [(0, (2, 67)), (1, (0, v1)), (3, (0, v3)), (4, (1, v4)), (6, (0, v6)), (7, (0, v7))] [] H := by
  show xq X d 222 Q 17 [(0, (2, 67)), (1, (0, v1)), (3, (0, v3)), (4, (1, v4)), (6, (0, v6)), (7, (0, v7))] [] H
  refine xq_run [17, 65] 300 ?_
  show ((v3 = (-1)) → ((1 < v1) → ((v6 = 0) → xfR 0 0 ∧ xKZ = xKZ ∧ Q 0 H) ∧ (¬ (v6 = 0) → xfR 0 1 ∧ xKZ = xKZ ∧ Q 1 H)) ∧ (¬ (1 < v1) → xfR 0 (xl2i v4) ∧ xKZ = xKZ ∧ Q (xl2i v4) H)) ∧ (¬ (v3 = (-1)) → ((0 : Int) ≤ v3 ∧ (v3 : Int) < 4) ∧ ((H 71 v3 ≤ v7) → ((1 < v1) → ((v6 = 0) → xfR 0 0 ∧ xKZ = xKZ ∧ Q 0 H) ∧ (¬ (v6 = 0) → xfR 0 1 ∧ xKZ = xKZ ∧ Q 1 H)) ∧ (¬ (1 < v1) → xfR 0 (xl2i v4) ∧ xKZ = xKZ ∧ Q (xl2i v4) H)) ∧ (¬ (H 71 v3 ≤ v7) → (xI (10 * v3)) ∧ (xI ((10 * v3) + v7)) ∧ ((0 : Int) ≤ (10 * v3) + v7 ∧ ((10 * v3) + v7 : Int) < 40) ∧ ((¬ H 72 ((10 * v3) + v7) = v1) → (xI (v7 + 1)) ∧ xq X d 222 Q 17 [(0, (2, 67)), (1, (0, v1)), (3, (0, v3)), (4, (1, v4)), (6, (0, v6)), (7, (0, v7 + 1))] [] H) ∧ (¬ (¬ H 72 ((10 * v3) + v7) = v1) → (xI (10 * v3)) ∧ (xI ((10 * v3) + v7)) ∧ ((0 : Int) ≤ (10 * v3) + v7 ∧ ((10 * v3) + v7 : Int) < 40) ∧ xWM (xE X) xMC d 221 [(2, 67), (0, H 73 ((10 * v3) + v7))] xKZ H _)))
  refine ⟨fun k_ => ?_, fun k_ => ?_⟩
  · replace h := h.1 k_
    refine ⟨fun k_ => ?_, fun k_ => ?_⟩
    · replace h := h.1 k_
      refine ⟨fun k_ => ?_, fun k_ => ?_⟩
      · replace h := h.1 k_
        exact ⟨trivial, rfl, h⟩
      · replace h := h.2 k_
        exact ⟨trivial, rfl, h⟩
    · replace h := h.2 k_
      exact ⟨trivial, rfl, h⟩
  · replace h := h.2 k_
    refine ⟨h.1, ?_⟩
    replace h := h.2
    refine ⟨fun k_ => ?_, fun k_ => ?_⟩
    · replace h := h.1 k_
      refine ⟨fun k_ => ?_, fun k_ => ?_⟩
      · replace h := h.1 k_
        refine ⟨fun k_ => ?_, fun k_ => ?_⟩
        · replace h := h.1 k_
          exact ⟨trivial, rfl, h⟩
        · replace h := h.2 k_
          exact ⟨trivial, rfl, h⟩
      · replace h := h.2 k_
        exact ⟨trivial, rfl, h⟩
    · replace h := h.2 k_
      refine ⟨h.1, ?_⟩
      replace h := h.2
      refine ⟨h.1, ?_⟩
      replace h := h.2
      refine ⟨h.1, ?_⟩
      replace h := h.2
      refine ⟨fun k_ => ?_, fun k_ => ?_⟩
      · replace h := h.1 k_
        refine ⟨h.1, ?_⟩
        replace h := h.2
        exact h
      · replace h := h.2 k_
        refine ⟨h.1, ?_⟩
        replace h := h.2
        refine ⟨h.1, ?_⟩
        replace h := h.2
        refine ⟨h.1, ?_⟩
        replace h := h.2
        refine xc_in (xc_mono (fun J1755 h1754 q_ => ?_) h)
        replace h := q_
        show xq X d 222 Q 65 [(0, (2, 67)), (1, (0, v1)), (3, (0, v3)), (4, (1, v4)), (6, (0, v6)), (7, (0, v7))] [(1, J1755)] h1754
        refine xq_run [17, 65] 300 ?_
        show ((¬ v6 = 0) → (xI (v7 + 1)) ∧ xq X d 222 Q 17 [(0, (2, 67)), (1, (0, v1)), (3, (0, v3)), (4, (1, J1755)), (6, (0, 1)), (7, (0, v7 + 1))] [] h1754) ∧ (¬ (¬ v6 = 0) → ((xcmp J1755 0 ≤ 0) → (xI (v7 + 1)) ∧ xq X d 222 Q 17 [(0, (2, 67)), (1, (0, v1)), (3, (0, v3)), (4, (1, J1755)), (6, (0, 0)), (7, (0, v7 + 1))] [] h1754) ∧ (¬ (xcmp J1755 0 ≤ 0) → (xI (v7 + 1)) ∧ xq X d 222 Q 17 [(0, (2, 67)), (1, (0, v1)), (3, (0, v3)), (4, (1, J1755)), (6, (0, 1)), (7, (0, v7 + 1))] [] h1754))
        refine ⟨fun k_ => ?_, fun k_ => ?_⟩
        · replace h := h.1 k_
          refine ⟨h.1, ?_⟩
          replace h := h.2
          exact h
        · replace h := h.2 k_
          refine ⟨fun k_ => ?_, fun k_ => ?_⟩
          · replace h := h.1 (xcmp_le.mp k_)
            refine ⟨h.1, ?_⟩
            replace h := h.2
            exact h
          · replace h := h.2 (fun q => k_ (xcmp_le.mpr q))
            refine ⟨h.1, ?_⟩
            replace h := h.2
            exact h

/-- the model's rows of law t are those of the clauses L -/
def lawM (t : Int) (L : List (Int × List Int)) (H : XH) : Prop := (∀ p ∈ L, clOk p) ∧ L.length ≤ 10 ∧ (clF L).length ≤ 300 ∧ H 71 t = (L.length : Int) ∧ (∀ k : Nat, k < L.length → H 72 (10 * t + k) = ((clO 0 L).getD k (0, 0)).1 ∧ H 73 (10 * t + k) = 400 * t + ((clO 0 L).getD k (0, 0)).2) ∧ ∀ k : Nat, k < (clF L).length → orR ((clF L).getD k 0) (H 74 (400 * t + k)) (H 75 (400 * t + k))
theorem clF_gd (p : Int × List Int) (M : List (Int × List Int)) (k : Nat) : (clF (p :: M)).getD k 0 = if k < p.2.length then p.2.getD k 0 else if k = p.2.length then 10000 + p.1 else (clF M).getD (k - p.2.length - 1) 0 := by
  show (p.2 ++ (10000 + p.1) :: clF M).getD k 0 = _
  rw [List.getD_eq_getElem?_getD]
  by_cases q : k < p.2.length
  · rw [if_pos q, List.getElem?_append_left q, ← List.getD_eq_getElem?_getD]
  · rw [if_neg q, List.getElem?_append_right (by omega)]
    by_cases y : k = p.2.length
    · rw [if_pos y, y, Nat.sub_self]
      rfl
    · rw [if_neg y, show k - p.2.length = (k - p.2.length - 1) + 1 by omega, List.getElem?_cons_succ, ← List.getD_eq_getElem?_getD, show k - p.2.length - 1 + 1 - 1 = k - p.2.length - 1 by omega]
theorem clF_ln (p : Int × List Int) (M : List (Int × List Int)) : (clF (p :: M)).length = p.2.length + ((clF M).length + 1) := by
  show (p.2 ++ (10000 + p.1) :: clF M).length = _
  rw [List.length_append]
  rfl

theorem s_222 {X : Int × (Int → Int)} {d : Nat} {Q : Int → XH → Prop} (hd : 6 ≤ d) (t c u : Int) (L : List (Int × List Int)) (w : Int → Int) (H : XH) (h3 : H 68 3 = t) (pt : 0 ≤ t ∧ t ≤ 3) (hl : lawM t L H) (hw : ∀ i, 0 ≤ i → i ≤ 10 → -1000000 ≤ w i ∧ w i ≤ 1000000) (hn : ∀ i, 0 ≤ i → i ≤ 10 → H 94 i = w i) (pc : 0 ≤ c ∧ c ≤ 3) (pu : (-1000000 ≤ u ∧ u ≤ 1000000) ∧ (2 ≤ c → u = 0)) (hQ : ∀ h1, jM H h1 → Q (jdV w c L u) h1) : xc X d 222 [(2, 67), (0, c), (0, u)] H Q := by
  cases d with
  | zero => omega
  | succ d =>
  obtain ⟨l1, l2, l3, l4, l5, l6⟩ := hl
  have key : ∀ (M : List (Int × List Int)) (k i : Nat) (cur v4 v6 : Int) (h : XH), jM H h → (∀ p ∈ M, clOk p) → k + M.length = L.length → i + (clF M).length = (clF L).length → (∀ j : Nat, j < M.length → (clO 0 L).getD (k + j) (0, 0) = (clO (i : Int) M).getD j (0, 0)) → (∀ j : Nat, j < (clF M).length → (clF L).getD (i + j) 0 = (clF M).getD j 0) → jdV w c M cur = jdV w c L u → (-1000000 ≤ cur ∧ cur ≤ 1000000) → (c ≤ 1 → v4 = cur) → (2 ≤ c → v6 = cur ∧ (cur = 0 ∨ cur = 1)) → xq X d 222 Q 17 [(0, (2, 67)), (1, (0, c)), (3, (0, t)), (4, (1, v4)), (6, (0, v6)), (7, (0, (k : Int)))] [] h := by
    intro M
    induction M with
    | nil =>
      intro k i cur v4 v6 h f _ lk li hk hx hj hr hc1 hc2
      have z := hQ h f
      rw [← hj] at z
      have z' : Q cur h := z
      have g71 : h 71 t = (L.length : Int) := by rw [f 71 (by decide)]; exact l4
      have e4 : c ≤ 1 → xl2i v4 = cur := fun q => by
        rw [hc1 q]
        exact xl2i_id (by unfold xI; omega)
      have lk' : k = L.length := lk
      have z0 : v6 = 0 → 2 ≤ c → Q 0 h := fun q1 q2 => by
        have := (hc2 q2).1
        rw [show (0 : Int) = cur by omega]
        exact z'
      have z1 : ¬ v6 = 0 → 2 ≤ c → Q 1 h := fun q1 q2 => by
        have := hc2 q2
        rw [show (1 : Int) = cur by omega]
        exact z'
      refine U_222_17 (by omega) c t v4 v6 (k : Int) h ?_
      rw [g71]
      refine ⟨fun c1 => ?_, fun c1 => ?_⟩
      · skip
        refine ⟨fun c2 => ?_, fun c2 => ?_⟩
        · skip
          refine ⟨fun c3 => ?_, fun c3 => ?_⟩
          · skip
            first | (exfalso; omega) | exact z0 (by omega) (by omega) | exact z1 (by omega) (by omega) | (rw [e4 (by omega)]; exact z')
          · skip
            first | (exfalso; omega) | exact z0 (by omega) (by omega) | exact z1 (by omega) (by omega) | (rw [e4 (by omega)]; exact z')
        · skip
          first | (exfalso; omega) | exact z0 (by omega) (by omega) | exact z1 (by omega) (by omega) | (rw [e4 (by omega)]; exact z')
      · skip
        refine ⟨?_, ?_⟩
        · first | omega | (unfold xI; omega) | (unfold xJ; omega) | (exfalso; omega)
        refine ⟨fun c4 => ?_, fun c4 => ?_⟩
        · skip
          refine ⟨fun c5 => ?_, fun c5 => ?_⟩
          · skip
            refine ⟨fun c6 => ?_, fun c6 => ?_⟩
            · skip
              first | (exfalso; omega) | exact z0 (by omega) (by omega) | exact z1 (by omega) (by omega) | (rw [e4 (by omega)]; exact z')
            · skip
              first | (exfalso; omega) | exact z0 (by omega) (by omega) | exact z1 (by omega) (by omega) | (rw [e4 (by omega)]; exact z')
          · skip
            first | (exfalso; omega) | exact z0 (by omega) (by omega) | exact z1 (by omega) (by omega) | (rw [e4 (by omega)]; exact z')
        · skip
          refine ⟨?_, ?_⟩
          · first | omega | (unfold xI; omega) | (unfold xJ; omega) | (exfalso; omega)
          refine ⟨?_, ?_⟩
          · first | omega | (unfold xI; omega) | (unfold xJ; omega) | (exfalso; omega)
          refine ⟨?_, ?_⟩
          · first | omega | (unfold xI; omega) | (unfold xJ; omega) | (exfalso; omega)
          refine ⟨fun c7 => ?_, fun c7 => ?_⟩
          · skip
            refine ⟨?_, ?_⟩
            · first | omega | (unfold xI; omega) | (unfold xJ; omega) | (exfalso; omega)
            first | (exfalso; omega) | exact z0 (by omega) (by omega) | exact z1 (by omega) (by omega) | (rw [e4 (by omega)]; exact z')
          · skip
            refine ⟨?_, ?_⟩
            · first | omega | (unfold xI; omega) | (unfold xJ; omega) | (exfalso; omega)
            refine ⟨?_, ?_⟩
            · first | omega | (unfold xI; omega) | (unfold xJ; omega) | (exfalso; omega)
            refine ⟨?_, ?_⟩
            · first | omega | (unfold xI; omega) | (unfold xJ; omega) | (exfalso; omega)
            exfalso
            omega
    | cons p M ih =>
      intro k i cur v4 v6 h f hM lk li hk hx hj hr hc1 hc2
      have po := hM p List.mem_cons_self
      obtain ⟨bb, tb, ev, vr, v01⟩ := val_cl hw po
      have pw := po.1
      have el := clF_ln p M
      have l1' : (p :: M).length = M.length + 1 := rfl
      have g71 : h 71 t = (L.length : Int) := by rw [f 71 (by decide)]; exact l4
      have g72 := l5 k (by omega)
      have hk0 := hk 0 (Nat.zero_lt_succ _)
      rw [Nat.add_zero] at hk0
      have hk0' : (clO 0 L).getD k (0, 0) = (p.1, (i : Int)) := hk0
      rw [hk0'] at g72
      have e72 : h 72 (10 * t + (k : Int)) = p.1 := by rw [f 72 (by decide)]; exact g72.1
      have e73 : h 73 (10 * t + (k : Int)) = 400 * t + (i : Int) := by rw [f 73 (by decide)]; exact g72.2
      have nx : ∀ (x v4 v6 : Int) (h2 : XH), jM H h2 → x = (if p.1 = c ∧ (c ≤ 1 ∨ ¬ valS w p.2 = 0) then valS w p.2 else cur) → (-1000000 ≤ x ∧ x ≤ 1000000) → (c ≤ 1 → v4 = x) → (2 ≤ c → v6 = x ∧ (x = 0 ∨ x = 1)) → xq X d 222 Q 17 [(0, (2, 67)), (1, (0, c)), (3, (0, t)), (4, (1, v4)), (6, (0, v6)), (7, (0, (k : Int) + 1))] [] h2 := fun x v4 v6 h2 f2 hxx hxr q4 q6 => by
        have z := ih (k + 1) (i + p.2.length + 1) x v4 v6 h2 f2 (fun q hq => hM q (List.mem_cons_of_mem _ hq)) (by omega) (by omega) (fun j hj => ?_) (fun j hj => ?_) (by rw [hxx]; exact hj) hxr q4 q6
        · rw [show ((k + 1 : Nat) : Int) = (k : Int) + 1 by omega] at z
          exact z
        · have y := hk (j + 1) (Nat.succ_lt_succ hj)
          rw [show k + 1 + j = k + (j + 1) by omega, y, show ((i + p.2.length + 1 : Nat) : Int) = (i : Int) + (p.2.length : Int) + 1 by omega]
          rfl
        · have y := hx (p.2.length + 1 + j) (by omega)
          rw [show i + p.2.length + 1 + j = i + (p.2.length + 1 + j) by omega, y, clF_gd, if_neg (by omega), if_neg (by omega), show p.2.length + 1 + j - p.2.length - 1 = j by omega]
      have os : ∀ j : Nat, j < p.2.length → orR (p.2.getD j 0) (h 74 (400 * t + (i : Int) + j)) (h 75 (400 * t + (i : Int) + j)) := fun j hj => by
        have y := l6 (i + j) (by omega)
        rw [hx j (by omega), clF_gd, if_pos hj] at y
        rw [f 74 (by decide), f 75 (by decide), show 400 * t + (i : Int) + (j : Int) = 400 * t + ((i + j : Nat) : Int) by omega]
        exact y
      have oe : h 74 (400 * t + (i : Int) + (p.2.length : Int)) = 408 := by
        have y := l6 (i + p.2.length) (by omega)
        rw [hx p.2.length (by omega), clF_gd, if_neg (Nat.lt_irrefl _), if_pos rfl] at y
        rw [f 74 (by decide), show 400 * t + (i : Int) + (p.2.length : Int) = 400 * t + ((i + p.2.length : Nat) : Int) by omega]
        exact orR_e y (by omega)
      have n94 : ∀ j, 0 ≤ j → j ≤ 10 → h 94 j = w j := fun j p q => by rw [f 94 (by decide)]; exact hn j p q
      refine U_222_17 (by omega) c t v4 v6 (k : Int) h ?_
      rw [g71, e72, e73]
      refine ⟨fun c1 => ?_, fun c1 => ?_⟩
      · skip
        refine ⟨fun c2 => ?_, fun c2 => ?_⟩
        · skip
          refine ⟨fun c3 => ?_, fun c3 => ?_⟩
          · skip
            first | (exfalso; omega) | exact nx cur _ _ h f (by rw [if_neg (by omega)]) hr hc1 hc2
          · skip
            first | (exfalso; omega) | exact nx cur _ _ h f (by rw [if_neg (by omega)]) hr hc1 hc2
        · skip
          first | (exfalso; omega) | exact nx cur _ _ h f (by rw [if_neg (by omega)]) hr hc1 hc2
      · skip
        refine ⟨?_, ?_⟩
        · first | omega | (unfold xI; omega) | (unfold xJ; omega) | (exfalso; omega)
        refine ⟨fun c4 => ?_, fun c4 => ?_⟩
        · skip
          refine ⟨fun c5 => ?_, fun c5 => ?_⟩
          · skip
            refine ⟨fun c6 => ?_, fun c6 => ?_⟩
            · skip
              first | (exfalso; omega) | exact nx cur _ _ h f (by rw [if_neg (by omega)]) hr hc1 hc2
            · skip
              first | (exfalso; omega) | exact nx cur _ _ h f (by rw [if_neg (by omega)]) hr hc1 hc2
          · skip
            first | (exfalso; omega) | exact nx cur _ _ h f (by rw [if_neg (by omega)]) hr hc1 hc2
        · skip
          refine ⟨?_, ?_⟩
          · first | omega | (unfold xI; omega) | (unfold xJ; omega) | (exfalso; omega)
          refine ⟨?_, ?_⟩
          · first | omega | (unfold xI; omega) | (unfold xJ; omega) | (exfalso; omega)
          refine ⟨?_, ?_⟩
          · first | omega | (unfold xI; omega) | (unfold xJ; omega) | (exfalso; omega)
          refine ⟨fun c7 => ?_, fun c7 => ?_⟩
          · skip
            refine ⟨?_, ?_⟩
            · first | omega | (unfold xI; omega) | (unfold xJ; omega) | (exfalso; omega)
            first | (exfalso; omega) | exact nx cur _ _ h f (by rw [if_neg (by omega)]) hr hc1 hc2
          · skip
            refine ⟨?_, ?_⟩
            · first | omega | (unfold xI; omega) | (unfold xJ; omega) | (exfalso; omega)
            refine ⟨?_, ?_⟩
            · first | omega | (unfold xI; omega) | (unfold xJ; omega) | (exfalso; omega)
            refine ⟨?_, ?_⟩
            · first | omega | (unfold xI; omega) | (unfold xJ; omega) | (exfalso; omega)
            refine s_221 (by omega) _ w p _ po hw n94 (by omega) os oe (fun h1758 f2_ => ?_)
            have f2 : jM H h1758 := fun o q => (f2_ o q).trans (f o q)
            refine ⟨fun c8 => ?_, fun c8 => ?_⟩
            · skip
              refine ⟨?_, ?_⟩
              · first | omega | (unfold xI; omega) | (unfold xJ; omega) | (exfalso; omega)
              by_cases qv : c ≤ 1 ∨ ¬ valS w p.2 = 0
              · first | (exfalso; omega) | exact nx (valS w p.2) _ _ _ f2 (by rw [if_pos (by omega)]) vr (fun _ => rfl) (fun q => by have := v01 (by omega); omega)
              · first | (exfalso; omega) | exact nx cur _ _ _ f2 (by rw [if_neg (by omega)]) hr (fun q => by omega) (fun q => by have := hc2 q; have := v01 (by omega); omega)
            · skip
              refine ⟨fun c9 => ?_, fun c9 => ?_⟩
              · skip
                refine ⟨?_, ?_⟩
                · first | omega | (unfold xI; omega) | (unfold xJ; omega) | (exfalso; omega)
                by_cases qv : c ≤ 1 ∨ ¬ valS w p.2 = 0
                · first | (exfalso; omega) | exact nx (valS w p.2) _ _ _ f2 (by rw [if_pos (by omega)]) vr (fun _ => rfl) (fun q => by have := v01 (by omega); omega)
                · first | (exfalso; omega) | exact nx cur _ _ _ f2 (by rw [if_neg (by omega)]) hr (fun q => by omega) (fun q => by have := hc2 q; have := v01 (by omega); omega)
              · skip
                refine ⟨?_, ?_⟩
                · first | omega | (unfold xI; omega) | (unfold xJ; omega) | (exfalso; omega)
                by_cases qv : c ≤ 1 ∨ ¬ valS w p.2 = 0
                · first | (exfalso; omega) | exact nx (valS w p.2) _ _ _ f2 (by rw [if_pos (by omega)]) vr (fun _ => rfl) (fun q => by have := v01 (by omega); omega)
                · first | (exfalso; omega) | exact nx cur _ _ _ f2 (by rw [if_neg (by omega)]) hr (fun q => by omega) (fun q => by have := hc2 q; have := v01 (by omega); omega)
  refine U_222 (by omega) c u H ?_
  rw [h3]
  exact key L 0 0 u u 0 H (jM_refl H) l1 (Nat.zero_add _) (Nat.zero_add _) (fun j _ => by rw [Nat.zero_add]; rfl) (fun j _ => by rw [Nat.zero_add]) rfl pu.1 (fun _ => rfl) (fun q => ⟨(pu.2 q).symm, Or.inl (pu.2 q)⟩)
theorem s_222n {X : Int × (Int → Int)} {d : Nat} {Q : Int → XH → Prop} (hd : 6 ≤ d) (c u : Int) (H : XH) (h3 : H 68 3 = -1) (pc : 0 ≤ c ∧ c ≤ 3) (pu : (-1000000 ≤ u ∧ u ≤ 1000000) ∧ (2 ≤ c → u = 0)) (hQ : Q u H) : xc X d 222 [(2, 67), (0, c), (0, u)] H Q := by
  cases d with
  | zero => omega
  | succ d =>
  have eu : xl2i u = u := xl2i_id (by unfold xI; omega)
  have z0 : 2 ≤ c → Q 0 H := fun q => by
    rw [← pu.2 q]
    exact hQ
  refine U_222 (by omega) c u H ?_
  rw [h3]
  refine U_222_17 (by omega) c (-1) u 0 0 H ?_
  rw [eu]
  refine ⟨fun c1 => ?_, fun c1 => ?_⟩
  · skip
    refine ⟨fun c2 => ?_, fun c2 => ?_⟩
    · skip
      refine ⟨fun c3 => ?_, fun c3 => ?_⟩
      · skip
        first | (exfalso; omega) | exact z0 (by omega) | exact hQ
      · skip
        first | (exfalso; omega) | exact z0 (by omega) | exact hQ
    · skip
      first | (exfalso; omega) | exact z0 (by omega) | exact hQ
  · skip
    refine ⟨?_, ?_⟩
    · first | omega | (unfold xI; omega) | (unfold xJ; omega) | (exfalso; omega)
    refine ⟨fun c4 => ?_, fun c4 => ?_⟩
    · skip
      refine ⟨fun c5 => ?_, fun c5 => ?_⟩
      · skip
        refine ⟨fun c6 => ?_, fun c6 => ?_⟩
        · skip
          first | (exfalso; omega) | exact z0 (by omega) | exact hQ
        · skip
          first | (exfalso; omega) | exact z0 (by omega) | exact hQ
      · skip
        first | (exfalso; omega) | exact z0 (by omega) | exact hQ
    · skip
      refine ⟨?_, ?_⟩
      · first | omega | (unfold xI; omega) | (unfold xJ; omega) | (exfalso; omega)
      refine ⟨?_, ?_⟩
      · first | omega | (unfold xI; omega) | (unfold xJ; omega) | (exfalso; omega)
      refine ⟨?_, ?_⟩
      · first | omega | (unfold xI; omega) | (unfold xJ; omega) | (exfalso; omega)
      refine ⟨fun c7 => ?_, fun c7 => ?_⟩
      · skip
        refine ⟨?_, ?_⟩
        · first | omega | (unfold xI; omega) | (unfold xJ; omega) | (exfalso; omega)
        first | (exfalso; omega) | exact z0 (by omega) | exact hQ
      · skip
        refine ⟨?_, ?_⟩
        · first | omega | (unfold xI; omega) | (unfold xJ; omega) | (exfalso; omega)
        refine ⟨?_, ?_⟩
        · first | omega | (unfold xI; omega) | (unfold xJ; omega) | (exfalso; omega)
        refine ⟨?_, ?_⟩
        · first | omega | (unfold xI; omega) | (unfold xJ; omega) | (exfalso; omega)
        exfalso
        omega
