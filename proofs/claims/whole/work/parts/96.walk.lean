/-! THE PURE LAYER 66: the walk followed: the model -/
theorem U_224 {X : Int × (Int → Int)} {d : Nat} {Q : Int → XH → Prop} (hd : 0 ≤ d) (H : XH) (h : xq X d 224 Q 4 [(0, (2, 67)), (1, (0, 0)), (2, (0, 0))] [] H) : xc X (d + 1) 224 [(2, 67)] H Q := by
  refine ⟨rfl, ?_⟩
  show xq X d 224 Q 100000 [(0, (2, 67))] [] H
  refine xq_run [4, 17, 22] 300 ?_
  show xq X d 224 Q 4 [(0, (2, 67)), (1, (0, 0)), (2, (0, 0))] [] H
  exact h
theorem U_224_4 {X : Int × (Int → Int)} {d : Nat} {Q : Int → XH → Prop} (hd : 0 ≤ d) (v1 v2 : Int) (H : XH) (h : ((H 67 47 ≤ v2) → Q 0 (xup H 67 47 v1)) ∧ (¬ (H 67 47 ≤ v2) → (xc X d 223 [(2, 67), (0, v2)] H (fun (J1959 : Int) (h1958 : XH) => ((J1959 ≤ 0) → (xI (v2 + 1)) ∧ xq X d 224 Q 4 [(0, (2, 67)), (1, (0, v1)), (2, (0, v2 + 1))] [] h1958) ∧ (¬ (J1959 ≤ 0) → xq X d 224 Q 22 [(0, (2, 67)), (1, (0, v1)), (2, (0, v2)), (3, (0, 0))] [] h1958))))) : xq X d 224 Q 4 [(0, (2, 67)), (1, (0, v1)), (2, (0, v2))] [] H := by
  show xq X d 224 Q 4 [(0, (2, 67)), (1, (0, v1)), (2, (0, v2))] [] H
  refine xq_run [4, 17, 22] 300 ?_
  show ((H 67 47 ≤ v2) → xfR 2 0 ∧ xKZ = xKZ ∧ Q 0 (xup H 67 47 v1)) ∧ (¬ (H 67 47 ≤ v2) → xWM (xE X) xMC d 223 [(2, 67), (0, v2)] xKZ H _)
  refine ⟨fun k_ => ?_, fun k_ => ?_⟩
  · replace h := h.1 k_
    exact ⟨trivial, rfl, h⟩
  · replace h := h.2 k_
    refine xc_in (xc_mono (fun J1959 h1958 q_ => ?_) h)
    replace h := q_
    show xq X d 224 Q 17 [(0, (2, 67)), (1, (0, v1)), (2, (0, v2))] [(0, J1959)] h1958
    refine xq_run [4, 17, 22] 300 ?_
    show ((J1959 ≤ 0) → (xI (v2 + 1)) ∧ xq X d 224 Q 4 [(0, (2, 67)), (1, (0, v1)), (2, (0, v2 + 1))] [] h1958) ∧ (¬ (J1959 ≤ 0) → xq X d 224 Q 22 [(0, (2, 67)), (1, (0, v1)), (2, (0, v2)), (3, (0, 0))] [] h1958)
    refine ⟨fun k_ => ?_, fun k_ => ?_⟩
    · replace h := h.1 k_
      refine ⟨h.1, ?_⟩
      replace h := h.2
      exact h
    · replace h := h.2 k_
      exact h
theorem U_224_22 {X : Int × (Int → Int)} {d : Nat} {Q : Int → XH → Prop} (hd : 0 ≤ d) (v1 v2 v3 : Int) (H : XH) (h : ((5 ≤ v3) → (xI (v1 + 1)) ∧ (xI (v2 + 1)) ∧ xq X d 224 Q 4 [(0, (2, 67)), (1, (0, v1 + 1)), (2, (0, v2 + 1))] [] H) ∧ (¬ (5 ≤ v3) → (xI (5 * v1)) ∧ (xI ((5 * v1) + v3)) ∧ (xI (5 * v2)) ∧ (xI ((5 * v2) + v3)) ∧ ((0 : Int) ≤ (5 * v2) + v3 ∧ ((5 * v2) + v3 : Int) < 40) ∧ ((0 : Int) ≤ (5 * v1) + v3 ∧ ((5 * v1) + v3 : Int) < 40) ∧ (xI (v3 + 1)) ∧ xq X d 224 Q 22 [(0, (2, 67)), (1, (0, v1)), (2, (0, v2)), (3, (0, v3 + 1))] [] (xup H 96 ((5 * v1) + v3) (H 96 ((5 * v2) + v3))))) : xq X d 224 Q 22 [(0, (2, 67)), (1, (0, v1)), (2, (0, v2)), (3, (0, v3))] [] H := by
  show xq X d 224 Q 22 [(0, (2, 67)), (1, (0, v1)), (2, (0, v2)), (3, (0, v3))] [] H
  refine xq_run [4, 17, 22] 300 ?_
  show ((5 ≤ v3) → (xI (v1 + 1)) ∧ (xI (v2 + 1)) ∧ xq X d 224 Q 4 [(0, (2, 67)), (1, (0, v1 + 1)), (2, (0, v2 + 1))] [] H) ∧ (¬ (5 ≤ v3) → (xI (5 * v1)) ∧ (xI ((5 * v1) + v3)) ∧ (xI (5 * v2)) ∧ (xI ((5 * v2) + v3)) ∧ ((0 : Int) ≤ (5 * v2) + v3 ∧ ((5 * v2) + v3 : Int) < 40) ∧ ((0 : Int) ≤ (5 * v1) + v3 ∧ ((5 * v1) + v3 : Int) < 40) ∧ (xI (v3 + 1)) ∧ xq X d 224 Q 22 [(0, (2, 67)), (1, (0, v1)), (2, (0, v2)), (3, (0, v3 + 1))] [] (xup H 96 ((5 * v1) + v3) (H 96 ((5 * v2) + v3))))
  refine ⟨fun k_ => ?_, fun k_ => ?_⟩
  · replace h := h.1 k_
    refine ⟨h.1, ?_⟩
    replace h := h.2
    refine ⟨h.1, ?_⟩
    replace h := h.2
    exact h
  · replace h := h.2 k_
    refine ⟨h.1, ?_⟩
    replace h := h.2
    refine ⟨h.1, ?_⟩
    replace h := h.2
    refine ⟨h.1, ?_⟩
    replace h := h.2
    refine ⟨h.1, ?_⟩
    replace h := h.2
    refine ⟨h.1, ?_⟩
    replace h := h.2
    refine ⟨h.1, ?_⟩
    replace h := h.2
    refine ⟨h.1, ?_⟩
    replace h := h.2
    exact h

theorem s_224w {X : Int × (Int → Int)} {d : Nat} {Q : Int → XH → Prop} {lo : Option (List (Int × List Int))} {n : Int} {f G : Int → Int} {T a b pa : Int} {h : XH} (hd : 2 ≤ d) (x : Int) (hx : 0 ≤ x ∧ x ≤ 100) (hn : 0 ≤ n ∧ n ≤ 8) (rf : rgF n f) (K : wMo lo n (lsF f x) G T a b pa h) (hQ : ∀ h1, mF h h1 → wMo lo (cmS n.toNat 0 0 (lsF f x)).1 (cmS n.toNat 0 0 (lsF f x)).2 G T a b pa h1 → Q 0 h1) : xc X d 224 [(2, 67)] h Q := by
  cases d with
  | zero => omega
  | succ d =>
  have K0 := K
  obtain ⟨kl, kT, kG, ⟨kn, kf⟩, ka, kb⟩ := K
  have fin : ∀ (m : Int) (g : Int → Int) (h' : XH), mF h h' → (∀ k, 0 ≤ k → k < 5 * m → h' 96 k = g k) → (m, g) = cmS n.toNat 0 0 (lsF f x) → Q 0 (xup h' 67 47 m) := fun m g h' F fk ez => by
    have z := hQ (xup h' 67 47 m) (mF_47 F m)
    rw [← ez] at z
    exact z (wMo_fr K0 (mF_47 F m) (xup_self _ _ _ _) (by rw [xup_ne (by decide)]; exact fk))
  have key2 : ∀ (r : Nat) (l m : Int) (g : Int → Int) (h' : XH), l + (r : Int) = n → 0 ≤ m → m ≤ l → mF h h' → h' 67 47 = n → (∀ k, 0 ≤ k → k < 5 * n → h' 96 k = g k) → rgF n g → cmS r l m g = cmS n.toNat 0 0 (lsF f x) → xq X d 224 Q 4 [(0, (2, 67)), (1, (0, m)), (2, (0, l))] [] h' := by
    intro r
    induction r with
    | zero =>
      intro l m g h' el h0 hm F e1 fk rg ez
      have z := fin m g h' F (fun k p q => fk k p (by omega)) ez
      refine U_224_4 (by omega) m l h' ?_
      rw [e1]
      refine ⟨fun c1 => ?_, fun c1 => ?_⟩
      · skip
        exact z
      · skip
        exfalso
        omega
    | succ r ih =>
      intro l m g h' el h0 hm F e1 fk rg ez
      have em : sum5 (h' 96) (5 * l) = sum5 g (5 * l) := sum5_congr (fun k p q => fk k (by omega) (by omega))
      have no : ¬ 1 ≤ sum5 g (5 * l) → xq X d 224 Q 4 [(0, (2, 67)), (1, (0, m)), (2, (0, l + 1))] [] h' := fun q => ih (l + 1) m g h' (by omega) h0 (by omega) F e1 fk rg (by rw [← cmS_0 q]; exact ez)
      have yes : 1 ≤ sum5 g (5 * l) → xq X d 224 Q 22 [(0, (2, 67)), (1, (0, m)), (2, (0, l)), (3, (0, 0))] [] h' := fun q => by
        have key3 : ∀ (r3 : Nat) (s : Int) (h3 : XH), s + (r3 : Int) = 5 → 0 ≤ s → mF h h3 → h3 67 47 = n → (∀ k, 0 ≤ k → k < 5 * n → h3 96 k = if 5 * m ≤ k ∧ k < 5 * m + s then g (5 * l + (k - 5 * m)) else g k) → xq X d 224 Q 22 [(0, (2, 67)), (1, (0, m)), (2, (0, l)), (3, (0, s))] [] h3 := by
          intro r3
          induction r3 with
          | zero =>
            intro s h3 es hs F3 e3 fk3
            have es' : s = 5 := by omega
            subst es'
            have z := ih (l + 1) (m + 1) (cmG g m l) h3 (by omega) (by omega) (by omega) F3 e3 fk3 (cmG_rg ⟨h0, hm, by omega⟩ rg) (by rw [← cmS_1 q]; exact ez)
            refine U_224_22 (by omega) m l 5 h3 ?_
            refine ⟨fun c1 => ?_, fun c1 => ?_⟩
            · skip
              refine ⟨?_, ?_⟩
              · first | omega | (unfold xI; omega) | (unfold xJ; omega) | (exfalso; omega)
              refine ⟨?_, ?_⟩
              · first | omega | (unfold xI; omega) | (unfold xJ; omega) | (exfalso; omega)
              exact z
            · skip
              refine ⟨?_, ?_⟩
              · first | omega | (unfold xI; omega) | (unfold xJ; omega) | (exfalso; omega)
              refine ⟨?_, ?_⟩
              · first | omega | (unfold xI; omega) | (unfold xJ; omega) | (exfalso; omega)
              refine ⟨?_, ?_⟩
              · first | omega | (unfold xI; omega) | (unfold xJ; omega) | (exfalso; omega)
              refine ⟨?_, ?_⟩
              · first | omega | (unfold xI; omega) | (unfold xJ; omega) | (exfalso; omega)
              refine ⟨?_, ?_⟩
              · first | omega | (unfold xI; omega) | (unfold xJ; omega) | (exfalso; omega)
              refine ⟨?_, ?_⟩
              · first | omega | (unfold xI; omega) | (unfold xJ; omega) | (exfalso; omega)
              refine ⟨?_, ?_⟩
              · first | omega | (unfold xI; omega) | (unfold xJ; omega) | (exfalso; omega)
              exfalso
              omega
          | succ r3 ih3 =>
            intro s h3 es hs F3 e3 fk3
            have e4 : h3 96 (5 * l + s) = g (5 * l + s) := by
              rw [fk3 _ (by omega) (by omega)]
              by_cases y : m = l
              · rw [if_neg (by omega)]
              · rw [if_neg (by omega)]
            have z := ih3 (s + 1) (xup h3 96 (5 * m + s) (g (5 * l + s))) (by omega) (by omega) (mF_up F3 (by decide)) (by rw [xup_ne (by decide)]; exact e3) (fun k p y => by
              by_cases e : k = 5 * m + s
              · rw [e, xup_self, if_pos (by omega), show 5 * m + s - 5 * m = s by omega]
              · rw [xup_k e, fk3 k p y]
                by_cases y2 : 5 * m ≤ k ∧ k < 5 * m + s
                · rw [if_pos y2, if_pos (by omega)]
                · rw [if_neg y2, if_neg (by omega)])
            refine U_224_22 (by omega) m l s h3 ?_
            rw [e4]
            refine ⟨fun c1 => ?_, fun c1 => ?_⟩
            · skip
              refine ⟨?_, ?_⟩
              · first | omega | (unfold xI; omega) | (unfold xJ; omega) | (exfalso; omega)
              refine ⟨?_, ?_⟩
              · first | omega | (unfold xI; omega) | (unfold xJ; omega) | (exfalso; omega)
              exfalso
              omega
            · skip
              refine ⟨?_, ?_⟩
              · first | omega | (unfold xI; omega) | (unfold xJ; omega) | (exfalso; omega)
              refine ⟨?_, ?_⟩
              · first | omega | (unfold xI; omega) | (unfold xJ; omega) | (exfalso; omega)
              refine ⟨?_, ?_⟩
              · first | omega | (unfold xI; omega) | (unfold xJ; omega) | (exfalso; omega)
              refine ⟨?_, ?_⟩
              · first | omega | (unfold xI; omega) | (unfold xJ; omega) | (exfalso; omega)
              refine ⟨?_, ?_⟩
              · first | omega | (unfold xI; omega) | (unfold xJ; omega) | (exfalso; omega)
              refine ⟨?_, ?_⟩
              · first | omega | (unfold xI; omega) | (unfold xJ; omega) | (exfalso; omega)
              refine ⟨?_, ?_⟩
              · first | omega | (unfold xI; omega) | (unfold xJ; omega) | (exfalso; omega)
              exact z
        exact key3 5 0 h' (by decide) (by decide) F e1 (fun k p y => by rw [if_neg (by omega)]; exact fk k p y)
      refine U_224_4 (by omega) m l h' ?_
      rw [e1]
      refine ⟨fun c1 => ?_, fun c1 => ?_⟩
      · skip
        first | (exfalso; omega) | exact yes (by omega) | exact no (by omega)
      · skip
        refine s_223w (by omega) l ⟨by omega, by omega⟩ (fun s p q => by rw [fk _ (by omega) (by omega)]; exact rg _ (by omega) (by omega)) (fun J1967 ej => ?_)
        rw [em] at ej
        refine ⟨fun c2 => ?_, fun c2 => ?_⟩
        · skip
          refine ⟨?_, ?_⟩
          · first | omega | (unfold xI; omega) | (unfold xJ; omega) | (exfalso; omega)
          first | (exfalso; omega) | exact yes (by omega) | exact no (by omega)
        · skip
          first | (exfalso; omega) | exact yes (by omega) | exact no (by omega)
  refine U_224 (by omega) h ?_
  exact key2 n.toNat 0 0 (lsF f x) h (by omega) (by decide) (by decide) (mF_refl h) kn kf (lsF_rg hx rf) rfl

set_option maxRecDepth 4000 in
theorem U_225 {X : Int × (Int → Int)} {d : Nat} {Q : Int → XH → Prop} (hd : 1 ≤ d) (a b : Int) (H : XH) (h : (xc X d 218 [(2, 67), (0, a), (0, b)] H (fun (J1969 : Int) (h1968 : XH) => (xc X d 222 [(2, 67), (0, 1), (0, 0)] h1968 (fun (J1971 : Int) (h1970 : XH) => ((0 ≤ J1971) → (xq X d 225 Q 31 [(0, (2, 67)), (1, (0, a)), (2, (0, b)), (3, (0, ((if J1971 ≤ 100 then J1971 else 100)))), (4, (0, 0))] [] h1970)) ∧ (¬ (0 ≤ J1971) → xq X d 225 Q 31 [(0, (2, 67)), (1, (0, a)), (2, (0, b)), (3, (0, 0)), (4, (0, 0))] [] h1970)))))) : xc X (d + 1) 225 [(2, 67), (0, a), (0, b)] H Q := by
  refine ⟨rfl, ?_⟩
  show xq X d 225 Q 100000 [(0, (2, 67)), (1, (0, a)), (2, (0, b))] [] H
  refine xq_run [6, 12, 27, 31, 74, 80, 93, 113, 120, 138, 162, 179, 225, 265, 319] 300 ?_
  show xWM (xE X) xMC d 218 [(2, 67), (0, a), (0, b)] xKZ H _
  refine xc_in (xc_mono (fun J1969 h1968 q_ => ?_) h)
  replace h := q_
  show xq X d 225 Q 6 [(0, (2, 67)), (1, (0, a)), (2, (0, b))] [] h1968
  refine xq_run [6, 12, 27, 31, 74, 80, 93, 113, 120, 138, 162, 179, 225, 265, 319] 300 ?_
  show xWM (xE X) xMC d 222 [(2, 67), (0, 1), (0, 0)] xKZ h1968 _
  refine xc_in (xc_mono (fun J1971 h1970 q_ => ?_) h)
  replace h := q_
  show xq X d 225 Q 12 [(0, (2, 67)), (1, (0, a)), (2, (0, b))] [(0, J1971)] h1970
  refine xq_run [6, 12, 27, 31, 74, 80, 93, 113, 120, 138, 162, 179, 225, 265, 319] 300 ?_
  show ((0 ≤ J1971) → xWM (xE X) xMC d 104 [(0, 100), (0, J1971)] xKZ h1970 _) ∧ (¬ (0 ≤ J1971) → xq X d 225 Q 27 [(3, (0, J1971)), (0, (2, 67)), (1, (0, a)), (2, (0, b))] [(0, 0)] h1970)
  refine ⟨fun k_ => ?_, fun k_ => ?_⟩
  · replace h := h.1 k_
    refine xc_in (s_104 (by omega) 100 J1971 h1970  ?_)
    replace h := h
    show xq X d 225 Q 27 [(3, (0, J1971)), (0, (2, 67)), (1, (0, a)), (2, (0, b))] [(0, ((if J1971 ≤ 100 then J1971 else 100)))] h1970
    refine xq_run [6, 12, 27, 31, 74, 80, 93, 113, 120, 138, 162, 179, 225, 265, 319] 300 ?_
    show xq X d 225 Q 31 [(0, (2, 67)), (1, (0, a)), (2, (0, b)), (3, (0, ((if J1971 ≤ 100 then J1971 else 100)))), (4, (0, 0))] [] h1970
    exact h
  · replace h := h.2 k_
    show xq X d 225 Q 27 [(3, (0, J1971)), (0, (2, 67)), (1, (0, a)), (2, (0, b))] [(0, 0)] h1970
    refine xq_run [6, 12, 27, 31, 74, 80, 93, 113, 120, 138, 162, 179, 225, 265, 319] 300 ?_
    show xq X d 225 Q 31 [(0, (2, 67)), (1, (0, a)), (2, (0, b)), (3, (0, 0)), (4, (0, 0))] [] h1970
    exact h
theorem U_225_31 {X : Int × (Int → Int)} {d : Nat} {Q : Int → XH → Prop} (hd : 1 ≤ d) (v1 v2 v3 v4 : Int) (H : XH) (h : (xI (5 * (H 67 47))) ∧ ((5 * (H 67 47) ≤ v4) → (xc X d 224 [(2, 67)] H (fun (J1973 : Int) (h1972 : XH) => (xc X d 218 [(2, 67), (0, v1), (0, v2)] h1972 (fun (J1975 : Int) (h1974 : XH) => ((h1974 67 47 ≤ 0) → (xc X d 218 [(2, 67), (0, v1), (0, v2)] h1974 (fun (J1977 : Int) (h1976 : XH) => (xc X d 222 [(2, 67), (0, 0), (0, 10)] h1976 (fun (J1979 : Int) (h1978 : XH) => ((0 ≤ J1979) → (((h1978 67 47 = 0) → xq X d 225 Q 179 [(0, (2, 67)), (4, (0, ((if J1979 ≤ 99 then J1979 else 99)))), (5, (0, 1)), (6, (0, 0)), (7, (0, 0))] [] h1978) ∧ (¬ (h1978 67 47 = 0) → ((8 ≤ h1978 67 47) → xq X d 225 Q 179 [(0, (2, 67)), (4, (0, ((if J1979 ≤ 99 then J1979 else 99)))), (5, (0, 0)), (6, (0, 0)), (7, (0, 0))] [] h1978) ∧ (¬ (8 ≤ h1978 67 47) → (xc X d 222 [(2, 67), (0, 2), (0, 0)] h1978 (fun (J1981 : Int) (h1980 : XH) => ((¬ J1981 = 1) → xq X d 225 Q 179 [(0, (2, 67)), (4, (0, ((if J1979 ≤ 99 then J1979 else 99)))), (5, (0, 0)), (6, (0, 0)), (7, (0, 0))] [] h1980) ∧ (¬ (¬ J1981 = 1) → xq X d 225 Q 179 [(0, (2, 67)), (4, (0, ((if J1979 ≤ 99 then J1979 else 99)))), (5, (0, 1)), (6, (0, 0)), (7, (0, 0))] [] h1980))))))) ∧ (¬ (0 ≤ J1979) → ((h1978 67 47 = 0) → xq X d 225 Q 179 [(0, (2, 67)), (4, (0, 0)), (5, (0, 1)), (6, (0, 0)), (7, (0, 0))] [] h1978) ∧ (¬ (h1978 67 47 = 0) → ((8 ≤ h1978 67 47) → xq X d 225 Q 179 [(0, (2, 67)), (4, (0, 0)), (5, (0, 0)), (6, (0, 0)), (7, (0, 0))] [] h1978) ∧ (¬ (8 ≤ h1978 67 47) → (xc X d 222 [(2, 67), (0, 2), (0, 0)] h1978 (fun (J1983 : Int) (h1982 : XH) => ((¬ J1983 = 1) → xq X d 225 Q 179 [(0, (2, 67)), (4, (0, 0)), (5, (0, 0)), (6, (0, 0)), (7, (0, 0))] [] h1982) ∧ (¬ (¬ J1983 = 1) → xq X d 225 Q 179 [(0, (2, 67)), (4, (0, 0)), (5, (0, 1)), (6, (0, 0)), (7, (0, 0))] [] h1982))))))))))) ∧ (¬ (h1974 67 47 ≤ 0) → (xc X d 222 [(2, 67), (0, 3), (0, 0)] h1974 (fun (J1985 : Int) (h1984 : XH) => ((¬ J1985 = 1) → (xc X d 218 [(2, 67), (0, v1), (0, v2)] h1984 (fun (J1987 : Int) (h1986 : XH) => (xc X d 222 [(2, 67), (0, 0), (0, 10)] h1986 (fun (J1989 : Int) (h1988 : XH) => ((0 ≤ J1989) → (((h1988 67 47 = 0) → xq X d 225 Q 179 [(0, (2, 67)), (4, (0, ((if J1989 ≤ 99 then J1989 else 99)))), (5, (0, 1)), (6, (0, 0)), (7, (0, 0))] [] h1988) ∧ (¬ (h1988 67 47 = 0) → ((8 ≤ h1988 67 47) → xq X d 225 Q 179 [(0, (2, 67)), (4, (0, ((if J1989 ≤ 99 then J1989 else 99)))), (5, (0, 0)), (6, (0, 0)), (7, (0, 0))] [] h1988) ∧ (¬ (8 ≤ h1988 67 47) → (xc X d 222 [(2, 67), (0, 2), (0, 0)] h1988 (fun (J1991 : Int) (h1990 : XH) => ((¬ J1991 = 1) → xq X d 225 Q 179 [(0, (2, 67)), (4, (0, ((if J1989 ≤ 99 then J1989 else 99)))), (5, (0, 0)), (6, (0, 0)), (7, (0, 0))] [] h1990) ∧ (¬ (¬ J1991 = 1) → xq X d 225 Q 179 [(0, (2, 67)), (4, (0, ((if J1989 ≤ 99 then J1989 else 99)))), (5, (0, 1)), (6, (0, 0)), (7, (0, 0))] [] h1990))))))) ∧ (¬ (0 ≤ J1989) → ((h1988 67 47 = 0) → xq X d 225 Q 179 [(0, (2, 67)), (4, (0, 0)), (5, (0, 1)), (6, (0, 0)), (7, (0, 0))] [] h1988) ∧ (¬ (h1988 67 47 = 0) → ((8 ≤ h1988 67 47) → xq X d 225 Q 179 [(0, (2, 67)), (4, (0, 0)), (5, (0, 0)), (6, (0, 0)), (7, (0, 0))] [] h1988) ∧ (¬ (8 ≤ h1988 67 47) → (xc X d 222 [(2, 67), (0, 2), (0, 0)] h1988 (fun (J1993 : Int) (h1992 : XH) => ((¬ J1993 = 1) → xq X d 225 Q 179 [(0, (2, 67)), (4, (0, 0)), (5, (0, 0)), (6, (0, 0)), (7, (0, 0))] [] h1992) ∧ (¬ (¬ J1993 = 1) → xq X d 225 Q 179 [(0, (2, 67)), (4, (0, 0)), (5, (0, 1)), (6, (0, 0)), (7, (0, 0))] [] h1992))))))))))) ∧ (¬ (¬ J1985 = 1) → (xI ((h1984 67 47) - 1)) ∧ (xc X d 218 [(2, 67), (0, v1), (0, v2)] (xup h1984 67 47 ((h1984 67 47) - 1)) (fun (J1995 : Int) (h1994 : XH) => (xc X d 222 [(2, 67), (0, 0), (0, 10)] h1994 (fun (J1997 : Int) (h1996 : XH) => ((0 ≤ J1997) → (((h1996 67 47 = 0) → xq X d 225 Q 179 [(0, (2, 67)), (4, (0, ((if J1997 ≤ 99 then J1997 else 99)))), (5, (0, 1)), (6, (0, 0)), (7, (0, 0))] [] h1996) ∧ (¬ (h1996 67 47 = 0) → ((8 ≤ h1996 67 47) → xq X d 225 Q 179 [(0, (2, 67)), (4, (0, ((if J1997 ≤ 99 then J1997 else 99)))), (5, (0, 0)), (6, (0, 0)), (7, (0, 0))] [] h1996) ∧ (¬ (8 ≤ h1996 67 47) → (xc X d 222 [(2, 67), (0, 2), (0, 0)] h1996 (fun (J1999 : Int) (h1998 : XH) => ((¬ J1999 = 1) → xq X d 225 Q 179 [(0, (2, 67)), (4, (0, ((if J1997 ≤ 99 then J1997 else 99)))), (5, (0, 0)), (6, (0, 0)), (7, (0, 0))] [] h1998) ∧ (¬ (¬ J1999 = 1) → xq X d 225 Q 179 [(0, (2, 67)), (4, (0, ((if J1997 ≤ 99 then J1997 else 99)))), (5, (0, 1)), (6, (0, 0)), (7, (0, 0))] [] h1998))))))) ∧ (¬ (0 ≤ J1997) → ((h1996 67 47 = 0) → xq X d 225 Q 179 [(0, (2, 67)), (4, (0, 0)), (5, (0, 1)), (6, (0, 0)), (7, (0, 0))] [] h1996) ∧ (¬ (h1996 67 47 = 0) → ((8 ≤ h1996 67 47) → xq X d 225 Q 179 [(0, (2, 67)), (4, (0, 0)), (5, (0, 0)), (6, (0, 0)), (7, (0, 0))] [] h1996) ∧ (¬ (8 ≤ h1996 67 47) → (xc X d 222 [(2, 67), (0, 2), (0, 0)] h1996 (fun (J2001 : Int) (h2000 : XH) => ((¬ J2001 = 1) → xq X d 225 Q 179 [(0, (2, 67)), (4, (0, 0)), (5, (0, 0)), (6, (0, 0)), (7, (0, 0))] [] h2000) ∧ (¬ (¬ J2001 = 1) → xq X d 225 Q 179 [(0, (2, 67)), (4, (0, 0)), (5, (0, 1)), (6, (0, 0)), (7, (0, 0))] [] h2000))))))))))))))))))) ∧ (¬ (5 * (H 67 47) ≤ v4) → ((0 : Int) ≤ v4 ∧ (v4 : Int) < 40) ∧ ((0 : Int) ≤ v4 ∧ (v4 : Int) < 40) ∧ (xI ((H 96 v4) * v3)) ∧ (¬ (100 : Int) = 0 ∧ xI (Int.tdiv ((H 96 v4) * v3) 100)) ∧ (xI ((H 96 v4) - (Int.tdiv ((H 96 v4) * v3) 100))) ∧ ((0 : Int) ≤ v4 ∧ (v4 : Int) < 40) ∧ (xI (v4 + 1)) ∧ xq X d 225 Q 31 [(0, (2, 67)), (1, (0, v1)), (2, (0, v2)), (3, (0, v3)), (4, (0, v4 + 1))] [] (xup H 96 v4 ((H 96 v4) - (Int.tdiv ((H 96 v4) * v3) 100))))) : xq X d 225 Q 31 [(0, (2, 67)), (1, (0, v1)), (2, (0, v2)), (3, (0, v3)), (4, (0, v4))] [] H := by
  show xq X d 225 Q 31 [(0, (2, 67)), (1, (0, v1)), (2, (0, v2)), (3, (0, v3)), (4, (0, v4))] [] H
  refine xq_run [6, 12, 27, 31, 74, 80, 93, 113, 120, 138, 162, 179, 225, 265, 319] 300 ?_
  show (xI (5 * (H 67 47))) ∧ ((5 * (H 67 47) ≤ v4) → xWM (xE X) xMC d 224 [(2, 67)] xKZ H _) ∧ (¬ (5 * (H 67 47) ≤ v4) → ((0 : Int) ≤ v4 ∧ (v4 : Int) < 40) ∧ ((0 : Int) ≤ v4 ∧ (v4 : Int) < 40) ∧ (xI ((H 96 v4) * v3)) ∧ (¬ (100 : Int) = 0 ∧ xI (Int.tdiv ((H 96 v4) * v3) 100)) ∧ (xI ((H 96 v4) - (Int.tdiv ((H 96 v4) * v3) 100))) ∧ ((0 : Int) ≤ v4 ∧ (v4 : Int) < 40) ∧ (xI (v4 + 1)) ∧ xq X d 225 Q 31 [(0, (2, 67)), (1, (0, v1)), (2, (0, v2)), (3, (0, v3)), (4, (0, v4 + 1))] [] (xup H 96 v4 ((H 96 v4) - (Int.tdiv ((H 96 v4) * v3) 100))))
  refine ⟨h.1, ?_⟩
  replace h := h.2
  refine ⟨fun k_ => ?_, fun k_ => ?_⟩
  · replace h := h.1 k_
    refine xc_in (xc_mono (fun J1973 h1972 q_ => ?_) h)
    replace h := q_
    show xq X d 225 Q 74 [(0, (2, 67)), (1, (0, v1)), (2, (0, v2)), (3, (0, v3)), (4, (0, v4))] [] h1972
    refine xq_run [6, 12, 27, 31, 74, 80, 93, 113, 120, 138, 162, 179, 225, 265, 319] 300 ?_
    show xWM (xE X) xMC d 218 [(2, 67), (0, v1), (0, v2)] xKZ h1972 _
    refine xc_in (xc_mono (fun J1975 h1974 q_ => ?_) h)
    replace h := q_
    show xq X d 225 Q 80 [(0, (2, 67)), (1, (0, v1)), (2, (0, v2)), (3, (0, v3)), (4, (0, v4))] [] h1974
    refine xq_run [6, 12, 27, 31, 74, 80, 93, 113, 120, 138, 162, 179, 225, 265, 319] 300 ?_
    show ((h1974 67 47 ≤ 0) → xWM (xE X) xMC d 218 [(2, 67), (0, v1), (0, v2)] xKZ h1974 _) ∧ (¬ (h1974 67 47 ≤ 0) → xWM (xE X) xMC d 222 [(2, 67), (0, 3), (0, 0)] xKZ h1974 _)
    refine ⟨fun k_ => ?_, fun k_ => ?_⟩
    · replace h := h.1 k_
      refine xc_in (xc_mono (fun J1977 h1976 q_ => ?_) h)
      replace h := q_
      show xq X d 225 Q 113 [(0, (2, 67)), (1, (0, v1)), (2, (0, v2)), (3, (0, v3)), (4, (0, v4))] [] h1976
      refine xq_run [6, 12, 27, 31, 74, 80, 93, 113, 120, 138, 162, 179, 225, 265, 319] 300 ?_
      show xWM (xE X) xMC d 222 [(2, 67), (0, 0), (0, 10)] xKZ h1976 _
      refine xc_in (xc_mono (fun J1979 h1978 q_ => ?_) h)
      replace h := q_
      show xq X d 225 Q 120 [(0, (2, 67)), (1, (0, v1)), (2, (0, v2)), (3, (0, v3)), (4, (0, v4))] [(0, J1979)] h1978
      refine xq_run [6, 12, 27, 31, 74, 80, 93, 113, 120, 138, 162, 179, 225, 265, 319] 300 ?_
      show ((0 ≤ J1979) → xWM (xE X) xMC d 104 [(0, 99), (0, J1979)] xKZ h1978 _) ∧ (¬ (0 ≤ J1979) → xq X d 225 Q 138 [(4, (0, J1979)), (0, (2, 67)), (1, (0, v1)), (2, (0, v2)), (3, (0, v3))] [(0, 0)] h1978)
      refine ⟨fun k_ => ?_, fun k_ => ?_⟩
      · replace h := h.1 k_
        refine xc_in (s_104 (by omega) 99 J1979 h1978  ?_)
        replace h := h
        show xq X d 225 Q 138 [(4, (0, J1979)), (0, (2, 67)), (1, (0, v1)), (2, (0, v2)), (3, (0, v3))] [(0, ((if J1979 ≤ 99 then J1979 else 99)))] h1978
        refine xq_run [6, 12, 27, 31, 74, 80, 93, 113, 120, 138, 162, 179, 225, 265, 319] 300 ?_
        show ((h1978 67 47 = 0) → xq X d 225 Q 179 [(0, (2, 67)), (4, (0, ((if J1979 ≤ 99 then J1979 else 99)))), (5, (0, 1)), (6, (0, 0)), (7, (0, 0))] [] h1978) ∧ (¬ (h1978 67 47 = 0) → ((8 ≤ h1978 67 47) → xq X d 225 Q 179 [(0, (2, 67)), (4, (0, ((if J1979 ≤ 99 then J1979 else 99)))), (5, (0, 0)), (6, (0, 0)), (7, (0, 0))] [] h1978) ∧ (¬ (8 ≤ h1978 67 47) → xWM (xE X) xMC d 222 [(2, 67), (0, 2), (0, 0)] xKZ h1978 _))
        refine ⟨fun k_ => ?_, fun k_ => ?_⟩
        · replace h := h.1 k_
          exact h
        · replace h := h.2 k_
          refine ⟨fun k_ => ?_, fun k_ => ?_⟩
          · replace h := h.1 k_
            exact h
          · replace h := h.2 k_
            refine xc_in (xc_mono (fun J1981 h1980 q_ => ?_) h)
            replace h := q_
            show xq X d 225 Q 162 [(4, (0, ((if J1979 ≤ 99 then J1979 else 99)))), (0, (2, 67)), (1, (0, v1)), (2, (0, v2)), (3, (0, v3))] [(0, J1981)] h1980
            refine xq_run [6, 12, 27, 31, 74, 80, 93, 113, 120, 138, 162, 179, 225, 265, 319] 300 ?_
            show ((¬ J1981 = 1) → xq X d 225 Q 179 [(0, (2, 67)), (4, (0, ((if J1979 ≤ 99 then J1979 else 99)))), (5, (0, 0)), (6, (0, 0)), (7, (0, 0))] [] h1980) ∧ (¬ (¬ J1981 = 1) → xq X d 225 Q 179 [(0, (2, 67)), (4, (0, ((if J1979 ≤ 99 then J1979 else 99)))), (5, (0, 1)), (6, (0, 0)), (7, (0, 0))] [] h1980)
            refine ⟨fun k_ => ?_, fun k_ => ?_⟩
            · replace h := h.1 k_
              exact h
            · replace h := h.2 k_
              exact h
      · replace h := h.2 k_
        show xq X d 225 Q 138 [(4, (0, J1979)), (0, (2, 67)), (1, (0, v1)), (2, (0, v2)), (3, (0, v3))] [(0, 0)] h1978
        refine xq_run [6, 12, 27, 31, 74, 80, 93, 113, 120, 138, 162, 179, 225, 265, 319] 300 ?_
        show ((h1978 67 47 = 0) → xq X d 225 Q 179 [(0, (2, 67)), (4, (0, 0)), (5, (0, 1)), (6, (0, 0)), (7, (0, 0))] [] h1978) ∧ (¬ (h1978 67 47 = 0) → ((8 ≤ h1978 67 47) → xq X d 225 Q 179 [(0, (2, 67)), (4, (0, 0)), (5, (0, 0)), (6, (0, 0)), (7, (0, 0))] [] h1978) ∧ (¬ (8 ≤ h1978 67 47) → xWM (xE X) xMC d 222 [(2, 67), (0, 2), (0, 0)] xKZ h1978 _))
        refine ⟨fun k_ => ?_, fun k_ => ?_⟩
        · replace h := h.1 k_
          exact h
        · replace h := h.2 k_
          refine ⟨fun k_ => ?_, fun k_ => ?_⟩
          · replace h := h.1 k_
            exact h
          · replace h := h.2 k_
            refine xc_in (xc_mono (fun J1983 h1982 q_ => ?_) h)
            replace h := q_
            show xq X d 225 Q 162 [(4, (0, 0)), (0, (2, 67)), (1, (0, v1)), (2, (0, v2)), (3, (0, v3))] [(0, J1983)] h1982
            refine xq_run [6, 12, 27, 31, 74, 80, 93, 113, 120, 138, 162, 179, 225, 265, 319] 300 ?_
            show ((¬ J1983 = 1) → xq X d 225 Q 179 [(0, (2, 67)), (4, (0, 0)), (5, (0, 0)), (6, (0, 0)), (7, (0, 0))] [] h1982) ∧ (¬ (¬ J1983 = 1) → xq X d 225 Q 179 [(0, (2, 67)), (4, (0, 0)), (5, (0, 1)), (6, (0, 0)), (7, (0, 0))] [] h1982)
            refine ⟨fun k_ => ?_, fun k_ => ?_⟩
            · replace h := h.1 k_
              exact h
            · replace h := h.2 k_
              exact h
    · replace h := h.2 k_
      refine xc_in (xc_mono (fun J1985 h1984 q_ => ?_) h)
      replace h := q_
      show xq X d 225 Q 93 [(0, (2, 67)), (1, (0, v1)), (2, (0, v2)), (3, (0, v3)), (4, (0, v4))] [(0, J1985)] h1984
      refine xq_run [6, 12, 27, 31, 74, 80, 93, 113, 120, 138, 162, 179, 225, 265, 319] 300 ?_
      show ((¬ J1985 = 1) → xWM (xE X) xMC d 218 [(2, 67), (0, v1), (0, v2)] xKZ h1984 _) ∧ (¬ (¬ J1985 = 1) → (xI ((h1984 67 47) - 1)) ∧ xWM (xE X) xMC d 218 [(2, 67), (0, v1), (0, v2)] xKZ (xup h1984 67 47 ((h1984 67 47) - 1)) _)
      refine ⟨fun k_ => ?_, fun k_ => ?_⟩
      · replace h := h.1 k_
        refine xc_in (xc_mono (fun J1987 h1986 q_ => ?_) h)
        replace h := q_
        show xq X d 225 Q 113 [(0, (2, 67)), (1, (0, v1)), (2, (0, v2)), (3, (0, v3)), (4, (0, v4))] [] h1986
        refine xq_run [6, 12, 27, 31, 74, 80, 93, 113, 120, 138, 162, 179, 225, 265, 319] 300 ?_
        show xWM (xE X) xMC d 222 [(2, 67), (0, 0), (0, 10)] xKZ h1986 _
        refine xc_in (xc_mono (fun J1989 h1988 q_ => ?_) h)
        replace h := q_
        show xq X d 225 Q 120 [(0, (2, 67)), (1, (0, v1)), (2, (0, v2)), (3, (0, v3)), (4, (0, v4))] [(0, J1989)] h1988
        refine xq_run [6, 12, 27, 31, 74, 80, 93, 113, 120, 138, 162, 179, 225, 265, 319] 300 ?_
        show ((0 ≤ J1989) → xWM (xE X) xMC d 104 [(0, 99), (0, J1989)] xKZ h1988 _) ∧ (¬ (0 ≤ J1989) → xq X d 225 Q 138 [(4, (0, J1989)), (0, (2, 67)), (1, (0, v1)), (2, (0, v2)), (3, (0, v3))] [(0, 0)] h1988)
        refine ⟨fun k_ => ?_, fun k_ => ?_⟩
        · replace h := h.1 k_
          refine xc_in (s_104 (by omega) 99 J1989 h1988  ?_)
          replace h := h
          show xq X d 225 Q 138 [(4, (0, J1989)), (0, (2, 67)), (1, (0, v1)), (2, (0, v2)), (3, (0, v3))] [(0, ((if J1989 ≤ 99 then J1989 else 99)))] h1988
          refine xq_run [6, 12, 27, 31, 74, 80, 93, 113, 120, 138, 162, 179, 225, 265, 319] 300 ?_
          show ((h1988 67 47 = 0) → xq X d 225 Q 179 [(0, (2, 67)), (4, (0, ((if J1989 ≤ 99 then J1989 else 99)))), (5, (0, 1)), (6, (0, 0)), (7, (0, 0))] [] h1988) ∧ (¬ (h1988 67 47 = 0) → ((8 ≤ h1988 67 47) → xq X d 225 Q 179 [(0, (2, 67)), (4, (0, ((if J1989 ≤ 99 then J1989 else 99)))), (5, (0, 0)), (6, (0, 0)), (7, (0, 0))] [] h1988) ∧ (¬ (8 ≤ h1988 67 47) → xWM (xE X) xMC d 222 [(2, 67), (0, 2), (0, 0)] xKZ h1988 _))
          refine ⟨fun k_ => ?_, fun k_ => ?_⟩
          · replace h := h.1 k_
            exact h
          · replace h := h.2 k_
            refine ⟨fun k_ => ?_, fun k_ => ?_⟩
            · replace h := h.1 k_
              exact h
            · replace h := h.2 k_
              refine xc_in (xc_mono (fun J1991 h1990 q_ => ?_) h)
              replace h := q_
              show xq X d 225 Q 162 [(4, (0, ((if J1989 ≤ 99 then J1989 else 99)))), (0, (2, 67)), (1, (0, v1)), (2, (0, v2)), (3, (0, v3))] [(0, J1991)] h1990
              refine xq_run [6, 12, 27, 31, 74, 80, 93, 113, 120, 138, 162, 179, 225, 265, 319] 300 ?_
              show ((¬ J1991 = 1) → xq X d 225 Q 179 [(0, (2, 67)), (4, (0, ((if J1989 ≤ 99 then J1989 else 99)))), (5, (0, 0)), (6, (0, 0)), (7, (0, 0))] [] h1990) ∧ (¬ (¬ J1991 = 1) → xq X d 225 Q 179 [(0, (2, 67)), (4, (0, ((if J1989 ≤ 99 then J1989 else 99)))), (5, (0, 1)), (6, (0, 0)), (7, (0, 0))] [] h1990)
              refine ⟨fun k_ => ?_, fun k_ => ?_⟩
              · replace h := h.1 k_
                exact h
              · replace h := h.2 k_
                exact h
        · replace h := h.2 k_
          show xq X d 225 Q 138 [(4, (0, J1989)), (0, (2, 67)), (1, (0, v1)), (2, (0, v2)), (3, (0, v3))] [(0, 0)] h1988
          refine xq_run [6, 12, 27, 31, 74, 80, 93, 113, 120, 138, 162, 179, 225, 265, 319] 300 ?_
          show ((h1988 67 47 = 0) → xq X d 225 Q 179 [(0, (2, 67)), (4, (0, 0)), (5, (0, 1)), (6, (0, 0)), (7, (0, 0))] [] h1988) ∧ (¬ (h1988 67 47 = 0) → ((8 ≤ h1988 67 47) → xq X d 225 Q 179 [(0, (2, 67)), (4, (0, 0)), (5, (0, 0)), (6, (0, 0)), (7, (0, 0))] [] h1988) ∧ (¬ (8 ≤ h1988 67 47) → xWM (xE X) xMC d 222 [(2, 67), (0, 2), (0, 0)] xKZ h1988 _))
          refine ⟨fun k_ => ?_, fun k_ => ?_⟩
          · replace h := h.1 k_
            exact h
          · replace h := h.2 k_
            refine ⟨fun k_ => ?_, fun k_ => ?_⟩
            · replace h := h.1 k_
              exact h
            · replace h := h.2 k_
              refine xc_in (xc_mono (fun J1993 h1992 q_ => ?_) h)
              replace h := q_
              show xq X d 225 Q 162 [(4, (0, 0)), (0, (2, 67)), (1, (0, v1)), (2, (0, v2)), (3, (0, v3))] [(0, J1993)] h1992
              refine xq_run [6, 12, 27, 31, 74, 80, 93, 113, 120, 138, 162, 179, 225, 265, 319] 300 ?_
              show ((¬ J1993 = 1) → xq X d 225 Q 179 [(0, (2, 67)), (4, (0, 0)), (5, (0, 0)), (6, (0, 0)), (7, (0, 0))] [] h1992) ∧ (¬ (¬ J1993 = 1) → xq X d 225 Q 179 [(0, (2, 67)), (4, (0, 0)), (5, (0, 1)), (6, (0, 0)), (7, (0, 0))] [] h1992)
              refine ⟨fun k_ => ?_, fun k_ => ?_⟩
              · replace h := h.1 k_
                exact h
              · replace h := h.2 k_
                exact h
      · replace h := h.2 k_
        refine ⟨h.1, ?_⟩
        replace h := h.2
        refine xc_in (xc_mono (fun J1995 h1994 q_ => ?_) h)
        replace h := q_
        show xq X d 225 Q 113 [(0, (2, 67)), (1, (0, v1)), (2, (0, v2)), (3, (0, v3)), (4, (0, v4))] [] h1994
        refine xq_run [6, 12, 27, 31, 74, 80, 93, 113, 120, 138, 162, 179, 225, 265, 319] 300 ?_
        show xWM (xE X) xMC d 222 [(2, 67), (0, 0), (0, 10)] xKZ h1994 _
        refine xc_in (xc_mono (fun J1997 h1996 q_ => ?_) h)
        replace h := q_
        show xq X d 225 Q 120 [(0, (2, 67)), (1, (0, v1)), (2, (0, v2)), (3, (0, v3)), (4, (0, v4))] [(0, J1997)] h1996
        refine xq_run [6, 12, 27, 31, 74, 80, 93, 113, 120, 138, 162, 179, 225, 265, 319] 300 ?_
        show ((0 ≤ J1997) → xWM (xE X) xMC d 104 [(0, 99), (0, J1997)] xKZ h1996 _) ∧ (¬ (0 ≤ J1997) → xq X d 225 Q 138 [(4, (0, J1997)), (0, (2, 67)), (1, (0, v1)), (2, (0, v2)), (3, (0, v3))] [(0, 0)] h1996)
        refine ⟨fun k_ => ?_, fun k_ => ?_⟩
        · replace h := h.1 k_
          refine xc_in (s_104 (by omega) 99 J1997 h1996  ?_)
          replace h := h
          show xq X d 225 Q 138 [(4, (0, J1997)), (0, (2, 67)), (1, (0, v1)), (2, (0, v2)), (3, (0, v3))] [(0, ((if J1997 ≤ 99 then J1997 else 99)))] h1996
          refine xq_run [6, 12, 27, 31, 74, 80, 93, 113, 120, 138, 162, 179, 225, 265, 319] 300 ?_
          show ((h1996 67 47 = 0) → xq X d 225 Q 179 [(0, (2, 67)), (4, (0, ((if J1997 ≤ 99 then J1997 else 99)))), (5, (0, 1)), (6, (0, 0)), (7, (0, 0))] [] h1996) ∧ (¬ (h1996 67 47 = 0) → ((8 ≤ h1996 67 47) → xq X d 225 Q 179 [(0, (2, 67)), (4, (0, ((if J1997 ≤ 99 then J1997 else 99)))), (5, (0, 0)), (6, (0, 0)), (7, (0, 0))] [] h1996) ∧ (¬ (8 ≤ h1996 67 47) → xWM (xE X) xMC d 222 [(2, 67), (0, 2), (0, 0)] xKZ h1996 _))
          refine ⟨fun k_ => ?_, fun k_ => ?_⟩
          · replace h := h.1 k_
            exact h
          · replace h := h.2 k_
            refine ⟨fun k_ => ?_, fun k_ => ?_⟩
            · replace h := h.1 k_
              exact h
            · replace h := h.2 k_
              refine xc_in (xc_mono (fun J1999 h1998 q_ => ?_) h)
              replace h := q_
              show xq X d 225 Q 162 [(4, (0, ((if J1997 ≤ 99 then J1997 else 99)))), (0, (2, 67)), (1, (0, v1)), (2, (0, v2)), (3, (0, v3))] [(0, J1999)] h1998
              refine xq_run [6, 12, 27, 31, 74, 80, 93, 113, 120, 138, 162, 179, 225, 265, 319] 300 ?_
              show ((¬ J1999 = 1) → xq X d 225 Q 179 [(0, (2, 67)), (4, (0, ((if J1997 ≤ 99 then J1997 else 99)))), (5, (0, 0)), (6, (0, 0)), (7, (0, 0))] [] h1998) ∧ (¬ (¬ J1999 = 1) → xq X d 225 Q 179 [(0, (2, 67)), (4, (0, ((if J1997 ≤ 99 then J1997 else 99)))), (5, (0, 1)), (6, (0, 0)), (7, (0, 0))] [] h1998)
              refine ⟨fun k_ => ?_, fun k_ => ?_⟩
              · replace h := h.1 k_
                exact h
              · replace h := h.2 k_
                exact h
        · replace h := h.2 k_
          show xq X d 225 Q 138 [(4, (0, J1997)), (0, (2, 67)), (1, (0, v1)), (2, (0, v2)), (3, (0, v3))] [(0, 0)] h1996
          refine xq_run [6, 12, 27, 31, 74, 80, 93, 113, 120, 138, 162, 179, 225, 265, 319] 300 ?_
          show ((h1996 67 47 = 0) → xq X d 225 Q 179 [(0, (2, 67)), (4, (0, 0)), (5, (0, 1)), (6, (0, 0)), (7, (0, 0))] [] h1996) ∧ (¬ (h1996 67 47 = 0) → ((8 ≤ h1996 67 47) → xq X d 225 Q 179 [(0, (2, 67)), (4, (0, 0)), (5, (0, 0)), (6, (0, 0)), (7, (0, 0))] [] h1996) ∧ (¬ (8 ≤ h1996 67 47) → xWM (xE X) xMC d 222 [(2, 67), (0, 2), (0, 0)] xKZ h1996 _))
          refine ⟨fun k_ => ?_, fun k_ => ?_⟩
          · replace h := h.1 k_
            exact h
          · replace h := h.2 k_
            refine ⟨fun k_ => ?_, fun k_ => ?_⟩
            · replace h := h.1 k_
              exact h
            · replace h := h.2 k_
              refine xc_in (xc_mono (fun J2001 h2000 q_ => ?_) h)
              replace h := q_
              show xq X d 225 Q 162 [(4, (0, 0)), (0, (2, 67)), (1, (0, v1)), (2, (0, v2)), (3, (0, v3))] [(0, J2001)] h2000
              refine xq_run [6, 12, 27, 31, 74, 80, 93, 113, 120, 138, 162, 179, 225, 265, 319] 300 ?_
              show ((¬ J2001 = 1) → xq X d 225 Q 179 [(0, (2, 67)), (4, (0, 0)), (5, (0, 0)), (6, (0, 0)), (7, (0, 0))] [] h2000) ∧ (¬ (¬ J2001 = 1) → xq X d 225 Q 179 [(0, (2, 67)), (4, (0, 0)), (5, (0, 1)), (6, (0, 0)), (7, (0, 0))] [] h2000)
              refine ⟨fun k_ => ?_, fun k_ => ?_⟩
              · replace h := h.1 k_
                exact h
              · replace h := h.2 k_
                exact h
  · replace h := h.2 k_
    refine ⟨h.1, ?_⟩
    replace h := h.2
    refine ⟨h.1, ?_⟩
    replace h := h.2
    refine ⟨h.1, ?_⟩
    replace h := h.2
    refine ⟨h.1, ?_⟩
    replace h := h.2
    refine ⟨h.1, ?_⟩
    replace h := h.2
    refine ⟨h.1, ?_⟩
    replace h := h.2
    refine ⟨h.1, ?_⟩
    replace h := h.2
    exact h
theorem U_225_179 {X : Int × (Int → Int)} {d : Nat} {Q : Int → XH → Prop} (hd : 0 ≤ d) (v4 v5 v6 v7 : Int) (H : XH) (h : ((5 ≤ v7) → ((¬ v6 = 0) → ((v5 = 0) → xq X d 225 Q 265 [(0, (2, 67)), (4, (0, v4)), (7, (0, 0))] [] H) ∧ (¬ (v5 = 0) → xq X d 225 Q 225 [(0, (2, 67)), (4, (0, v4)), (7, (0, 0))] [] H)) ∧ (¬ (¬ v6 = 0) → Q 0 H)) ∧ (¬ (5 ≤ v7) → ((0 : Int) ≤ v7 ∧ (v7 : Int) < 5) ∧ (xI (v4 * (H 76 v7))) ∧ (¬ H 67 14 = 0 ∧ xI (Int.tdiv (v4 * (H 76 v7)) (H 67 14))) ∧ (xI (v6 + (Int.tdiv (v4 * (H 76 v7)) (H 67 14)))) ∧ (xI (v7 + 1)) ∧ xq X d 225 Q 179 [(0, (2, 67)), (4, (0, v4)), (5, (0, v5)), (6, (0, v6 + (Int.tdiv (v4 * (H 76 v7)) (H 67 14)))), (7, (0, v7 + 1))] [] H)) : xq X d 225 Q 179 [(0, (2, 67)), (4, (0, v4)), (5, (0, v5)), (6, (0, v6)), (7, (0, v7))] [] H := by
  show xq X d 225 Q 179 [(0, (2, 67)), (4, (0, v4)), (5, (0, v5)), (6, (0, v6)), (7, (0, v7))] [] H
  refine xq_run [6, 12, 27, 31, 74, 80, 93, 113, 120, 138, 162, 179, 225, 265, 319] 300 ?_
  show ((5 ≤ v7) → ((¬ v6 = 0) → ((v5 = 0) → xq X d 225 Q 265 [(0, (2, 67)), (4, (0, v4)), (7, (0, 0))] [] H) ∧ (¬ (v5 = 0) → xq X d 225 Q 225 [(0, (2, 67)), (4, (0, v4)), (7, (0, 0))] [] H)) ∧ (¬ (¬ v6 = 0) → xfR 2 0 ∧ xKZ = xKZ ∧ Q 0 H)) ∧ (¬ (5 ≤ v7) → ((0 : Int) ≤ v7 ∧ (v7 : Int) < 5) ∧ (xI (v4 * (H 76 v7))) ∧ (¬ H 67 14 = 0 ∧ xI (Int.tdiv (v4 * (H 76 v7)) (H 67 14))) ∧ (xI (v6 + (Int.tdiv (v4 * (H 76 v7)) (H 67 14)))) ∧ (xI (v7 + 1)) ∧ xq X d 225 Q 179 [(0, (2, 67)), (4, (0, v4)), (5, (0, v5)), (6, (0, v6 + (Int.tdiv (v4 * (H 76 v7)) (H 67 14)))), (7, (0, v7 + 1))] [] H)
  refine ⟨fun k_ => ?_, fun k_ => ?_⟩
  · replace h := h.1 k_
    refine ⟨fun k_ => ?_, fun k_ => ?_⟩
    · replace h := h.1 k_
      refine ⟨fun k_ => ?_, fun k_ => ?_⟩
      · replace h := h.1 k_
        exact h
      · replace h := h.2 k_
        exact h
    · replace h := h.2 k_
      exact ⟨trivial, rfl, h⟩
  · replace h := h.2 k_
    refine ⟨h.1, ?_⟩
    replace h := h.2
    refine ⟨h.1, ?_⟩
    replace h := h.2
    refine ⟨h.1, ?_⟩
    replace h := h.2
    refine ⟨h.1, ?_⟩
    replace h := h.2
    refine ⟨h.1, ?_⟩
    replace h := h.2
    exact h
theorem U_225_265 {X : Int × (Int → Int)} {d : Nat} {Q : Int → XH → Prop} (hd : 1 ≤ d) (v4 v7 : Int) (H : XH) (h : ((5 ≤ v7) → Q 0 H) ∧ (¬ (5 ≤ v7) → (xI (5 * (H 67 47))) ∧ (xI ((5 * (H 67 47)) - 5)) ∧ (xI (((5 * (H 67 47)) - 5) + v7)) ∧ ((0 : Int) ≤ ((5 * (H 67 47)) - 5) + v7 ∧ (((5 * (H 67 47)) - 5) + v7 : Int) < 40) ∧ ((0 : Int) ≤ v7 ∧ (v7 : Int) < 5) ∧ (xI (v4 * (H 76 v7))) ∧ (¬ H 67 14 = 0 ∧ xI (Int.tdiv (v4 * (H 76 v7)) (H 67 14))) ∧ (xI ((H 96 (((5 * (H 67 47)) - 5) + v7)) + (Int.tdiv (v4 * (H 76 v7)) (H 67 14)))) ∧ (((0 : Int) ≤ ((5 * (H 67 47)) - 5) + v7 ∧ (((5 * (H 67 47)) - 5) + v7 : Int) < 40) ∧ (xI (v7 + 1)) ∧ xq X d 225 Q 265 [(0, (2, 67)), (4, (0, v4)), (7, (0, v7 + 1))] [] (xup H 96 (((5 * (H 67 47)) - 5) + v7) ((if ((H 96 (((5 * (H 67 47)) - 5) + v7)) + (Int.tdiv (v4 * (H 76 v7)) (H 67 14))) ≤ 999 then ((H 96 (((5 * (H 67 47)) - 5) + v7)) + (Int.tdiv (v4 * (H 76 v7)) (H 67 14))) else 999)))))) : xq X d 225 Q 265 [(0, (2, 67)), (4, (0, v4)), (7, (0, v7))] [] H := by
  show xq X d 225 Q 265 [(0, (2, 67)), (4, (0, v4)), (7, (0, v7))] [] H
  refine xq_run [6, 12, 27, 31, 74, 80, 93, 113, 120, 138, 162, 179, 225, 265, 319] 300 ?_
  show ((5 ≤ v7) → xfR 2 0 ∧ xKZ = xKZ ∧ Q 0 H) ∧ (¬ (5 ≤ v7) → (xI (5 * (H 67 47))) ∧ (xI ((5 * (H 67 47)) - 5)) ∧ (xI (((5 * (H 67 47)) - 5) + v7)) ∧ ((0 : Int) ≤ ((5 * (H 67 47)) - 5) + v7 ∧ (((5 * (H 67 47)) - 5) + v7 : Int) < 40) ∧ ((0 : Int) ≤ v7 ∧ (v7 : Int) < 5) ∧ (xI (v4 * (H 76 v7))) ∧ (¬ H 67 14 = 0 ∧ xI (Int.tdiv (v4 * (H 76 v7)) (H 67 14))) ∧ (xI ((H 96 (((5 * (H 67 47)) - 5) + v7)) + (Int.tdiv (v4 * (H 76 v7)) (H 67 14)))) ∧ xWM (xE X) xMC d 104 [(0, 999), (0, (H 96 (((5 * (H 67 47)) - 5) + v7)) + (Int.tdiv (v4 * (H 76 v7)) (H 67 14)))] xKZ H _)
  refine ⟨fun k_ => ?_, fun k_ => ?_⟩
  · replace h := h.1 k_
    exact ⟨trivial, rfl, h⟩
  · replace h := h.2 k_
    refine ⟨h.1, ?_⟩
    replace h := h.2
    refine ⟨h.1, ?_⟩
    replace h := h.2
    refine ⟨h.1, ?_⟩
    replace h := h.2
    refine ⟨h.1, ?_⟩
    replace h := h.2
    refine ⟨h.1, ?_⟩
    replace h := h.2
    refine ⟨h.1, ?_⟩
    replace h := h.2
    refine ⟨h.1, ?_⟩
    replace h := h.2
    refine ⟨h.1, ?_⟩
    replace h := h.2
    refine xc_in (s_104 (by omega) 999 ((H 96 (((5 * (H 67 47)) - 5) + v7)) + (Int.tdiv (v4 * (H 76 v7)) (H 67 14))) H  ?_)
    replace h := h
    show xq X d 225 Q 319 [(8, (0, ((5 * (H 67 47)) - 5) + v7)), (0, (2, 67)), (4, (0, v4)), (7, (0, v7))] [(0, ((if ((H 96 (((5 * (H 67 47)) - 5) + v7)) + (Int.tdiv (v4 * (H 76 v7)) (H 67 14))) ≤ 999 then ((H 96 (((5 * (H 67 47)) - 5) + v7)) + (Int.tdiv (v4 * (H 76 v7)) (H 67 14))) else 999))), (0, ((5 * (H 67 47)) - 5) + v7), (2, 96)] H
    refine xq_run [6, 12, 27, 31, 74, 80, 93, 113, 120, 138, 162, 179, 225, 265, 319] 300 ?_
    show ((0 : Int) ≤ ((5 * (H 67 47)) - 5) + v7 ∧ (((5 * (H 67 47)) - 5) + v7 : Int) < 40) ∧ (xI (v7 + 1)) ∧ xq X d 225 Q 265 [(0, (2, 67)), (4, (0, v4)), (7, (0, v7 + 1))] [] (xup H 96 (((5 * (H 67 47)) - 5) + v7) ((if ((H 96 (((5 * (H 67 47)) - 5) + v7)) + (Int.tdiv (v4 * (H 76 v7)) (H 67 14))) ≤ 999 then ((H 96 (((5 * (H 67 47)) - 5) + v7)) + (Int.tdiv (v4 * (H 76 v7)) (H 67 14))) else 999)))
    refine ⟨h.1, ?_⟩
    replace h := h.2
    refine ⟨h.1, ?_⟩
    replace h := h.2
    exact h
theorem U_225_225 {X : Int × (Int → Int)} {d : Nat} {Q : Int → XH → Prop} (hd : 0 ≤ d) (v4 v7 : Int) (H : XH) (h : ((5 ≤ v7) → (xI ((H 67 47) + 1)) ∧ xq X d 225 Q 265 [(0, (2, 67)), (4, (0, v4)), (7, (0, 0))] [] (xup H 67 47 ((H 67 47) + 1))) ∧ (¬ (5 ≤ v7) → (xI (5 * (H 67 47))) ∧ (xI ((5 * (H 67 47)) + v7)) ∧ ((0 : Int) ≤ (5 * (H 67 47)) + v7 ∧ ((5 * (H 67 47)) + v7 : Int) < 40) ∧ (xI (v7 + 1)) ∧ xq X d 225 Q 225 [(0, (2, 67)), (4, (0, v4)), (7, (0, v7 + 1))] [] (xup H 96 ((5 * (H 67 47)) + v7) 0))) : xq X d 225 Q 225 [(0, (2, 67)), (4, (0, v4)), (7, (0, v7))] [] H := by
  show xq X d 225 Q 225 [(0, (2, 67)), (4, (0, v4)), (7, (0, v7))] [] H
  refine xq_run [6, 12, 27, 31, 74, 80, 93, 113, 120, 138, 162, 179, 225, 265, 319] 300 ?_
  show ((5 ≤ v7) → (xI ((H 67 47) + 1)) ∧ xq X d 225 Q 265 [(0, (2, 67)), (4, (0, v4)), (7, (0, 0))] [] (xup H 67 47 ((H 67 47) + 1))) ∧ (¬ (5 ≤ v7) → (xI (5 * (H 67 47))) ∧ (xI ((5 * (H 67 47)) + v7)) ∧ ((0 : Int) ≤ (5 * (H 67 47)) + v7 ∧ ((5 * (H 67 47)) + v7 : Int) < 40) ∧ (xI (v7 + 1)) ∧ xq X d 225 Q 225 [(0, (2, 67)), (4, (0, v4)), (7, (0, v7 + 1))] [] (xup H 96 ((5 * (H 67 47)) + v7) 0))
  refine ⟨fun k_ => ?_, fun k_ => ?_⟩
  · replace h := h.1 k_
    refine ⟨h.1, ?_⟩
    replace h := h.2
    exact h
  · replace h := h.2 k_
    refine ⟨h.1, ?_⟩
    replace h := h.2
    refine ⟨h.1, ?_⟩
    replace h := h.2
    refine ⟨h.1, ?_⟩
    replace h := h.2
    refine ⟨h.1, ?_⟩
    replace h := h.2
    exact h

theorem t_225_265 {X : Int × (Int → Int)} {d : Nat} {Q : Int → XH → Prop} {lo : Option (List (Int × List Int))} {n : Int} {f G : Int → Int} {T a b pa : Int} {h : XH} (hd : 1 ≤ d) {c : Int} (t : Int) (ht : 0 ≤ t ∧ t ≤ 99) (K : wMo lo n f G T a b pa h) (g : gdI G T a b c) (hn : 1 ≤ n ∧ n ≤ 8) (hr : rgF n f) (hQ : ∀ h1, mF h h1 → wMo lo n (ptF t G T n f) G T a b pa h1 → Q 0 h1) : xq X d 225 Q 265 [(0, (2, 67)), (4, (0, t)), (7, (0, 0))] [] h := by
  have K0 := K
  obtain ⟨kl, kT, kG, ⟨kn, kf⟩, ka, kb⟩ := K
  have gT := gdI_T g
  have key : ∀ (r : Nat) (s : Int) (h' : XH), s + (r : Int) = 5 → 0 ≤ s → mF h h' → h' 67 47 = n → (∀ k, 0 ≤ k → k < 5 * n → h' 96 k = if 5 * (n - 1) ≤ k ∧ k < 5 * (n - 1) + s then min 999 (f k + grV t G T (k - 5 * (n - 1))) else f k) → xq X d 225 Q 265 [(0, (2, 67)), (4, (0, t)), (7, (0, s))] [] h' := by
    intro r
    induction r with
    | zero =>
      intro s h' es h0 F e1 fk
      have es' : s = 5 := by omega
      subst es'
      have z := hQ h' F (wMo_fr K0 F e1 (fun k p q => by
        rw [fk k p q]
        unfold ptF
        by_cases y : 5 * (n - 1) ≤ k ∧ k < 5 * (n - 1) + 5
        · rw [if_pos y, if_pos (by omega)]
        · rw [if_neg y, if_neg (by omega)]))
      refine U_225_265 (by omega) t 5 h' ?_
      rw [e1]
      refine ⟨fun c1 => ?_, fun c1 => ?_⟩
      · skip
        exact z
      · skip
        refine ⟨?_, ?_⟩
        · first | omega | (unfold xI; omega) | (unfold xJ; omega) | (exfalso; omega)
        refine ⟨?_, ?_⟩
        · first | omega | (unfold xI; omega) | (unfold xJ; omega) | (exfalso; omega)
        refine ⟨?_, ?_⟩
        · first | omega | (unfold xI; omega) | (unfold xJ; omega) | (exfalso; omega)
        refine ⟨?_, ?_⟩
        · first | omega | (unfold xI; omega) | (unfold xJ; omega) | (exfalso; omega)
        refine ⟨?_, ?_⟩
        · first | omega | (unfold xI; omega) | (unfold xJ; omega) | (exfalso; omega)
        refine ⟨?_, ?_⟩
        · first | omega | (unfold xI; omega) | (unfold xJ; omega) | (exfalso; omega)
        refine ⟨?_, ?_⟩
        · first | omega | (unfold xI; omega) | (unfold xJ; omega) | (exfalso; omega)
        refine ⟨?_, ?_⟩
        · first | omega | (unfold xI; omega) | (unfold xJ; omega) | (exfalso; omega)
        refine ⟨?_, ?_⟩
        · first | omega | (unfold xI; omega) | (unfold xJ; omega) | (exfalso; omega)
        refine ⟨?_, ?_⟩
        · first | omega | (unfold xI; omega) | (unfold xJ; omega) | (exfalso; omega)
        exfalso
        omega
    | succ r ih =>
      intro s h' es h0 F e1 fk
      have e96 : h' 96 (5 * n - 5 + s) = f (5 * n - 5 + s) := by
        rw [fk _ (by omega) (by omega), if_neg (by omega)]
      have e76 : h' 76 s = G s := by rw [F.1 76 (by decide) (by decide) (by decide)]; exact kG s h0 (by omega)
      have e14 : h' 67 14 = T := by rw [F.2 14 (by decide)]; exact kT
      have gr := gr_1 (x := t) g (s := s) ⟨h0, by omega⟩ ⟨ht.1, by omega⟩
      have fr := hr (5 * n - 5 + s) (by omega) (by omega)
      have em : (if f (5 * n - 5 + s) + (t * G s).tdiv T ≤ 999 then f (5 * n - 5 + s) + (t * G s).tdiv T else 999) = min 999 (f (5 * n - 5 + s) + grV t G T s) := by
        unfold grV
        split <;> omega
      have z := ih (s + 1) (xup h' 96 (5 * n - 5 + s) (min 999 (f (5 * n - 5 + s) + grV t G T s))) (by omega) (by omega) (mF_up F (by decide)) (by rw [xup_ne (by decide)]; exact e1) (fun k p y => by
        by_cases e : k = 5 * n - 5 + s
        · rw [e, xup_self, if_pos (by omega), show 5 * n - 5 + s - 5 * (n - 1) = s by omega]
        · rw [xup_k e, fk k p y]
          by_cases y2 : 5 * (n - 1) ≤ k ∧ k < 5 * (n - 1) + s
          · rw [if_pos y2, if_pos (by omega)]
          · rw [if_neg y2, if_neg (by omega)])
      refine U_225_265 (by omega) t s h' ?_
      rw [e1, e96, e76, e14, em]
      refine ⟨fun c1 => ?_, fun c1 => ?_⟩
      · skip
        exfalso
        omega
      · skip
        refine ⟨?_, ?_⟩
        · first | omega | (unfold xI; omega) | exact ⟨by omega, by unfold xI; omega⟩ | (exfalso; omega)
        refine ⟨?_, ?_⟩
        · first | omega | (unfold xI; omega) | exact ⟨by omega, by unfold xI; omega⟩ | (exfalso; omega)
        refine ⟨?_, ?_⟩
        · first | omega | (unfold xI; omega) | exact ⟨by omega, by unfold xI; omega⟩ | (exfalso; omega)
        refine ⟨?_, ?_⟩
        · first | omega | (unfold xI; omega) | exact ⟨by omega, by unfold xI; omega⟩ | (exfalso; omega)
        refine ⟨?_, ?_⟩
        · first | omega | (unfold xI; omega) | exact ⟨by omega, by unfold xI; omega⟩ | (exfalso; omega)
        refine ⟨?_, ?_⟩
        · first | omega | (unfold xI; omega) | exact ⟨by omega, by unfold xI; omega⟩ | (exfalso; omega)
        refine ⟨?_, ?_⟩
        · first | omega | (unfold xI; omega) | exact ⟨by omega, by unfold xI; omega⟩ | (exfalso; omega)
        refine ⟨?_, ?_⟩
        · first | omega | (unfold xI; omega) | exact ⟨by omega, by unfold xI; omega⟩ | (exfalso; omega)
        refine ⟨?_, ?_⟩
        · first | omega | (unfold xI; omega) | exact ⟨by omega, by unfold xI; omega⟩ | (exfalso; omega)
        refine ⟨?_, ?_⟩
        · first | omega | (unfold xI; omega) | exact ⟨by omega, by unfold xI; omega⟩ | (exfalso; omega)
        exact z
  exact key 5 0 h (by decide) (by decide) (mF_refl h) kn (fun k p q => by rw [if_neg (by omega)]; exact kf k p q)
theorem t_225_225 {X : Int × (Int → Int)} {d : Nat} {Q : Int → XH → Prop} {lo : Option (List (Int × List Int))} {n : Int} {f G : Int → Int} {T a b pa : Int} {h : XH} (hd : 1 ≤ d) {c : Int} (t : Int) (ht : 0 ≤ t ∧ t ≤ 99) (K : wMo lo n f G T a b pa h) (g : gdI G T a b c) (hn : 0 ≤ n ∧ n ≤ 7) (hr : rgF n f) (hQ : ∀ h1, mF h h1 → wMo lo (n + 1) (ptF t G T (n + 1) (zrF f n)) G T a b pa h1 → Q 0 h1) : xq X d 225 Q 225 [(0, (2, 67)), (4, (0, t)), (7, (0, 0))] [] h := by
  have K0 := K
  obtain ⟨kl, kT, kG, ⟨kn, kf⟩, ka, kb⟩ := K
  have key : ∀ (r : Nat) (s : Int) (h' : XH), s + (r : Int) = 5 → 0 ≤ s → mF h h' → h' 67 47 = n → (∀ k, 0 ≤ k → k < 5 * n + s → h' 96 k = if 5 * n ≤ k then 0 else f k) → xq X d 225 Q 225 [(0, (2, 67)), (4, (0, t)), (7, (0, s))] [] h' := by
    intro r
    induction r with
    | zero =>
      intro s h' es h0 F e1 fk
      have es' : s = 5 := by omega
      subst es'
      have F2 := mF_47 F (n + 1)
      have K2 : wMo lo (n + 1) (zrF f n) G T a b pa (xup h' 67 47 (n + 1)) := wMo_fr K0 F2 (xup_self _ _ _ _) (fun k p q => by
        rw [xup_ne (by decide), fk k p (by omega)]
        unfold zrF
        by_cases y : 5 * n ≤ k
        · rw [if_pos y, if_pos (by omega)]
        · rw [if_neg y, if_neg (by omega)])
      have z : xq X d 225 Q 265 [(0, (2, 67)), (4, (0, t)), (7, (0, 0))] [] (xup h' 67 47 (n + 1)) := by
        refine t_225_265 hd t ht K2 g (by omega) (fun k p q => ?_) (fun h1 F1 K1 => hQ h1 (mF_trans F2 F1) K1)
        unfold zrF
        split
        · omega
        · exact hr k p (by omega)
      refine U_225_225 (by omega) t 5 h' ?_
      rw [e1]
      refine ⟨fun c1 => ?_, fun c1 => ?_⟩
      · skip
        refine ⟨?_, ?_⟩
        · first | omega | (unfold xI; omega) | (unfold xJ; omega) | (exfalso; omega)
        exact z
      · skip
        refine ⟨?_, ?_⟩
        · first | omega | (unfold xI; omega) | (unfold xJ; omega) | (exfalso; omega)
        refine ⟨?_, ?_⟩
        · first | omega | (unfold xI; omega) | (unfold xJ; omega) | (exfalso; omega)
        refine ⟨?_, ?_⟩
        · first | omega | (unfold xI; omega) | (unfold xJ; omega) | (exfalso; omega)
        refine ⟨?_, ?_⟩
        · first | omega | (unfold xI; omega) | (unfold xJ; omega) | (exfalso; omega)
        exfalso
        omega
    | succ r ih =>
      intro s h' es h0 F e1 fk
      have z := ih (s + 1) (xup h' 96 (5 * n + s) 0) (by omega) (by omega) (mF_up F (by decide)) (by rw [xup_ne (by decide)]; exact e1) (fun k p y => by
        by_cases e : k = 5 * n + s
        · rw [e, xup_self, if_pos (by omega)]
        · rw [xup_k e, fk k p (by omega)])
      refine U_225_225 (by omega) t s h' ?_
      rw [e1]
      refine ⟨fun c1 => ?_, fun c1 => ?_⟩
      · skip
        refine ⟨?_, ?_⟩
        · first | omega | (unfold xI; omega) | (unfold xJ; omega) | (exfalso; omega)
        exfalso
        omega
      · skip
        refine ⟨?_, ?_⟩
        · first | omega | (unfold xI; omega) | (unfold xJ; omega) | (exfalso; omega)
        refine ⟨?_, ?_⟩
        · first | omega | (unfold xI; omega) | (unfold xJ; omega) | (exfalso; omega)
        refine ⟨?_, ?_⟩
        · first | omega | (unfold xI; omega) | (unfold xJ; omega) | (exfalso; omega)
        refine ⟨?_, ?_⟩
        · first | omega | (unfold xI; omega) | (unfold xJ; omega) | (exfalso; omega)
        exact z
  exact key 5 0 h (by decide) (by decide) (mF_refl h) kn (fun k p q => by rw [if_neg (by omega)]; exact kf k p (by omega))

theorem t_225_179 {X : Int × (Int → Int)} {d : Nat} {Q : Int → XH → Prop} {lo : Option (List (Int × List Int))} {n : Int} {f G : Int → Int} {T a b pa : Int} {h : XH} (hd : 1 ≤ d) {c : Int} (t fl : Int) (K : wMo lo n f G T a b pa h) (g : gdI G T a b c) (I : wkI n f) (et : t = tkV lo (wdW G T a b c) n f) (efl : (fl = 0 ∧ ¬ (n < 1 ∨ (n < 8 ∧ ¬ tlV lo (wdW G T a b c n f) 2 0 = 0))) ∨ (fl = 1 ∧ (n < 1 ∨ (n < 8 ∧ ¬ tlV lo (wdW G T a b c n f) 2 0 = 0)))) (hQ : ∀ h1, mF h h1 → wMo lo (wqC lo (wdW G T a b c) G T n f).1 (wqC lo (wdW G T a b c) G T n f).2 G T a b pa h1 → Q 0 h1) : xq X d 225 Q 179 [(0, (2, 67)), (4, (0, t)), (5, (0, fl)), (6, (0, 0)), (7, (0, 0))] [] h := by
  have K0 := K
  obtain ⟨kl, kT, kG, ⟨kn, kf⟩, ka, kb⟩ := K
  have I1 := I.1
  have gT := gdI_T g
  have ht : 0 ≤ t ∧ t ≤ 99 := by
    rw [et]
    unfold tkV
    omega
  unfold wqC at hQ
  rw [← et] at hQ
  have gs := fun s (p : 0 ≤ s ∧ s < 5) => gr_1 (x := t) g p ⟨ht.1, by omega⟩
  have st : ∀ s v, 0 ≤ s → s < 5 → (0 ≤ v ∧ v ≤ 3000000) → xq X d 225 Q 179 [(0, (2, 67)), (4, (0, t)), (5, (0, fl)), (6, (0, v + grV t G T s)), (7, (0, s + 1))] [] h → xq X d 225 Q 179 [(0, (2, 67)), (4, (0, t)), (5, (0, fl)), (6, (0, v)), (7, (0, s))] [] h := fun s v s0 s5 hv hk => by
    have gg := gs s ⟨s0, s5⟩
    have e76 := kG s s0 s5
    refine U_225_179 (by omega) t fl v s h ?_
    rw [e76, kT]
    refine ⟨fun c1 => ?_, fun c1 => ?_⟩
    · skip
      refine ⟨fun c2 => ?_, fun c2 => ?_⟩
      · skip
        refine ⟨fun c3 => ?_, fun c3 => ?_⟩
        · skip
          first | exact hk | (exfalso; omega)
        · skip
          first | exact hk | (exfalso; omega)
      · skip
        first | exact hk | (exfalso; omega)
    · skip
      refine ⟨?_, ?_⟩
      · first | omega | (unfold xI; omega) | exact ⟨by omega, by unfold xI; omega⟩ | (exfalso; omega)
      refine ⟨?_, ?_⟩
      · first | omega | (unfold xI; omega) | exact ⟨by omega, by unfold xI; omega⟩ | (exfalso; omega)
      refine ⟨?_, ?_⟩
      · first | omega | (unfold xI; omega) | exact ⟨by omega, by unfold xI; omega⟩ | (exfalso; omega)
      refine ⟨?_, ?_⟩
      · first | omega | (unfold xI; omega) | exact ⟨by omega, by unfold xI; omega⟩ | (exfalso; omega)
      refine ⟨?_, ?_⟩
      · first | omega | (unfold xI; omega) | exact ⟨by omega, by unfold xI; omega⟩ | (exfalso; omega)
      first | exact hk | (exfalso; omega)
  have b0 : 0 ≤ grV t G T 0 ∧ grV t G T 0 ≤ 576000 := (gs 0 (by omega)).2
  have b1 : 0 ≤ grV t G T 1 ∧ grV t G T 1 ≤ 576000 := (gs 1 (by omega)).2
  have b2 : 0 ≤ grV t G T 2 ∧ grV t G T 2 ≤ 576000 := (gs 2 (by omega)).2
  have b3 : 0 ≤ grV t G T 3 ∧ grV t G T 3 ≤ 576000 := (gs 3 (by omega)).2
  have b4 : 0 ≤ grV t G T 4 ∧ grV t G T 4 ≤ 576000 := (gs 4 (by omega)).2
  refine st 0 0 (by decide) (by decide) (by omega) ?_
  refine st 1 (0 + grV t G T 0) (by decide) (by decide) (by omega) ?_
  refine st 2 (0 + grV t G T 0 + grV t G T 1) (by decide) (by decide) (by omega) ?_
  refine st 3 (0 + grV t G T 0 + grV t G T 1 + grV t G T 2) (by decide) (by decide) (by omega) ?_
  refine st 4 (0 + grV t G T 0 + grV t G T 1 + grV t G T 2 + grV t G T 3) (by decide) (by decide) (by omega) ?_
  have es : 0 + grV t G T 0 + grV t G T 1 + grV t G T 2 + grV t G T 3 + grV t G T 4 = sum5 (grV t G T) 0 := by
    rw [Int.zero_add]
    rfl
  have s0 : 0 ≤ sum5 (grV t G T) 0 := by omega
  rw [es]
  have c0 : sum5 (grV t G T) 0 < 1 → Q 0 h := fun q => by
    rw [if_pos q] at hQ
    exact hQ h (mF_refl h) K0
  have cN : ¬ sum5 (grV t G T) 0 < 1 → ¬ fl = 0 → xq X d 225 Q 225 [(0, (2, 67)), (4, (0, t)), (7, (0, 0))] [] h := fun q q2 => by
    rcases efl with y | y
    · exact absurd y.1 q2
    rw [if_neg q, if_pos y.2] at hQ
    exact t_225_225 hd t ht K0 g (by omega) I.2.1 hQ
  have cO : ¬ sum5 (grV t G T) 0 < 1 → fl = 0 → xq X d 225 Q 265 [(0, (2, 67)), (4, (0, t)), (7, (0, 0))] [] h := fun q q2 => by
    rcases efl with y | y
    · rw [if_neg q, if_neg y.2] at hQ
      exact t_225_265 hd t ht K0 g (by omega) I.2.1 hQ
    · omega
  clear efl
  refine U_225_179 (by omega) t fl _ 5 h ?_
  refine ⟨fun c1 => ?_, fun c1 => ?_⟩
  · skip
    refine ⟨fun c2 => ?_, fun c2 => ?_⟩
    · skip
      refine ⟨fun c3 => ?_, fun c3 => ?_⟩
      · skip
        first | (exfalso; omega) | exact c0 (by omega) | exact cN (by omega) (by omega) | exact cO (by omega) (by omega)
      · skip
        first | (exfalso; omega) | exact c0 (by omega) | exact cN (by omega) (by omega) | exact cO (by omega) (by omega)
    · skip
      first | (exfalso; omega) | exact c0 (by omega) | exact cN (by omega) (by omega) | exact cO (by omega) (by omega)
  · skip
    refine ⟨?_, ?_⟩
    · first | omega | (unfold xI; omega) | (unfold xJ; omega) | (exfalso; omega)
    refine ⟨?_, ?_⟩
    · first | omega | (unfold xI; omega) | (unfold xJ; omega) | (exfalso; omega)
    refine ⟨?_, ?_⟩
    · first | omega | (unfold xI; omega) | (unfold xJ; omega) | (exfalso; omega)
    refine ⟨?_, ?_⟩
    · first | omega | (unfold xI; omega) | (unfold xJ; omega) | (exfalso; omega)
    refine ⟨?_, ?_⟩
    · first | omega | (unfold xI; omega) | (unfold xJ; omega) | (exfalso; omega)
    first | (exfalso; omega) | exact c0 (by omega) | exact cN (by omega) (by omega) | exact cO (by omega) (by omega)

theorem t_225_31 {X : Int × (Int → Int)} {d : Nat} {Q : Int → XH → Prop} {lo : Option (List (Int × List Int))} {n : Int} {f G : Int → Int} {T a b pa : Int} {h : XH} (hd : 7 ≤ d) {c : Int} (x : Int) (hx : 0 ≤ x ∧ x ≤ 100) (K : wMo lo n f G T a b pa h) (ppa : 0 ≤ pa ∧ pa ≤ 1177) (g : gdI G T a b c) (I : wkI n f) (ex : x = max 0 (min 100 (tlV lo (wdW G T a b c n f) 1 0))) (hQ : ∀ h1, mF h h1 → wMo lo (wqW lo (wdW G T a b c) G T n f).1 (wqW lo (wdW G T a b c) G T n f).2 G T a b pa h1 → Q 0 h1) : xq X d 225 Q 31 [(0, (2, 67)), (1, (0, pa)), (2, (0, c)), (3, (0, x)), (4, (0, 0))] [] h := by
  have K0 := K
  obtain ⟨kl, kT, kG, ⟨kn, kf⟩, ka, kb⟩ := K
  have I1 := I.1
  unfold wqW at hQ
  have IA := wqA_ok (lo := lo) (W := wdW G T a b c) I
  have eA0 : wqA lo (wdW G T a b c) n f = cmS n.toNat 0 0 (lsF f x) := by
    unfold wqA
    rw [← ex]
  clear ex
  generalize wqA lo (wdW G T a b c) n f = A at hQ IA eA0
  have eA := eA0.symm
  have IB := wqB_ok (lo := lo) (W := wdW G T a b c) IA
  have IA1 := IA.1
  have IB1 := IB.1
  have kZ : A.1 ≤ 0 → wqB lo (wdW G T a b c) A.1 A.2 = A.1 := fun q => by
    unfold wqB
    rw [if_neg (by omega)]
  have T_ : ∀ h', mF h h' → wMo lo (wqB lo (wdW G T a b c) A.1 A.2) A.2 G T a b pa h' → ∀ t fl, t = tkV lo (wdW G T a b c) (wqB lo (wdW G T a b c) A.1 A.2) A.2 → ((fl = 0 ∧ ¬ (wqB lo (wdW G T a b c) A.1 A.2 < 1 ∨ (wqB lo (wdW G T a b c) A.1 A.2 < 8 ∧ ¬ tlV lo (wdW G T a b c (wqB lo (wdW G T a b c) A.1 A.2) A.2) 2 0 = 0))) ∨ (fl = 1 ∧ (wqB lo (wdW G T a b c) A.1 A.2 < 1 ∨ (wqB lo (wdW G T a b c) A.1 A.2 < 8 ∧ ¬ tlV lo (wdW G T a b c (wqB lo (wdW G T a b c) A.1 A.2) A.2) 2 0 = 0)))) → xq X d 225 Q 179 [(0, (2, 67)), (4, (0, t)), (5, (0, fl)), (6, (0, 0)), (7, (0, 0))] [] h' := fun h' F' K' t fl et efl => t_225_179 (by omega) t fl K' g IB et efl (fun h1 F1 K1 => hQ h1 (mF_trans F' F1) K1)
  have key : ∀ (r : Nat) (i : Int) (h' : XH), i + (r : Int) = 5 * n → 0 ≤ i → mF h h' → h' 67 47 = n → (∀ k, 0 ≤ k → k < i → h' 96 k = lsF f x k) → (∀ k, i ≤ k → k < 5 * n → h' 96 k = f k) → xq X d 225 Q 31 [(0, (2, 67)), (1, (0, pa)), (2, (0, c)), (3, (0, x)), (4, (0, i))] [] h' := by
    intro r
    induction r with
    | zero =>
      intro i h' ei h0 F e1 fk fl
      have K' : wMo lo n (lsF f x) G T a b pa h' := wMo_fr K0 F e1 (fun k p q => fk k p (by omega))
      refine U_225_31 (by omega) pa c x i h' ?_
      rw [e1]
      refine ⟨?_, ?_⟩
      · first | omega | (unfold xI; omega) | (unfold xJ; omega) | (exfalso; omega) | (rw [n6]; unfold xI; omega)
      refine ⟨fun c1 => ?_, fun c1 => ?_⟩
      · skip
        refine s_224w (by omega) x hx I.1 I.2.1 K' (fun h3 F3 K3' => ?_)
        have K3 : wMo lo A.1 A.2 G T a b pa h3 := by
          rw [← eA]
          exact K3'
        have F34 : ∀ {h4}, mF h3 h4 → mF h h4 := fun z => mF_trans F (mF_trans F3 z)
        refine s_218w (by omega) K3 ppa IA g (fun h4 F4 K4 V4 => ?_)
        have n4 := K4.2.2.2.1.1
        have F35 : mF h h4 := F34 F4
        refine ⟨fun c2 => ?_, fun c2 => ?_⟩
        · skip
          have KB : wMo lo (wqB lo (wdW G T a b c) A.1 A.2) A.2 G T a b pa h4 := by
            rw [kZ (by omega)]
            exact K4
          have FB := F35
          refine s_218w (by omega) KB ppa IB g (fun h8 F8 K8 V8 => ?_)
          refine s_222w (by omega) (w := wdW G T a b c (wqB lo (wdW G T a b c) A.1 A.2) A.2) 0 10 K8 V8 (wdV_rng IB.1 IB.2.1 g) (by decide) (by decide) (fun y9 h9 e9 F9 K9 V9 => ?_)
          have n9 := K9.2.2.2.1.1
          have F9' := mF_trans FB (mF_trans F8 F9)
          have tk : tkV lo (wdW G T a b c) (wqB lo (wdW G T a b c) A.1 A.2) A.2 = max 0 (min 99 y9) := by
            unfold tkV
            rw [← e9]
          clear e9
          refine ⟨fun c3 => ?_, fun c3 => ?_⟩
          · skip
            refine ⟨fun c4 => ?_, fun c4 => ?_⟩
            · skip
              first | (exfalso; omega) | exact T_ _ F9' K9 _ _ (by rw [tk]; first | omega | (split <;> omega)) (by omega)
            · skip
              refine ⟨fun c5 => ?_, fun c5 => ?_⟩
              · skip
                first | (exfalso; omega) | exact T_ _ F9' K9 _ _ (by rw [tk]; first | omega | (split <;> omega)) (by omega)
              · skip
                refine s_222w (by omega) (w := wdW G T a b c (wqB lo (wdW G T a b c) A.1 A.2) A.2) 2 0 K9 V9 (wdV_rng IB.1 IB.2.1 g) (by decide) (by decide) (fun y10 h10 e10 F10 K10 V10 => ?_)
                have z01 := tlV_01 (lo := lo) (c := 2) (lwN_ok K10.1) (wdV_rng IB.1 IB.2.1 g) (by decide)
                change tlV lo (wdW G T a b c (wqB lo (wdW G T a b c) A.1 A.2) A.2) 2 0 = 0 ∨ tlV lo (wdW G T a b c (wqB lo (wdW G T a b c) A.1 A.2) A.2) 2 0 = 1 at z01
                have F10' := mF_trans F9' F10
                refine ⟨fun c6 => ?_, fun c6 => ?_⟩
                · skip
                  first | (exfalso; omega) | exact T_ _ F10' K10 _ _ (by rw [tk]; first | omega | (split <;> omega)) (by omega)
                · skip
                  first | (exfalso; omega) | exact T_ _ F10' K10 _ _ (by rw [tk]; first | omega | (split <;> omega)) (by omega)
          · skip
            refine ⟨fun c7 => ?_, fun c7 => ?_⟩
            · skip
              first | (exfalso; omega) | exact T_ _ F9' K9 _ _ (by rw [tk]; first | omega | (split <;> omega)) (by omega)
            · skip
              refine ⟨fun c8 => ?_, fun c8 => ?_⟩
              · skip
                first | (exfalso; omega) | exact T_ _ F9' K9 _ _ (by rw [tk]; first | omega | (split <;> omega)) (by omega)
              · skip
                refine s_222w (by omega) (w := wdW G T a b c (wqB lo (wdW G T a b c) A.1 A.2) A.2) 2 0 K9 V9 (wdV_rng IB.1 IB.2.1 g) (by decide) (by decide) (fun y10 h10 e10 F10 K10 V10 => ?_)
                have z01 := tlV_01 (lo := lo) (c := 2) (lwN_ok K10.1) (wdV_rng IB.1 IB.2.1 g) (by decide)
                change tlV lo (wdW G T a b c (wqB lo (wdW G T a b c) A.1 A.2) A.2) 2 0 = 0 ∨ tlV lo (wdW G T a b c (wqB lo (wdW G T a b c) A.1 A.2) A.2) 2 0 = 1 at z01
                have F10' := mF_trans F9' F10
                refine ⟨fun c9 => ?_, fun c9 => ?_⟩
                · skip
                  first | (exfalso; omega) | exact T_ _ F10' K10 _ _ (by rw [tk]; first | omega | (split <;> omega)) (by omega)
                · skip
                  first | (exfalso; omega) | exact T_ _ F10' K10 _ _ (by rw [tk]; first | omega | (split <;> omega)) (by omega)
        · skip
          refine s_222w (by omega) (w := wdW G T a b c A.1 A.2) 3 0 K4 V4 (wdV_rng IA.1 IA.2.1 g) (by decide) (by decide) (fun y6 h6 e6 F6 K6 V6 => ?_)
          have y01 := tlV_01 (lo := lo) (c := 3) (lwN_ok K6.1) (wdV_rng IA.1 IA.2.1 g) (by decide)
          change tlV lo (wdW G T a b c A.1 A.2) 3 0 = 0 ∨ tlV lo (wdW G T a b c A.1 A.2) 3 0 = 1 at y01
          have F6' := mF_trans F35 F6
          have n6 := K6.2.2.2.1.1
          have kX : ¬ y6 = 1 → wqB lo (wdW G T a b c) A.1 A.2 = A.1 := fun q => by
            unfold wqB
            rw [if_neg (by omega)]
          have kY : 0 < A.1 → y6 = 1 → wqB lo (wdW G T a b c) A.1 A.2 = A.1 - 1 := fun q q2 => by
            unfold wqB
            rw [if_pos (by omega)]
          refine ⟨fun c10 => ?_, fun c10 => ?_⟩
          · skip
            have KB : wMo lo (wqB lo (wdW G T a b c) A.1 A.2) A.2 G T a b pa h6 := by
              rw [kX (by omega)]
              exact K6
            have FB := F6'
            refine s_218w (by omega) KB ppa IB g (fun h8 F8 K8 V8 => ?_)
            refine s_222w (by omega) (w := wdW G T a b c (wqB lo (wdW G T a b c) A.1 A.2) A.2) 0 10 K8 V8 (wdV_rng IB.1 IB.2.1 g) (by decide) (by decide) (fun y9 h9 e9 F9 K9 V9 => ?_)
            have n9 := K9.2.2.2.1.1
            have F9' := mF_trans FB (mF_trans F8 F9)
            have tk : tkV lo (wdW G T a b c) (wqB lo (wdW G T a b c) A.1 A.2) A.2 = max 0 (min 99 y9) := by
              unfold tkV
              rw [← e9]
            clear e9
            refine ⟨fun c11 => ?_, fun c11 => ?_⟩
            · skip
              refine ⟨fun c12 => ?_, fun c12 => ?_⟩
              · skip
                first | (exfalso; omega) | exact T_ _ F9' K9 _ _ (by rw [tk]; first | omega | (split <;> omega)) (by omega)
              · skip
                refine ⟨fun c13 => ?_, fun c13 => ?_⟩
                · skip
                  first | (exfalso; omega) | exact T_ _ F9' K9 _ _ (by rw [tk]; first | omega | (split <;> omega)) (by omega)
                · skip
                  refine s_222w (by omega) (w := wdW G T a b c (wqB lo (wdW G T a b c) A.1 A.2) A.2) 2 0 K9 V9 (wdV_rng IB.1 IB.2.1 g) (by decide) (by decide) (fun y10 h10 e10 F10 K10 V10 => ?_)
                  have z01 := tlV_01 (lo := lo) (c := 2) (lwN_ok K10.1) (wdV_rng IB.1 IB.2.1 g) (by decide)
                  change tlV lo (wdW G T a b c (wqB lo (wdW G T a b c) A.1 A.2) A.2) 2 0 = 0 ∨ tlV lo (wdW G T a b c (wqB lo (wdW G T a b c) A.1 A.2) A.2) 2 0 = 1 at z01
                  have F10' := mF_trans F9' F10
                  refine ⟨fun c14 => ?_, fun c14 => ?_⟩
                  · skip
                    first | (exfalso; omega) | exact T_ _ F10' K10 _ _ (by rw [tk]; first | omega | (split <;> omega)) (by omega)
                  · skip
                    first | (exfalso; omega) | exact T_ _ F10' K10 _ _ (by rw [tk]; first | omega | (split <;> omega)) (by omega)
            · skip
              refine ⟨fun c15 => ?_, fun c15 => ?_⟩
              · skip
                first | (exfalso; omega) | exact T_ _ F9' K9 _ _ (by rw [tk]; first | omega | (split <;> omega)) (by omega)
              · skip
                refine ⟨fun c16 => ?_, fun c16 => ?_⟩
                · skip
                  first | (exfalso; omega) | exact T_ _ F9' K9 _ _ (by rw [tk]; first | omega | (split <;> omega)) (by omega)
                · skip
                  refine s_222w (by omega) (w := wdW G T a b c (wqB lo (wdW G T a b c) A.1 A.2) A.2) 2 0 K9 V9 (wdV_rng IB.1 IB.2.1 g) (by decide) (by decide) (fun y10 h10 e10 F10 K10 V10 => ?_)
                  have z01 := tlV_01 (lo := lo) (c := 2) (lwN_ok K10.1) (wdV_rng IB.1 IB.2.1 g) (by decide)
                  change tlV lo (wdW G T a b c (wqB lo (wdW G T a b c) A.1 A.2) A.2) 2 0 = 0 ∨ tlV lo (wdW G T a b c (wqB lo (wdW G T a b c) A.1 A.2) A.2) 2 0 = 1 at z01
                  have F10' := mF_trans F9' F10
                  refine ⟨fun c17 => ?_, fun c17 => ?_⟩
                  · skip
                    first | (exfalso; omega) | exact T_ _ F10' K10 _ _ (by rw [tk]; first | omega | (split <;> omega)) (by omega)
                  · skip
                    first | (exfalso; omega) | exact T_ _ F10' K10 _ _ (by rw [tk]; first | omega | (split <;> omega)) (by omega)
          · skip
            refine ⟨?_, ?_⟩
            · first | omega | (unfold xI; omega) | (unfold xJ; omega) | (exfalso; omega) | (rw [n6]; unfold xI; omega)
            have F47 := mF_47 F6' (A.1 - 1)
            have KB : wMo lo (wqB lo (wdW G T a b c) A.1 A.2) A.2 G T a b pa (xup h6 67 47 (A.1 - 1)) := by
              rw [kY (by omega) (by omega)]
              exact wMo_fr K6 (mF_47 (mF_refl h6) (A.1 - 1)) (xup_self _ _ _ _) (fun k x y => by rw [xup_ne (by decide)]; exact K6.2.2.2.1.2 k x (by omega))
            have FB := F47
            rw [n6]
            refine s_218w (by omega) KB ppa IB g (fun h8 F8 K8 V8 => ?_)
            refine s_222w (by omega) (w := wdW G T a b c (wqB lo (wdW G T a b c) A.1 A.2) A.2) 0 10 K8 V8 (wdV_rng IB.1 IB.2.1 g) (by decide) (by decide) (fun y9 h9 e9 F9 K9 V9 => ?_)
            have n9 := K9.2.2.2.1.1
            have F9' := mF_trans FB (mF_trans F8 F9)
            have tk : tkV lo (wdW G T a b c) (wqB lo (wdW G T a b c) A.1 A.2) A.2 = max 0 (min 99 y9) := by
              unfold tkV
              rw [← e9]
            clear e9
            refine ⟨fun c18 => ?_, fun c18 => ?_⟩
            · skip
              refine ⟨fun c19 => ?_, fun c19 => ?_⟩
              · skip
                first | (exfalso; omega) | exact T_ _ F9' K9 _ _ (by rw [tk]; first | omega | (split <;> omega)) (by omega)
              · skip
                refine ⟨fun c20 => ?_, fun c20 => ?_⟩
                · skip
                  first | (exfalso; omega) | exact T_ _ F9' K9 _ _ (by rw [tk]; first | omega | (split <;> omega)) (by omega)
                · skip
                  refine s_222w (by omega) (w := wdW G T a b c (wqB lo (wdW G T a b c) A.1 A.2) A.2) 2 0 K9 V9 (wdV_rng IB.1 IB.2.1 g) (by decide) (by decide) (fun y10 h10 e10 F10 K10 V10 => ?_)
                  have z01 := tlV_01 (lo := lo) (c := 2) (lwN_ok K10.1) (wdV_rng IB.1 IB.2.1 g) (by decide)
                  change tlV lo (wdW G T a b c (wqB lo (wdW G T a b c) A.1 A.2) A.2) 2 0 = 0 ∨ tlV lo (wdW G T a b c (wqB lo (wdW G T a b c) A.1 A.2) A.2) 2 0 = 1 at z01
                  have F10' := mF_trans F9' F10
                  refine ⟨fun c21 => ?_, fun c21 => ?_⟩
                  · skip
                    first | (exfalso; omega) | exact T_ _ F10' K10 _ _ (by rw [tk]; first | omega | (split <;> omega)) (by omega)
                  · skip
                    first | (exfalso; omega) | exact T_ _ F10' K10 _ _ (by rw [tk]; first | omega | (split <;> omega)) (by omega)
            · skip
              refine ⟨fun c22 => ?_, fun c22 => ?_⟩
              · skip
                first | (exfalso; omega) | exact T_ _ F9' K9 _ _ (by rw [tk]; first | omega | (split <;> omega)) (by omega)
              · skip
                refine ⟨fun c23 => ?_, fun c23 => ?_⟩
                · skip
                  first | (exfalso; omega) | exact T_ _ F9' K9 _ _ (by rw [tk]; first | omega | (split <;> omega)) (by omega)
                · skip
                  refine s_222w (by omega) (w := wdW G T a b c (wqB lo (wdW G T a b c) A.1 A.2) A.2) 2 0 K9 V9 (wdV_rng IB.1 IB.2.1 g) (by decide) (by decide) (fun y10 h10 e10 F10 K10 V10 => ?_)
                  have z01 := tlV_01 (lo := lo) (c := 2) (lwN_ok K10.1) (wdV_rng IB.1 IB.2.1 g) (by decide)
                  change tlV lo (wdW G T a b c (wqB lo (wdW G T a b c) A.1 A.2) A.2) 2 0 = 0 ∨ tlV lo (wdW G T a b c (wqB lo (wdW G T a b c) A.1 A.2) A.2) 2 0 = 1 at z01
                  have F10' := mF_trans F9' F10
                  refine ⟨fun c24 => ?_, fun c24 => ?_⟩
                  · skip
                    first | (exfalso; omega) | exact T_ _ F10' K10 _ _ (by rw [tk]; first | omega | (split <;> omega)) (by omega)
                  · skip
                    first | (exfalso; omega) | exact T_ _ F10' K10 _ _ (by rw [tk]; first | omega | (split <;> omega)) (by omega)
      · skip
        refine ⟨?_, ?_⟩
        · first | omega | (unfold xI; omega) | (unfold xJ; omega) | (exfalso; omega) | (rw [n6]; unfold xI; omega)
        refine ⟨?_, ?_⟩
        · first | omega | (unfold xI; omega) | (unfold xJ; omega) | (exfalso; omega) | (rw [n6]; unfold xI; omega)
        refine ⟨?_, ?_⟩
        · first | omega | (unfold xI; omega) | (unfold xJ; omega) | (exfalso; omega) | (rw [n6]; unfold xI; omega)
        refine ⟨?_, ?_⟩
        · first | omega | (unfold xI; omega) | (unfold xJ; omega) | (exfalso; omega) | (rw [n6]; unfold xI; omega)
        refine ⟨?_, ?_⟩
        · first | omega | (unfold xI; omega) | (unfold xJ; omega) | (exfalso; omega) | (rw [n6]; unfold xI; omega)
        refine ⟨?_, ?_⟩
        · first | omega | (unfold xI; omega) | (unfold xJ; omega) | (exfalso; omega) | (rw [n6]; unfold xI; omega)
        refine ⟨?_, ?_⟩
        · first | omega | (unfold xI; omega) | (unfold xJ; omega) | (exfalso; omega) | (rw [n6]; unfold xI; omega)
        exfalso
        omega
    | succ r ih =>
      intro i h' ei h0 F e1 fk fl
      have e2 : h' 96 i = f i := fl i (Int.le_refl _) (by omega)
      have lb := ls_1 (I.2.1 i h0 (by omega)) hx
      have fi := I.2.1 i h0 (by omega)
      have z := ih (i + 1) (xup h' 96 i (f i - (f i * x).tdiv 100)) (by omega) (by omega) (mF_up F (by decide)) (by rw [xup_ne (by decide)]; exact e1) (fun k p y => by
        by_cases e : k = i
        · rw [e, xup_self]
          rfl
        · rw [xup_k e]
          exact fk k p (by omega)) (fun k p y => by rw [xup_k (by omega)]; exact fl k (by omega) y)
      refine U_225_31 (by omega) pa c x i h' ?_
      rw [e1, e2]
      refine ⟨?_, ?_⟩
      · first | omega | (unfold xI; omega) | exact ⟨by decide, by unfold xI; omega⟩ | (exfalso; omega)
      refine ⟨fun c1 => ?_, fun c1 => ?_⟩
      · skip
        exfalso
        omega
      · skip
        refine ⟨?_, ?_⟩
        · first | omega | (unfold xI; omega) | exact ⟨by decide, by unfold xI; omega⟩ | (exfalso; omega)
        refine ⟨?_, ?_⟩
        · first | omega | (unfold xI; omega) | exact ⟨by decide, by unfold xI; omega⟩ | (exfalso; omega)
        refine ⟨?_, ?_⟩
        · first | omega | (unfold xI; omega) | exact ⟨by decide, by unfold xI; omega⟩ | (exfalso; omega)
        refine ⟨?_, ?_⟩
        · first | omega | (unfold xI; omega) | exact ⟨by decide, by unfold xI; omega⟩ | (exfalso; omega)
        refine ⟨?_, ?_⟩
        · first | omega | (unfold xI; omega) | exact ⟨by decide, by unfold xI; omega⟩ | (exfalso; omega)
        refine ⟨?_, ?_⟩
        · first | omega | (unfold xI; omega) | exact ⟨by decide, by unfold xI; omega⟩ | (exfalso; omega)
        refine ⟨?_, ?_⟩
        · first | omega | (unfold xI; omega) | exact ⟨by decide, by unfold xI; omega⟩ | (exfalso; omega)
        exact z
  exact key (5 * n).toNat 0 h (by omega) (by decide) (mF_refl h) kn (fun k p q => absurd q (by omega)) (fun k p q => kf k p q)

theorem s_225w {X : Int × (Int → Int)} {d : Nat} {Q : Int → XH → Prop} {lo : Option (List (Int × List Int))} {n : Int} {f G : Int → Int} {T a b pa : Int} {h : XH} (hd : 8 ≤ d) {c : Int} (K : wMo lo n f G T a b pa h) (ppa : 0 ≤ pa ∧ pa ≤ 1177) (g : gdI G T a b c) (I : wkI n f) (hQ : ∀ h1, mF h h1 → wMo lo (wqW lo (wdW G T a b c) G T n f).1 (wqW lo (wdW G T a b c) G T n f).2 G T a b pa h1 → Q 0 h1) : xc X d 225 [(2, 67), (0, pa), (0, c)] h Q := by
  cases d with
  | zero => omega
  | succ d =>
  have tl : ∀ h', mF h h' → wMo lo n f G T a b pa h' → ∀ x, x = max 0 (min 100 (tlV lo (wdW G T a b c n f) 1 0)) → xq X d 225 Q 31 [(0, (2, 67)), (1, (0, pa)), (2, (0, c)), (3, (0, x)), (4, (0, 0))] [] h' := fun h' F' K' x ex => t_225_31 (by omega) x (by omega) K' ppa g I ex (fun h1 F1 K1 => hQ h1 (mF_trans F' F1) K1)
  refine U_225 (by omega) pa c h ?_
  refine s_218w (by omega) K ppa I g (fun h1 F1 K1 V1 => ?_)
  refine s_222w (by omega) (w := wdW G T a b c n f) 1 0 K1 V1 (wdV_rng I.1 I.2.1 g) (by decide) (by decide) (fun J2277 h2 e2 F2 K2 V2 => ?_)
  refine ⟨fun c1 => ?_, fun c1 => ?_⟩
  · skip
    exact tl _ (mF_trans F1 F2) K2 _ (by rw [← e2]; first | omega | (split <;> omega))
  · skip
    exact tl _ (mF_trans F1 F2) K2 _ (by rw [← e2]; first | omega | (split <;> omega))

theorem U_226 {X : Int × (Int → Int)} {d : Nat} {Q : Int → XH → Prop} (hd : 0 ≤ d) (s : Int) (H : XH) (h : xq X d 226 Q 7 [(0, (2, 67)), (1, (0, s)), (2, (0, 0))] [] (xup H 67 47 0)) : xc X (d + 1) 226 [(2, 67), (0, s)] H Q := by
  refine ⟨rfl, ?_⟩
  show xq X d 226 Q 100000 [(0, (2, 67)), (1, (0, s))] [] H
  refine xq_run [7, 44, 53] 300 ?_
  show xq X d 226 Q 7 [(0, (2, 67)), (1, (0, s)), (2, (0, 0))] [] (xup H 67 47 0)
  exact h
theorem U_226_7 {X : Int × (Int → Int)} {d : Nat} {Q : Int → XH → Prop} (hd : 4 ≤ d) (v1 v2 : Int) (H : XH) (h : (xI (610 + v1)) ∧ ((0 : Int) ≤ 610 + v1 ∧ (610 + v1 : Int) < 1180) ∧ ((H 68 (610 + v1) ≤ v2) → Q 0 H) ∧ (¬ (H 68 (610 + v1) ≤ v2) → (xI (60 * v1)) ∧ (xI (620 + (60 * v1))) ∧ (xI (3 * v2)) ∧ (xI ((620 + (60 * v1)) + (3 * v2))) ∧ ((0 : Int) ≤ (620 + (60 * v1)) + (3 * v2) ∧ ((620 + (60 * v1)) + (3 * v2) : Int) < 1180) ∧ (GOk (H 67 0) (H 67 1) (H 68)) ∧ (0 ≤ H 68 ((620 + (60 * v1)) + (3 * v2)) ∧ H 68 ((620 + (60 * v1)) + (3 * v2)) < H 67 1) ∧ (∀ (h2278 : XH), (frM H h2278 ∧ h2278 67 14 = soT (H 67 0) (H 67 1) (H 68) (H 68 ((620 + (60 * v1)) + (3 * v2))) ∧ (∀ s, 0 ≤ s → s < 5 → h2278 76 s = soF (H 67 0) (H 67 1) (H 68) (H 68 ((620 + (60 * v1)) + (3 * v2))) s) ∧ (∀ o, ¬ o = 67 → ¬ o = 76 → h2278 o = H o) ∧ ∀ k, ¬ k = 14 → h2278 67 k = H 67 k) → (((¬ soT (H 67 0) (H 67 1) (H 68) (H 68 ((620 + (60 * v1)) + (3 * v2))) < 1)) → (xc X d 225 [(2, 67), (0, (620 + (60 * v1)) + (3 * v2)), (0, v2)] h2278 (fun (J2280 : Int) (h2279 : XH) => (xI (v2 + 1)) ∧ xq X d 226 Q 7 [(0, (2, 67)), (1, (0, v1)), (2, (0, v2 + 1))] [] h2279))) ∧ (¬ ((¬ soT (H 67 0) (H 67 1) (H 68) (H 68 ((620 + (60 * v1)) + (3 * v2))) < 1)) → (xI (v2 + 1)) ∧ xq X d 226 Q 7 [(0, (2, 67)), (1, (0, v1)), (2, (0, v2 + 1))] [] h2278)))) : xq X d 226 Q 7 [(0, (2, 67)), (1, (0, v1)), (2, (0, v2))] [] H := by
  show xq X d 226 Q 7 [(0, (2, 67)), (1, (0, v1)), (2, (0, v2))] [] H
  refine xq_run [7, 44, 53] 300 ?_
  show (xI (610 + v1)) ∧ ((0 : Int) ≤ 610 + v1 ∧ (610 + v1 : Int) < 1180) ∧ ((H 68 (610 + v1) ≤ v2) → xfR 2 0 ∧ xKZ = xKZ ∧ Q 0 H) ∧ (¬ (H 68 (610 + v1) ≤ v2) → (xI (60 * v1)) ∧ (xI (620 + (60 * v1))) ∧ (xI (3 * v2)) ∧ (xI ((620 + (60 * v1)) + (3 * v2))) ∧ ((0 : Int) ≤ (620 + (60 * v1)) + (3 * v2) ∧ ((620 + (60 * v1)) + (3 * v2) : Int) < 1180) ∧ xWM (xE X) xMC d 43 [(2, 67), (0, H 68 ((620 + (60 * v1)) + (3 * v2)))] xKZ H _)
  refine ⟨h.1, ?_⟩
  replace h := h.2
  refine ⟨h.1, ?_⟩
  replace h := h.2
  refine ⟨fun k_ => ?_, fun k_ => ?_⟩
  · replace h := h.1 k_
    exact ⟨trivial, rfl, h⟩
  · replace h := h.2 k_
    refine ⟨h.1, ?_⟩
    replace h := h.2
    refine ⟨h.1, ?_⟩
    replace h := h.2
    refine ⟨h.1, ?_⟩
    replace h := h.2
    refine ⟨h.1, ?_⟩
    replace h := h.2
    refine ⟨h.1, ?_⟩
    replace h := h.2
    refine xc_in (s_43h (by omega) (H 68 ((620 + (60 * v1)) + (3 * v2))) H (h.1) (h.2.1) ?_)
    intro h2278 q_0
    replace h := h.2.2 h2278 q_0
    show xq X d 226 Q 44 [(3, (0, (620 + (60 * v1)) + (3 * v2))), (0, (2, 67)), (1, (0, v1)), (2, (0, v2))] [(0, xb (¬ soT (H 67 0) (H 67 1) (H 68) (H 68 ((620 + (60 * v1)) + (3 * v2))) < 1))] h2278
    refine xq_run [7, 44, 53] 300 ?_
    show ((xb (¬ soT (H 67 0) (H 67 1) (H 68) (H 68 ((620 + (60 * v1)) + (3 * v2))) < 1) = 0) → xq X d 226 Q 53 [(3, (0, (620 + (60 * v1)) + (3 * v2))), (0, (2, 67)), (1, (0, v1)), (2, (0, v2))] [] h2278) ∧ (¬ (xb (¬ soT (H 67 0) (H 67 1) (H 68) (H 68 ((620 + (60 * v1)) + (3 * v2))) < 1) = 0) → xWM (xE X) xMC d 225 [(2, 67), (0, (620 + (60 * v1)) + (3 * v2)), (0, v2)] xKZ h2278 _)
    refine ⟨fun k_ => ?_, fun k_ => ?_⟩
    · replace h := h.2 (xbe_0.mp k_)
      show xq X d 226 Q 53 [(3, (0, (620 + (60 * v1)) + (3 * v2))), (0, (2, 67)), (1, (0, v1)), (2, (0, v2))] [] h2278
      refine xq_run [7, 44, 53] 300 ?_
      show (xI (v2 + 1)) ∧ xq X d 226 Q 7 [(0, (2, 67)), (1, (0, v1)), (2, (0, v2 + 1))] [] h2278
      refine ⟨h.1, ?_⟩
      replace h := h.2
      exact h
    · replace h := h.1 (xbe_1.mp k_)
      refine xc_in (xc_mono (fun J2280 h2279 q_ => ?_) h)
      replace h := q_
      show xq X d 226 Q 53 [(3, (0, (620 + (60 * v1)) + (3 * v2))), (0, (2, 67)), (1, (0, v1)), (2, (0, v2))] [] h2279
      refine xq_run [7, 44, 53] 300 ?_
      show (xI (v2 + 1)) ∧ xq X d 226 Q 7 [(0, (2, 67)), (1, (0, v1)), (2, (0, v2 + 1))] [] h2279
      refine ⟨h.1, ?_⟩
      replace h := h.2
      exact h

/-- the law that is now, as the model has it -/
def loM (lo : Option (List (Int × List Int))) (H : XH) : Prop := match lo with
  | none => H 68 3 = -1
  | some L => ∃ t, H 68 3 = t ∧ (0 ≤ t ∧ t ≤ 3) ∧ lawM t L H
def mF2 (H h : XH) : Prop := (∀ o, ¬ o = 67 → ¬ (76 ≤ o ∧ o ≤ 78) → ¬ (94 ≤ o ∧ o ≤ 96) → h o = H o) ∧ ∀ k, ¬ k = 47 → ¬ k = 14 → h 67 k = H 67 k
theorem mF2_of {H h : XH} (a : mF H h) : mF2 H h := ⟨fun o p q r => a.1 o p (by omega) r, fun k p _ => a.2 k p⟩
theorem mF2_trans {H h h1 : XH} (a : mF2 H h) (b : mF2 h h1) : mF2 H h1 := ⟨fun o p q r => (b.1 o p q r).trans (a.1 o p q r), fun k p q => (b.2 k p q).trans (a.2 k p q)⟩
theorem s_226w {X : Int × (Int → Int)} {d : Nat} {Q : Int → XH → Prop} (hd : 9 ≤ d) {lo : Option (List (Int × List Int))} (s : Int) (H : XH) (hg : GOk (H 67 0) (H 67 1) (H 68)) (hl : lwN lo H) (ps : 0 ≤ s ∧ s ≤ 3) (hQ : ∀ h1, mF2 H h1 → (h1 67 47 = (wkW lo (H 67 0) (H 67 1) (H 68) s).1 ∧ ∀ k, 0 ≤ k → k < 5 * (wkW lo (H 67 0) (H 67 1) (H 68) s).1 → h1 96 k = (wkW lo (H 67 0) (H 67 1) (H 68) s).2 k) → Q 0 h1) : xc X d 226 [(2, 67), (0, s)] H Q := by
  cases d with
  | zero => omega
  | succ d =>
  have nn := hg.nn
  have ww := hg.ww
  have lyb := hg.lyb
  have bnd := hg.bnd
  have cnt := hg.spc s ps.1 (by omega)
  unfold wkW at hQ
  generalize eZ : wkS lo (H 67 0) (H 67 1) (H 68) s (H 68 (610 + s)).toNat 0 0 (fun _ => 0) = Z at hQ
  have key : ∀ (r : Nat) (k n : Int) (f : Int → Int) (h' : XH), k + (r : Int) = H 68 (610 + s) → 0 ≤ k → mF2 H h' → h' 67 47 = n → (∀ j, 0 ≤ j → j < 5 * n → h' 96 j = f j) → wkI n f → wkS lo (H 67 0) (H 67 1) (H 68) s r k n f = Z → xq X d 226 Q 7 [(0, (2, 67)), (1, (0, s)), (2, (0, k))] [] h' := by
    intro r
    induction r with
    | zero =>
      intro k n f h' ek h0 F kn kf I ez
      have e68 : h' 68 = H 68 := F.1 68 (by decide) (by decide) (by decide)
      have z := hQ h' F (by rw [← ez]; exact ⟨kn, kf⟩)
      refine U_226_7 (by omega) s k h' ?_
      rw [e68]
      refine ⟨?_, ?_⟩
      · first | omega | (unfold xI; omega) | (unfold xJ; omega) | (exfalso; omega)
      refine ⟨?_, ?_⟩
      · first | omega | (unfold xI; omega) | (unfold xJ; omega) | (exfalso; omega)
      refine ⟨fun c1 => ?_, fun c1 => ?_⟩
      · skip
        exact z
      · skip
        refine ⟨?_, ?_⟩
        · first | omega | (unfold xI; omega) | (unfold xJ; omega) | (exfalso; omega)
        refine ⟨?_, ?_⟩
        · first | omega | (unfold xI; omega) | (unfold xJ; omega) | (exfalso; omega)
        refine ⟨?_, ?_⟩
        · first | omega | (unfold xI; omega) | (unfold xJ; omega) | (exfalso; omega)
        refine ⟨?_, ?_⟩
        · first | omega | (unfold xI; omega) | (unfold xJ; omega) | (exfalso; omega)
        refine ⟨?_, ?_⟩
        · first | omega | (unfold xI; omega) | (unfold xJ; omega) | (exfalso; omega)
        refine ⟨?_, ?_⟩
        · first | omega | (unfold xI; omega) | (unfold xJ; omega) | (exfalso; omega)
        refine ⟨?_, ?_⟩
        · first | omega | (unfold xI; omega) | (unfold xJ; omega) | (exfalso; omega)
        intro h2281 c2
        refine ⟨fun c3 => ?_, fun c3 => ?_⟩
        · skip
          exfalso
          omega
        · skip
          refine ⟨?_, ?_⟩
          · first | omega | (unfold xI; omega) | (unfold xJ; omega) | (exfalso; omega)
          exfalso
          omega
    | succ r ih =>
      intro k n f h' ek h0 F kn kf I ez
      have e68 : h' 68 = H 68 := F.1 68 (by decide) (by decide) (by decide)
      have e0 : h' 67 0 = H 67 0 := F.2 0 (by decide) (by decide)
      have e1 : h' 67 1 = H 67 1 := F.2 1 (by decide) (by decide)
      have bb := hg.spb s k ps.1 (by omega) h0 (by omega)
      have ex : (620 + 60 * s) + 3 * k = 620 + (60 * s + 3 * k) := by omega
      refine U_226_7 (by omega) s k h' ?_
      rw [e68, e0, e1, ex]
      obtain ⟨c, ec⟩ : ∃ c, H 68 (620 + (60 * s + 3 * k)) = c := ⟨_, rfl⟩
      obtain ⟨wt, ew⟩ : ∃ c, H 68 (621 + (60 * s + 3 * k)) = c := ⟨_, rfl⟩
      obtain ⟨hr, eh⟩ : ∃ c, H 68 (622 + (60 * s + 3 * k)) = c := ⟨_, rfl⟩
      rw [ec, ew, eh] at bb
      rw [ec]
      refine ⟨?_, ?_⟩
      · first | omega | exact hg | exact bb.1 | (unfold xI; omega) | (exfalso; omega)
      refine ⟨?_, ?_⟩
      · first | omega | exact hg | exact bb.1 | (unfold xI; omega) | (exfalso; omega)
      refine ⟨fun c1 => ?_, fun c1 => ?_⟩
      · skip
        exfalso
        omega
      · skip
        refine ⟨?_, ?_⟩
        · first | omega | exact hg | exact bb.1 | (unfold xI; omega) | (exfalso; omega)
        refine ⟨?_, ?_⟩
        · first | omega | exact hg | exact bb.1 | (unfold xI; omega) | (exfalso; omega)
        refine ⟨?_, ?_⟩
        · first | omega | exact hg | exact bb.1 | (unfold xI; omega) | (exfalso; omega)
        refine ⟨?_, ?_⟩
        · first | omega | exact hg | exact bb.1 | (unfold xI; omega) | (exfalso; omega)
        refine ⟨?_, ?_⟩
        · first | omega | exact hg | exact bb.1 | (unfold xI; omega) | (exfalso; omega)
        refine ⟨?_, ?_⟩
        · first | omega | exact hg | exact bb.1 | (unfold xI; omega) | (exfalso; omega)
        refine ⟨?_, ?_⟩
        · first | omega | exact hg | exact bb.1 | (unfold xI; omega) | (exfalso; omega)
        intro h2284 c2
        obtain ⟨u1, u2, u3, u4, u5⟩ := c2
        have FB : mF2 H _ := mF2_trans F (⟨fun o p q r => u4 o p (by omega), fun k _ q => u5 k q⟩ : mF2 h' _)
        refine ⟨fun c3 => ?_, fun c3 => ?_⟩
        · skip
          have q : ¬ soT (H 67 0) (H 67 1) (H 68) c < 1 := by omega
          have gd : gdI (soF (H 67 0) (H 67 1) (H 68) c) (soT (H 67 0) (H 67 1) (H 68) c) wt hr k := by
            have z := stp_gd hg ps (k := k) ⟨h0, by omega⟩ (by rw [ec]; exact q)
            rw [ec, ew, eh] at z
            exact z
          have g68 := (u4 68 (by decide) (by decide)).trans e68
          refine s_225w (by omega) (lo := lo) (n := n) (f := f) (G := soF (H 67 0) (H 67 1) (H 68) c) (T := soT (H 67 0) (H 67 1) (H 68) c) (a := wt) (b := hr) ⟨lwN_fr (fun o y => (FB.1 o (by omega) (by omega) (by omega))) hl, u2, u3, ⟨by rw [u5 47 (by decide)]; exact kn, by rw [u4 96 (by decide) (by decide)]; exact kf⟩, by rw [g68, ← ew]; congr 1; omega, by rw [g68, ← eh]; congr 1; omega⟩ (by omega) gd I (fun hD FD KD => ?_)
          refine ⟨?_, ?_⟩
          · first | omega | exact hg | exact bb.1 | (unfold xI; omega) | (exfalso; omega)
          exact ih (k + 1) _ _ hD (by omega) (by omega) (mF2_trans FB (mF2_of FD)) KD.2.2.2.1.1 KD.2.2.2.1.2 (wqW_ok gd I) (by rw [← wkS_1 ec ew eh rfl rfl q]; exact ez)
        · skip
          refine ⟨?_, ?_⟩
          · first | omega | exact hg | exact bb.1 | (unfold xI; omega) | (exfalso; omega)
          exact ih (k + 1) n f _ (by omega) (by omega) FB (by rw [u5 47 (by decide)]; exact kn) (by rw [u4 96 (by decide) (by decide)]; exact kf) I (by rw [← wkS_0 (by rw [ec]; omega)]; exact ez)
  refine U_226 (by omega) s H ?_
  exact key (H 68 (610 + s)).toNat 0 0 (fun _ => 0) _ (by omega) (by decide) (mF2_of (mF_47 (mF_refl H) 0)) (xup_self _ _ _ _) (fun j a b => absurd b (by omega)) (wkI_0 _) eZ
