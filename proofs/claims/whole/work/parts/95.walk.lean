/-! THE PURE LAYER 65: the walk: the model -/
def lwN (lo : Option (List (Int × List Int))) (h : XH) : Prop := match lo with
  | none => h 68 3 = -1
  | some L => ∃ t, h 68 3 = t ∧ (0 ≤ t ∧ t ≤ 3) ∧ lawM t L h
theorem lwN_fr {lo : Option (List (Int × List Int))} {h h1 : XH} (a : ∀ o, (o = 68 ∨ (71 ≤ o ∧ o ≤ 75)) → h1 o = h o) (l : lwN lo h) : lwN lo h1 := by
  cases lo with
  | none => exact (congrFun (a 68 (by decide)) 3).trans l
  | some L =>
    obtain ⟨t, l1, l2, l3, l4, l5, l6, l7, l8⟩ := l
    refine ⟨t, (congrFun (a 68 (by decide)) 3).trans l1, l2, l3, l4, l5, by rw [a 71 (by decide)]; exact l6, fun k q => ?_, fun k q => ?_⟩
    · rw [a 72 (by decide), a 73 (by decide)]
      exact l7 k q
    · rw [a 74 (by decide), a 75 (by decide)]
      exact l8 k q
theorem lwN_ok {lo : Option (List (Int × List Int))} {h : XH} (l : lwN lo h) : loOk lo := fun L e p hp => by
  subst e
  obtain ⟨t, -, -, l3, -⟩ := l
  exact l3 p hp
def wMo (lo : Option (List (Int × List Int))) (n : Int) (f G : Int → Int) (T a b pa : Int) (h : XH) : Prop := lwN lo h ∧ h 67 14 = T ∧ (∀ s, 0 ≤ s → s < 5 → h 76 s = G s) ∧ (h 67 47 = n ∧ ∀ k, 0 ≤ k → k < 5 * n → h 96 k = f k) ∧ h 68 (pa + 1) = a ∧ h 68 (pa + 2) = b
def mF (H h : XH) : Prop := (∀ o, ¬ o = 67 → ¬ (77 ≤ o ∧ o ≤ 78) → ¬ (94 ≤ o ∧ o ≤ 96) → h o = H o) ∧ ∀ k, ¬ k = 47 → h 67 k = H 67 k
theorem mF_refl (H : XH) : mF H H := ⟨fun _ _ _ _ => rfl, fun _ _ => rfl⟩
theorem mF_trans {H h h1 : XH} (a : mF H h) (b : mF h h1) : mF H h1 := ⟨fun o p q r => (b.1 o p q r).trans (a.1 o p q r), fun k p => (b.2 k p).trans (a.2 k p)⟩
theorem mF_up {H h : XH} (a : mF H h) {o k v : Int} (q : (77 ≤ o ∧ o ≤ 78) ∨ (94 ≤ o ∧ o ≤ 96)) : mF H (xup h o k v) := ⟨fun p r s t => by
  rw [xup_ne (by omega)]
  exact a.1 p r s t, fun j r => by
  rw [xup_ne (by omega)]
  exact a.2 j r⟩
theorem mF_47 {H h : XH} (a : mF H h) (v : Int) : mF H (xup h 67 47 v) := ⟨fun p r s t => by
  rw [xup_ne r]
  exact a.1 p r s t, fun j r => by
  rw [xup_k r]
  exact a.2 j r⟩
theorem mF_jM {H h : XH} (a : jM H h) : mF H h := ⟨fun o _ _ q => a o (by omega), fun k _ => by rw [a 67 (by decide)]⟩
theorem wMo_fr {lo : Option (List (Int × List Int))} {n n' : Int} {f f' G : Int → Int} {T a b pa : Int} {h h1 : XH} (K : wMo lo n f G T a b pa h) (F : mF h h1) (kn : h1 67 47 = n') (kf : ∀ k, 0 ≤ k → k < 5 * n' → h1 96 k = f' k) : wMo lo n' f' G T a b pa h1 := by
  obtain ⟨kl, kT, kG, -, ka, kb⟩ := K
  have e68 := F.1 68 (by decide) (by decide) (by decide)
  exact ⟨lwN_fr (fun o q => F.1 o (by omega) (by omega) (by omega)) kl, by rw [F.2 14 (by decide)]; exact kT, by rw [F.1 76 (by decide) (by decide) (by decide)]; exact kG, ⟨kn, kf⟩, by rw [e68]; exact ka, by rw [e68]; exact kb⟩

theorem U_218 {X : Int × (Int → Int)} {d : Nat} {Q : Int → XH → Prop} (hd : 0 ≤ d) (a b : Int) (H : XH) (h : (xI (a + 1)) ∧ ((0 : Int) ≤ a + 1 ∧ (a + 1 : Int) < 1180) ∧ (xI (a + 2)) ∧ ((0 : Int) ≤ a + 2 ∧ (a + 2 : Int) < 1180) ∧ xq X d 218 Q 30 [(0, (2, 67)), (2, (0, b)), (3, (0, 0))] [] (xup (xup H 94 0 (H 68 (a + 1))) 94 1 (H 68 (a + 2)))) : xc X (d + 1) 218 [(2, 67), (0, a), (0, b)] H Q := by
  refine ⟨rfl, ?_⟩
  show xq X d 218 Q 100000 [(0, (2, 67)), (1, (0, a)), (2, (0, b))] [] H
  refine xq_run [30, 95, 181] 300 ?_
  show (xI (a + 1)) ∧ ((0 : Int) ≤ a + 1 ∧ (a + 1 : Int) < 1180) ∧ ((0 : Int) ≤ 0 ∧ (0 : Int) < 11) ∧ (xI (a + 2)) ∧ ((0 : Int) ≤ a + 2 ∧ (a + 2 : Int) < 1180) ∧ ((0 : Int) ≤ 1 ∧ (1 : Int) < 11) ∧ xq X d 218 Q 30 [(0, (2, 67)), (2, (0, b)), (3, (0, 0))] [] (xup (xup H 94 0 (H 68 (a + 1))) 94 1 (H 68 (a + 2)))
  refine ⟨h.1, ?_⟩
  replace h := h.2
  refine ⟨h.1, ?_⟩
  replace h := h.2
  refine ⟨⟨by decide, by decide⟩, ?_⟩
  refine ⟨h.1, ?_⟩
  replace h := h.2
  refine ⟨h.1, ?_⟩
  replace h := h.2
  refine ⟨⟨by decide, by decide⟩, ?_⟩
  exact h
theorem U_218_30 {X : Int × (Int → Int)} {d : Nat} {Q : Int → XH → Prop} (hd : 0 ≤ d) (v2 v3 : Int) (H : XH) (h : ((5 ≤ v3) → xq X d 218 Q 95 [(0, (2, 67)), (2, (0, v2)), (3, (0, 0))] [] (xup (xup (xup H 94 7 (H 67 47)) 94 8 0) 94 9 1000)) ∧ (¬ (5 ≤ v3) → (xI (2 + v3)) ∧ ((0 : Int) ≤ v3 ∧ (v3 : Int) < 5) ∧ (xI (1000 * (H 76 v3))) ∧ (¬ H 67 14 = 0 ∧ xI (Int.tdiv (1000 * (H 76 v3)) (H 67 14))) ∧ ((0 : Int) ≤ 2 + v3 ∧ (2 + v3 : Int) < 11) ∧ (xI (v3 + 1)) ∧ xq X d 218 Q 30 [(0, (2, 67)), (2, (0, v2)), (3, (0, v3 + 1))] [] (xup H 94 (2 + v3) (Int.tdiv (1000 * (H 76 v3)) (H 67 14))))) : xq X d 218 Q 30 [(0, (2, 67)), (2, (0, v2)), (3, (0, v3))] [] H := by
  show xq X d 218 Q 30 [(0, (2, 67)), (2, (0, v2)), (3, (0, v3))] [] H
  refine xq_run [30, 95, 181] 300 ?_
  show ((5 ≤ v3) → ((0 : Int) ≤ 7 ∧ (7 : Int) < 11) ∧ ((0 : Int) ≤ 8 ∧ (8 : Int) < 11) ∧ ((0 : Int) ≤ 9 ∧ (9 : Int) < 11) ∧ xq X d 218 Q 95 [(0, (2, 67)), (2, (0, v2)), (3, (0, 0))] [] (xup (xup (xup H 94 7 (H 67 47)) 94 8 0) 94 9 1000)) ∧ (¬ (5 ≤ v3) → (xI (2 + v3)) ∧ ((0 : Int) ≤ v3 ∧ (v3 : Int) < 5) ∧ (xI (1000 * (H 76 v3))) ∧ (¬ H 67 14 = 0 ∧ xI (Int.tdiv (1000 * (H 76 v3)) (H 67 14))) ∧ ((0 : Int) ≤ 2 + v3 ∧ (2 + v3 : Int) < 11) ∧ (xI (v3 + 1)) ∧ xq X d 218 Q 30 [(0, (2, 67)), (2, (0, v2)), (3, (0, v3 + 1))] [] (xup H 94 (2 + v3) (Int.tdiv (1000 * (H 76 v3)) (H 67 14))))
  refine ⟨fun k_ => ?_, fun k_ => ?_⟩
  · replace h := h.1 k_
    refine ⟨⟨by decide, by decide⟩, ?_⟩
    refine ⟨⟨by decide, by decide⟩, ?_⟩
    refine ⟨⟨by decide, by decide⟩, ?_⟩
    exact h
  · replace h := h.2 k_
    refine ⟨h.1, ?_⟩
    replace h := h.2
    refine ⟨h.1, ?_⟩
    replace h := h.2
    refine ⟨h.1, ?_⟩
    replace h := h.2
    refine ⟨h.1, ?_⟩
    replace h := h.2
    refine ⟨h.1, ?_⟩
    replace h := h.2
    refine ⟨h.1, ?_⟩
    replace h := h.2
    exact h
theorem U_218_95 {X : Int × (Int → Int)} {d : Nat} {Q : Int → XH → Prop} (hd : 1 ≤ d) (v2 v3 : Int) (H : XH) (h : ((5 ≤ v3) → ((H 67 47 ≤ 0) → Q 0 (xup H 94 10 v2)) ∧ (¬ (H 67 47 ≤ 0) → (∀ s, 0 ≤ s → s < 5 → 0 ≤ H 77 s ∧ H 77 s ≤ 1000) ∧ (∀ s, 0 ≤ s → s < 5 → 0 ≤ H 78 s ∧ H 78 s ≤ 20000000) ∧ (1 ≤ sum5 (H 77) 0) ∧ (1 ≤ sum5 (H 78) 0) ∧ (Q 0 (xup (xup H 94 9 (farV (H 77) (H 78))) 94 10 v2)))) ∧ (¬ (5 ≤ v3) → ((H 67 47 ≤ 0) → ((H 67 47 ≤ 0) → Q 0 (xup H 94 10 v2)) ∧ (¬ (H 67 47 ≤ 0) → (∀ s, 0 ≤ s → s < 5 → 0 ≤ H 77 s ∧ H 77 s ≤ 1000) ∧ (∀ s, 0 ≤ s → s < 5 → 0 ≤ H 78 s ∧ H 78 s ≤ 20000000) ∧ (1 ≤ sum5 (H 77) 0) ∧ (1 ≤ sum5 (H 78) 0) ∧ (Q 0 (xup (xup H 94 9 (farV (H 77) (H 78))) 94 10 v2)))) ∧ (¬ (H 67 47 ≤ 0) → (xI (5 * (H 67 47))) ∧ (xI ((5 * (H 67 47)) - 5)) ∧ (xI (((5 * (H 67 47)) - 5) + v3)) ∧ ((0 : Int) ≤ ((5 * (H 67 47)) - 5) + v3 ∧ (((5 * (H 67 47)) - 5) + v3 : Int) < 40) ∧ (xI ((H 94 8) + (H 96 (((5 * (H 67 47)) - 5) + v3)))) ∧ ((0 : Int) ≤ v3 ∧ (v3 : Int) < 5) ∧ ((0 : Int) ≤ v3 ∧ (v3 : Int) < 5) ∧ ((0 : Int) ≤ v3 ∧ (v3 : Int) < 5) ∧ (xI (v3 + 1)) ∧ xq X d 218 Q 95 [(0, (2, 67)), (2, (0, v2)), (3, (0, v3 + 1))] [] (xup (xup (xup H 94 8 ((H 94 8) + (H 96 (((5 * (H 67 47)) - 5) + v3)))) 77 v3 (H 96 (((5 * (H 67 47)) - 5) + v3))) 78 v3 (H 76 v3))))) : xq X d 218 Q 95 [(0, (2, 67)), (2, (0, v2)), (3, (0, v3))] [] H := by
  show xq X d 218 Q 95 [(0, (2, 67)), (2, (0, v2)), (3, (0, v3))] [] H
  refine xq_run [30, 95, 181] 300 ?_
  show ((5 ≤ v3) → ((H 67 47 ≤ 0) → ((0 : Int) ≤ 10 ∧ (10 : Int) < 11) ∧ xfR 2 0 ∧ xKZ = xKZ ∧ Q 0 (xup H 94 10 v2)) ∧ (¬ (H 67 47 ≤ 0) → xWM (xE X) xMC d 65 [(2, 67)] xKZ H _)) ∧ (¬ (5 ≤ v3) → ((H 67 47 ≤ 0) → ((H 67 47 ≤ 0) → ((0 : Int) ≤ 10 ∧ (10 : Int) < 11) ∧ xfR 2 0 ∧ xKZ = xKZ ∧ Q 0 (xup H 94 10 v2)) ∧ (¬ (H 67 47 ≤ 0) → xWM (xE X) xMC d 65 [(2, 67)] xKZ H _)) ∧ (¬ (H 67 47 ≤ 0) → (xI (5 * (H 67 47))) ∧ (xI ((5 * (H 67 47)) - 5)) ∧ (xI (((5 * (H 67 47)) - 5) + v3)) ∧ ((0 : Int) ≤ ((5 * (H 67 47)) - 5) + v3 ∧ (((5 * (H 67 47)) - 5) + v3 : Int) < 40) ∧ ((0 : Int) ≤ 8 ∧ (8 : Int) < 11) ∧ (xI ((H 94 8) + (H 96 (((5 * (H 67 47)) - 5) + v3)))) ∧ ((0 : Int) ≤ 8 ∧ (8 : Int) < 11) ∧ ((0 : Int) ≤ v3 ∧ (v3 : Int) < 5) ∧ ((0 : Int) ≤ v3 ∧ (v3 : Int) < 5) ∧ ((0 : Int) ≤ v3 ∧ (v3 : Int) < 5) ∧ (xI (v3 + 1)) ∧ xq X d 218 Q 95 [(0, (2, 67)), (2, (0, v2)), (3, (0, v3 + 1))] [] (xup (xup (xup H 94 8 ((H 94 8) + (H 96 (((5 * (H 67 47)) - 5) + v3)))) 77 v3 (H 96 (((5 * (H 67 47)) - 5) + v3))) 78 v3 (H 76 v3))))
  refine ⟨fun k_ => ?_, fun k_ => ?_⟩
  · replace h := h.1 k_
    refine ⟨fun k_ => ?_, fun k_ => ?_⟩
    · replace h := h.1 k_
      refine ⟨⟨by decide, by decide⟩, ?_⟩
      exact ⟨trivial, rfl, h⟩
    · replace h := h.2 k_
      refine xc_in (s_65 (by omega) H (h.1) (h.2.1) (h.2.2.1) (h.2.2.2.1) ?_)
      replace h := h.2.2.2.2
      show xq X d 218 Q 181 [(0, (2, 67)), (2, (0, v2)), (3, (0, v3))] [(0, farV (H 77) (H 78)), (0, 9), (2, 94)] H
      refine xq_run [30, 95, 181] 300 ?_
      show ((0 : Int) ≤ 9 ∧ (9 : Int) < 11) ∧ ((0 : Int) ≤ 10 ∧ (10 : Int) < 11) ∧ xfR 2 0 ∧ xKZ = xKZ ∧ Q 0 (xup (xup H 94 9 (farV (H 77) (H 78))) 94 10 v2)
      refine ⟨⟨by decide, by decide⟩, ?_⟩
      refine ⟨⟨by decide, by decide⟩, ?_⟩
      exact ⟨trivial, rfl, h⟩
  · replace h := h.2 k_
    refine ⟨fun k_ => ?_, fun k_ => ?_⟩
    · replace h := h.1 k_
      refine ⟨fun k_ => ?_, fun k_ => ?_⟩
      · replace h := h.1 k_
        refine ⟨⟨by decide, by decide⟩, ?_⟩
        exact ⟨trivial, rfl, h⟩
      · replace h := h.2 k_
        refine xc_in (s_65 (by omega) H (h.1) (h.2.1) (h.2.2.1) (h.2.2.2.1) ?_)
        replace h := h.2.2.2.2
        show xq X d 218 Q 181 [(0, (2, 67)), (2, (0, v2)), (3, (0, v3))] [(0, farV (H 77) (H 78)), (0, 9), (2, 94)] H
        refine xq_run [30, 95, 181] 300 ?_
        show ((0 : Int) ≤ 9 ∧ (9 : Int) < 11) ∧ ((0 : Int) ≤ 10 ∧ (10 : Int) < 11) ∧ xfR 2 0 ∧ xKZ = xKZ ∧ Q 0 (xup (xup H 94 9 (farV (H 77) (H 78))) 94 10 v2)
        refine ⟨⟨by decide, by decide⟩, ?_⟩
        refine ⟨⟨by decide, by decide⟩, ?_⟩
        exact ⟨trivial, rfl, h⟩
    · replace h := h.2 k_
      refine ⟨h.1, ?_⟩
      replace h := h.2
      refine ⟨h.1, ?_⟩
      replace h := h.2
      refine ⟨h.1, ?_⟩
      replace h := h.2
      refine ⟨h.1, ?_⟩
      replace h := h.2
      refine ⟨⟨by decide, by decide⟩, ?_⟩
      refine ⟨h.1, ?_⟩
      replace h := h.2
      refine ⟨⟨by decide, by decide⟩, ?_⟩
      refine ⟨h.1, ?_⟩
      replace h := h.2
      refine ⟨h.1, ?_⟩
      replace h := h.2
      refine ⟨h.1, ?_⟩
      replace h := h.2
      refine ⟨h.1, ?_⟩
      replace h := h.2
      exact h

theorem s_218w {X : Int × (Int → Int)} {d : Nat} {Q : Int → XH → Prop} {lo : Option (List (Int × List Int))} {n : Int} {f G : Int → Int} {T a b pa : Int} {h : XH} (hd : 5 ≤ d) {c : Int} (K : wMo lo n f G T a b pa h) (ppa : 0 ≤ pa ∧ pa ≤ 1177) (I : wkI n f) (g : gdI G T a b c) (hQ : ∀ h1, mF h h1 → wMo lo n f G T a b pa h1 → (∀ i, 0 ≤ i → i ≤ 10 → h1 94 i = wdW G T a b c n f i) → Q 0 h1) : xc X d 218 [(2, 67), (0, pa), (0, c)] h Q := by
  cases d with
  | zero => omega
  | succ d =>
  have K0 := K
  obtain ⟨kl, kT, kG, ⟨kn, kf⟩, ka, kb⟩ := K
  have I1 := I.1
  have gT := gdI_T g
  -- the heap at the end
  have fin : ∀ (h' : XH) (x8 x9 : Int), mF h h' → h' 67 47 = n → (∀ k, 0 ≤ k → k < 5 * n → h' 96 k = f k) → (∀ k, 0 ≤ k → k ≤ 7 → h' 94 k = wdV n f G T a b c k) → h' 94 8 = wdV n f G T a b c 8 → h' 94 9 = wdV n f G T a b c 9 → Q 0 (xup h' 94 10 c) := fun h' x8 x9 F kn' kf' k7 k8 k9 => by
    have F2 : mF h (xup h' 94 10 c) := mF_up F (by decide)
    refine hQ _ F2 (wMo_fr K0 F2 (by rw [xup_ne (by decide)]; exact kn') (by rw [xup_ne (by decide)]; exact kf')) (fun i p q => ?_)
    rcases (show i = 10 ∨ i = 9 ∨ i = 8 ∨ i ≤ 7 by omega) with e | e | e | e
    · subst e
      rw [xup_self]
      rfl
    · subst e
      rw [xup_k (by decide)]
      exact k9
    · subst e
      rw [xup_k (by decide)]
      exact k8
    · rw [xup_k (by omega)]
      exact k7 i p e
  -- the mass and what lies outermost
  have last : ∀ (h' : XH), mF h h' → h' 67 47 = n → (∀ k, 0 ≤ k → k < 5 * n → h' 96 k = f k) → (∀ k, 0 ≤ k → k ≤ 7 → h' 94 k = wdV n f G T a b c k) → h' 94 8 = 0 → h' 94 9 = 1000 → xq X d 218 Q 95 [(0, (2, 67)), (2, (0, c)), (3, (0, 0))] [] h' := fun h' F kn' kf' k7 k8 k9 => by
    by_cases q : n ≤ 0
    · have z := fin h' 0 0 F kn' kf' k7 (by rw [k8, wdV_8, if_neg (by omega)]) (by rw [k9, wdV_9, if_pos (by omega)])
      refine U_218_95 (by omega) c 0 h' ?_
      rw [kn']
      refine ⟨fun c1 => ?_, fun c1 => ?_⟩
      · skip
        refine ⟨fun c2 => ?_, fun c2 => ?_⟩
        · skip
          first | (exfalso; omega) | exact z
        · skip
          refine ⟨?_, ?_⟩
          · first | omega | (unfold xI; omega) | (unfold xJ; omega) | (exfalso; omega)
          refine ⟨?_, ?_⟩
          · first | omega | (unfold xI; omega) | (unfold xJ; omega) | (exfalso; omega)
          refine ⟨?_, ?_⟩
          · first | omega | (unfold xI; omega) | (unfold xJ; omega) | (exfalso; omega)
          refine ⟨?_, ?_⟩
          · first | omega | (unfold xI; omega) | (unfold xJ; omega) | (exfalso; omega)
          first | (exfalso; omega) | exact z
      · skip
        refine ⟨fun c3 => ?_, fun c3 => ?_⟩
        · skip
          refine ⟨fun c4 => ?_, fun c4 => ?_⟩
          · skip
            first | (exfalso; omega) | exact z
          · skip
            refine ⟨?_, ?_⟩
            · first | omega | (unfold xI; omega) | (unfold xJ; omega) | (exfalso; omega)
            refine ⟨?_, ?_⟩
            · first | omega | (unfold xI; omega) | (unfold xJ; omega) | (exfalso; omega)
            refine ⟨?_, ?_⟩
            · first | omega | (unfold xI; omega) | (unfold xJ; omega) | (exfalso; omega)
            refine ⟨?_, ?_⟩
            · first | omega | (unfold xI; omega) | (unfold xJ; omega) | (exfalso; omega)
            first | (exfalso; omega) | exact z
        · skip
          refine ⟨?_, ?_⟩
          · first | omega | (unfold xI; omega) | (unfold xJ; omega) | (exfalso; omega)
          refine ⟨?_, ?_⟩
          · first | omega | (unfold xI; omega) | (unfold xJ; omega) | (exfalso; omega)
          refine ⟨?_, ?_⟩
          · first | omega | (unfold xI; omega) | (unfold xJ; omega) | (exfalso; omega)
          refine ⟨?_, ?_⟩
          · first | omega | (unfold xI; omega) | (unfold xJ; omega) | (exfalso; omega)
          refine ⟨?_, ?_⟩
          · first | omega | (unfold xI; omega) | (unfold xJ; omega) | (exfalso; omega)
          refine ⟨?_, ?_⟩
          · first | omega | (unfold xI; omega) | (unfold xJ; omega) | (exfalso; omega)
          refine ⟨?_, ?_⟩
          · first | omega | (unfold xI; omega) | (unfold xJ; omega) | (exfalso; omega)
          refine ⟨?_, ?_⟩
          · first | omega | (unfold xI; omega) | (unfold xJ; omega) | (exfalso; omega)
          refine ⟨?_, ?_⟩
          · first | omega | (unfold xI; omega) | (unfold xJ; omega) | (exfalso; omega)
          first | (exfalso; omega) | exact z
    · have st : ∀ (s v : Int) (h3 : XH), 0 ≤ s → s < 5 → (0 ≤ v ∧ v ≤ 6000) → mF h h3 → h3 67 47 = n → (∀ k, 0 ≤ k → k < 5 * n → h3 96 k = f k) → (∀ k, ¬ k = 8 → h3 94 k = h' 94 k) → h3 94 8 = v → (∀ j, 0 ≤ j → j < s → h3 77 j = f (5 * (n - 1) + j) ∧ h3 78 j = G j) → (∀ h4, mF h h4 → h4 67 47 = n → (∀ k, 0 ≤ k → k < 5 * n → h4 96 k = f k) → (∀ k, ¬ k = 8 → h4 94 k = h' 94 k) → h4 94 8 = v + f (5 * (n - 1) + s) → (∀ j, 0 ≤ j → j < s + 1 → h4 77 j = f (5 * (n - 1) + j) ∧ h4 78 j = G j) → xq X d 218 Q 95 [(0, (2, 67)), (2, (0, c)), (3, (0, s + 1))] [] h4) → xq X d 218 Q 95 [(0, (2, 67)), (2, (0, c)), (3, (0, s))] [] h3 := fun s v h3 s0 s5 hv F3 n3 f3 w3 e3 o3 hk => by
        have x96 : h3 96 (5 * n - 5 + s) = f (5 * (n - 1) + s) := by
          rw [f3 _ (by omega) (by omega), show 5 * n - 5 + s = 5 * (n - 1) + s by omega]
        have fb := I.2.1 (5 * (n - 1) + s) (by omega) (by omega)
        have x76 : h3 76 s = G s := by
          rw [F3.1 76 (by decide) (by decide) (by decide)]
          exact kG s s0 s5
        have z := hk (xup (xup (xup h3 94 8 (v + f (5 * (n - 1) + s))) 77 s (f (5 * (n - 1) + s))) 78 s (G s)) (mF_up (mF_up (mF_up F3 (by decide)) (by decide)) (by decide)) (by rw [xup_ne (by decide), xup_ne (by decide), xup_ne (by decide)]; exact n3) (by rw [xup_ne (by decide), xup_ne (by decide), xup_ne (by decide)]; exact f3) (fun k q => by rw [xup_ne (by decide), xup_ne (by decide), xup_k q]; exact w3 k q) (by rw [xup_ne (by decide), xup_ne (by decide), xup_self]) (fun j p q => by
          by_cases e : j = s
          · subst e
            rw [xup_self, xup_ne (by decide), xup_self]
            exact ⟨rfl, rfl⟩
          · refine ⟨?_, ?_⟩
            · rw [xup_ne (by decide), xup_k e, xup_ne (by decide)]
              exact (o3 j p (by omega)).1
            · rw [xup_k e, xup_ne (by decide), xup_ne (by decide)]
              exact (o3 j p (by omega)).2)
        refine U_218_95 (by omega) c s h3 ?_
        rw [n3, e3, x96, x76]
        refine ⟨fun c1 => ?_, fun c1 => ?_⟩
        · skip
          refine ⟨fun c2 => ?_, fun c2 => ?_⟩
          · skip
            first | (exfalso; omega) | exact z
          · skip
            refine ⟨?_, ?_⟩
            · first | omega | (unfold xI; omega) | (unfold xJ; omega) | (exfalso; omega)
            refine ⟨?_, ?_⟩
            · first | omega | (unfold xI; omega) | (unfold xJ; omega) | (exfalso; omega)
            refine ⟨?_, ?_⟩
            · first | omega | (unfold xI; omega) | (unfold xJ; omega) | (exfalso; omega)
            refine ⟨?_, ?_⟩
            · first | omega | (unfold xI; omega) | (unfold xJ; omega) | (exfalso; omega)
            first | (exfalso; omega) | exact z
        · skip
          refine ⟨fun c3 => ?_, fun c3 => ?_⟩
          · skip
            refine ⟨fun c4 => ?_, fun c4 => ?_⟩
            · skip
              first | (exfalso; omega) | exact z
            · skip
              refine ⟨?_, ?_⟩
              · first | omega | (unfold xI; omega) | (unfold xJ; omega) | (exfalso; omega)
              refine ⟨?_, ?_⟩
              · first | omega | (unfold xI; omega) | (unfold xJ; omega) | (exfalso; omega)
              refine ⟨?_, ?_⟩
              · first | omega | (unfold xI; omega) | (unfold xJ; omega) | (exfalso; omega)
              refine ⟨?_, ?_⟩
              · first | omega | (unfold xI; omega) | (unfold xJ; omega) | (exfalso; omega)
              first | (exfalso; omega) | exact z
          · skip
            refine ⟨?_, ?_⟩
            · first | omega | (unfold xI; omega) | (unfold xJ; omega) | (exfalso; omega)
            refine ⟨?_, ?_⟩
            · first | omega | (unfold xI; omega) | (unfold xJ; omega) | (exfalso; omega)
            refine ⟨?_, ?_⟩
            · first | omega | (unfold xI; omega) | (unfold xJ; omega) | (exfalso; omega)
            refine ⟨?_, ?_⟩
            · first | omega | (unfold xI; omega) | (unfold xJ; omega) | (exfalso; omega)
            refine ⟨?_, ?_⟩
            · first | omega | (unfold xI; omega) | (unfold xJ; omega) | (exfalso; omega)
            refine ⟨?_, ?_⟩
            · first | omega | (unfold xI; omega) | (unfold xJ; omega) | (exfalso; omega)
            refine ⟨?_, ?_⟩
            · first | omega | (unfold xI; omega) | (unfold xJ; omega) | (exfalso; omega)
            refine ⟨?_, ?_⟩
            · first | omega | (unfold xI; omega) | (unfold xJ; omega) | (exfalso; omega)
            refine ⟨?_, ?_⟩
            · first | omega | (unfold xI; omega) | (unfold xJ; omega) | (exfalso; omega)
            first | (exfalso; omega) | exact z
      have fb : ∀ s, 0 ≤ s → s < 5 → 0 ≤ f (5 * (n - 1) + s) ∧ f (5 * (n - 1) + s) ≤ 999 := fun s p q => I.2.1 _ (by omega) (by omega)
      have f0 := fb 0 (by decide) (by decide)
      have f1 := fb 1 (by decide) (by decide)
      have f2 := fb 2 (by decide) (by decide)
      have f3 := fb 3 (by decide) (by decide)
      have f4 := fb 4 (by decide) (by decide)
      refine st 0 0 h' (by decide) (by decide) (by decide) F kn' kf' (fun _ _ => rfl) k8 (fun j p q => absurd q (by omega)) (fun h1 F1 n1 r1 w1 e1 o1 => ?_)
      refine st (0 + 1) _ h1 (by decide) (by decide) (by omega) F1 n1 r1 w1 e1 o1 (fun h2 F2 n2 r2 w2 e2 o2 => ?_)
      refine st (0 + 1 + 1) _ h2 (by decide) (by decide) (by simp only [Int.reduceAdd] at *; omega) F2 n2 r2 w2 e2 o2 (fun h3 F3 n3 r3 w3 e3 o3 => ?_)
      refine st (0 + 1 + 1 + 1) _ h3 (by decide) (by decide) (by simp only [Int.reduceAdd] at *; omega) F3 n3 r3 w3 e3 o3 (fun h4 F4 n4 r4 w4 e4 o4 => ?_)
      refine st (0 + 1 + 1 + 1 + 1) _ h4 (by decide) (by decide) (by simp only [Int.reduceAdd] at *; omega) F4 n4 r4 w4 e4 o4 (fun h5 F5 n5 r5 w5 e5 o5 => ?_)
      have e8 : h5 94 8 = wdV n f G T a b c 8 := by
        rw [e5, wdV_8, if_pos (by omega)]
        unfold sum5
        simp only [Int.reduceAdd, Int.add_zero, Int.zero_add]
      have c1 : ∀ s, 0 ≤ s → s < 5 → h5 77 s = f (5 * (n - 1) + s) := fun s p q => (o5 s p (by simp only [Int.reduceAdd]; omega)).1
      have c2 : ∀ s, 0 ≤ s → s < 5 → h5 78 s = G s := fun s p q => (o5 s p (by simp only [Int.reduceAdd]; omega)).2
      have m1 : 1 ≤ sum5 (h5 77) 0 := by
        have y := I.2.2 (n - 1) (by omega) (by omega)
        rw [← sum5_at, ← sum5_congr (f := fun s => f (5 * (n - 1) + s)) (f' := h5 77) (t := 0) (fun k p q => c1 k p (by omega))] at y
        exact y
      have m2 : 1 ≤ sum5 (h5 78) 0 := by
        rw [sum5_congr (f := G) (f' := h5 78) (t := 0) (fun k p q => c2 k p (by omega)), ← g.2.1]
        exact gT.1
      have r77 : ∀ s, 0 ≤ s → s < 5 → 0 ≤ h5 77 s ∧ h5 77 s ≤ 1000 := fun s p q => by
        rw [c1 s p q]
        have := fb s p q
        omega
      have r78 : ∀ s, 0 ≤ s → s < 5 → 0 ≤ h5 78 s ∧ h5 78 s ≤ 20000000 := fun s p q => by
        rw [c2 s p q]
        have := g.1 s p q
        omega
      have z := fin (xup h5 94 9 (farV (h5 77) (h5 78))) 0 0 (mF_up F5 (by decide)) (by rw [xup_ne (by decide)]; exact n5) (by rw [xup_ne (by decide)]; exact r5) (fun k p q => by rw [xup_k (by omega), w5 k (by omega)]; exact k7 k p q) (by rw [xup_k (by decide)]; exact e8) (by rw [xup_self, wdV_9, if_neg (by omega)]; exact farV_congr c1 c2)
      show xq X d 218 Q 95 [(0, (2, 67)), (2, (0, c)), (3, (0, 5))] [] h5
      refine U_218_95 (by omega) c 5 h5 ?_
      rw [n5]
      refine ⟨fun c1 => ?_, fun c1 => ?_⟩
      · skip
        refine ⟨fun c2 => ?_, fun c2 => ?_⟩
        · skip
          first | (exfalso; omega) | exact z
        · skip
          refine ⟨?_, ?_⟩
          · first | omega | exact r77 | exact r78 | exact m1 | exact m2 | (unfold xI; omega) | (exfalso; omega)
          refine ⟨?_, ?_⟩
          · first | omega | exact r77 | exact r78 | exact m1 | exact m2 | (unfold xI; omega) | (exfalso; omega)
          refine ⟨?_, ?_⟩
          · first | omega | exact r77 | exact r78 | exact m1 | exact m2 | (unfold xI; omega) | (exfalso; omega)
          refine ⟨?_, ?_⟩
          · first | omega | exact r77 | exact r78 | exact m1 | exact m2 | (unfold xI; omega) | (exfalso; omega)
          first | (exfalso; omega) | exact z
      · skip
        refine ⟨fun c3 => ?_, fun c3 => ?_⟩
        · skip
          refine ⟨fun c4 => ?_, fun c4 => ?_⟩
          · skip
            first | (exfalso; omega) | exact z
          · skip
            refine ⟨?_, ?_⟩
            · first | omega | exact r77 | exact r78 | exact m1 | exact m2 | (unfold xI; omega) | (exfalso; omega)
            refine ⟨?_, ?_⟩
            · first | omega | exact r77 | exact r78 | exact m1 | exact m2 | (unfold xI; omega) | (exfalso; omega)
            refine ⟨?_, ?_⟩
            · first | omega | exact r77 | exact r78 | exact m1 | exact m2 | (unfold xI; omega) | (exfalso; omega)
            refine ⟨?_, ?_⟩
            · first | omega | exact r77 | exact r78 | exact m1 | exact m2 | (unfold xI; omega) | (exfalso; omega)
            first | (exfalso; omega) | exact z
        · skip
          refine ⟨?_, ?_⟩
          · first | omega | exact r77 | exact r78 | exact m1 | exact m2 | (unfold xI; omega) | (exfalso; omega)
          refine ⟨?_, ?_⟩
          · first | omega | exact r77 | exact r78 | exact m1 | exact m2 | (unfold xI; omega) | (exfalso; omega)
          refine ⟨?_, ?_⟩
          · first | omega | exact r77 | exact r78 | exact m1 | exact m2 | (unfold xI; omega) | (exfalso; omega)
          refine ⟨?_, ?_⟩
          · first | omega | exact r77 | exact r78 | exact m1 | exact m2 | (unfold xI; omega) | (exfalso; omega)
          refine ⟨?_, ?_⟩
          · first | omega | exact r77 | exact r78 | exact m1 | exact m2 | (unfold xI; omega) | (exfalso; omega)
          refine ⟨?_, ?_⟩
          · first | omega | exact r77 | exact r78 | exact m1 | exact m2 | (unfold xI; omega) | (exfalso; omega)
          refine ⟨?_, ?_⟩
          · first | omega | exact r77 | exact r78 | exact m1 | exact m2 | (unfold xI; omega) | (exfalso; omega)
          refine ⟨?_, ?_⟩
          · first | omega | exact r77 | exact r78 | exact m1 | exact m2 | (unfold xI; omega) | (exfalso; omega)
          refine ⟨?_, ?_⟩
          · first | omega | exact r77 | exact r78 | exact m1 | exact m2 | (unfold xI; omega) | (exfalso; omega)
          first | (exfalso; omega) | exact z
  have key : ∀ (r : Nat) (s : Int) (h' : XH), s + (r : Int) = 5 → 0 ≤ s → mF h h' → h' 67 47 = n → (∀ k, 0 ≤ k → k < 5 * n → h' 96 k = f k) → (h' 94 0 = a ∧ h' 94 1 = b) → (∀ k, 2 ≤ k → k < 2 + s → h' 94 k = (1000 * G (k - 2)).tdiv T) → xq X d 218 Q 30 [(0, (2, 67)), (2, (0, c)), (3, (0, s))] [] h' := by
    intro r
    induction r with
    | zero =>
      intro s h' es h0 F kn' kf' k01 fw
      have es' : s = 5 := by omega
      subst es'
      have z := last (xup (xup (xup h' 94 7 n) 94 8 0) 94 9 1000) (mF_up (mF_up (mF_up F (by decide)) (by decide)) (by decide)) (by rw [xup_ne (by decide), xup_ne (by decide), xup_ne (by decide)]; exact kn') (by rw [xup_ne (by decide), xup_ne (by decide), xup_ne (by decide)]; exact kf') (fun i p q => by
          rcases (show i = 0 ∨ i = 1 ∨ (2 ≤ i ∧ i ≤ 6) ∨ i = 7 by omega) with e | e | e | e
          · subst e
            rw [xup_k (by decide), xup_k (by decide), xup_k (by decide)]
            exact k01.1
          · subst e
            rw [xup_k (by decide), xup_k (by decide), xup_k (by decide)]
            exact k01.2
          · rw [xup_k (by omega), xup_k (by omega), xup_k (by omega), fw i (by omega) (by omega), wdV_s _ _ _ _ _ _ _ e]
          · subst e
            rw [xup_k (by decide), xup_k (by decide), xup_self]
            rfl) (by rw [xup_k (by decide), xup_self]) (xup_self _ _ _ _)
      refine U_218_30 (by omega) c 5 h' ?_
      rw [kn']
      refine ⟨fun c1 => ?_, fun c1 => ?_⟩
      · skip
        first | (exfalso; omega) | exact z
      · skip
        refine ⟨?_, ?_⟩
        · first | omega | (unfold xI; omega) | (unfold xJ; omega) | (exfalso; omega)
        refine ⟨?_, ?_⟩
        · first | omega | (unfold xI; omega) | (unfold xJ; omega) | (exfalso; omega)
        refine ⟨?_, ?_⟩
        · first | omega | (unfold xI; omega) | (unfold xJ; omega) | (exfalso; omega)
        refine ⟨?_, ?_⟩
        · first | omega | (unfold xI; omega) | (unfold xJ; omega) | (exfalso; omega)
        refine ⟨?_, ?_⟩
        · first | omega | (unfold xI; omega) | (unfold xJ; omega) | (exfalso; omega)
        refine ⟨?_, ?_⟩
        · first | omega | (unfold xI; omega) | (unfold xJ; omega) | (exfalso; omega)
        first | (exfalso; omega) | exact z
    | succ r ih =>
      intro s h' es h0 F kn' kf' k01 fw
      have e14 : h' 67 14 = T := by rw [F.2 14 (by decide)]; exact kT
      have e76 : h' 76 s = G s := by rw [F.1 76 (by decide) (by decide) (by decide)]; exact kG s h0 (by omega)
      have gr := gr_1 (x := 1000) g (s := s) ⟨h0, by omega⟩ ⟨by decide, by decide⟩
      have z := ih (s + 1) (xup h' 94 (2 + s) ((1000 * G s).tdiv T)) (by omega) (by omega) (mF_up F (by decide)) (by rw [xup_ne (by decide)]; exact kn') (by rw [xup_ne (by decide)]; exact kf') (by rw [xup_k (by omega), xup_k (by omega)]; exact k01) (fun k p q => by
        by_cases e : k = 2 + s
        · rw [e, xup_self, show 2 + s - 2 = s by omega]
        · rw [xup_k e]
          exact fw k p (by omega))
      refine U_218_30 (by omega) c s h' ?_
      rw [e14, e76]
      refine ⟨fun c1 => ?_, fun c1 => ?_⟩
      · skip
        first | exact z | (exfalso; omega)
      · skip
        refine ⟨?_, ?_⟩
        · first | omega | (unfold xI; omega) | exact ⟨by omega, by unfold xI; omega⟩ | (exfalso; omega)
        refine ⟨?_, ?_⟩
        · first | omega | (unfold xI; omega) | exact ⟨by omega, by unfold xI; omega⟩ | (exfalso; omega)
        refine ⟨?_, ?_⟩
        · first | omega | (unfold xI; omega) | exact ⟨by omega, by unfold xI; omega⟩ | (exfalso; omega)
        refine ⟨?_, ?_⟩
        · first | omega | (unfold xI; omega) | exact ⟨by omega, by unfold xI; omega⟩ | (exfalso; omega)
        refine ⟨?_, ?_⟩
        · first | omega | (unfold xI; omega) | exact ⟨by omega, by unfold xI; omega⟩ | (exfalso; omega)
        refine ⟨?_, ?_⟩
        · first | omega | (unfold xI; omega) | exact ⟨by omega, by unfold xI; omega⟩ | (exfalso; omega)
        first | exact z | (exfalso; omega)
  have z := key 5 0 (xup (xup h 94 0 a) 94 1 b) (by decide) (by decide) (mF_up (mF_up (mF_refl h) (by decide)) (by decide)) (by rw [xup_ne (by decide), xup_ne (by decide)]; exact kn) (by rw [xup_ne (by decide), xup_ne (by decide)]; exact kf) ⟨by rw [xup_k (by decide), xup_self], xup_self _ _ _ _⟩ (fun k p q => absurd q (by omega))
  refine U_218 (by omega) pa c h ?_
  rw [ka, kb]
  refine ⟨?_, ?_⟩
  · first | omega | (unfold xI; omega) | (unfold xJ; omega) | (exfalso; omega)
  refine ⟨?_, ?_⟩
  · first | omega | (unfold xI; omega) | (unfold xJ; omega) | (exfalso; omega)
  refine ⟨?_, ?_⟩
  · first | omega | (unfold xI; omega) | (unfold xJ; omega) | (exfalso; omega)
  refine ⟨?_, ?_⟩
  · first | omega | (unfold xI; omega) | (unfold xJ; omega) | (exfalso; omega)
  first | exact z | (exfalso; omega)

theorem s_222w {X : Int × (Int → Int)} {d : Nat} {Q : Int → XH → Prop} {lo : Option (List (Int × List Int))} {n : Int} {f G : Int → Int} {T a b pa : Int} {h : XH} (hd : 6 ≤ d) {w : Int → Int} (k u : Int) (K : wMo lo n f G T a b pa h) (V : ∀ i, 0 ≤ i → i ≤ 10 → h 94 i = w i) (hw : ∀ i, 0 ≤ i → i ≤ 10 → -1000000 ≤ w i ∧ w i ≤ 1000000) (pk : 0 ≤ k ∧ k ≤ 3) (pu : (-1000000 ≤ u ∧ u ≤ 1000000) ∧ (2 ≤ k → u = 0)) (hQ : ∀ y h1, y = tlV lo w k u → mF h h1 → wMo lo n f G T a b pa h1 → (∀ i, 0 ≤ i → i ≤ 10 → h1 94 i = w i) → Q y h1) : xc X d 222 [(2, 67), (0, k), (0, u)] h Q := by
  have K0 := K
  obtain ⟨kl, kT, kG, ⟨kn, kf⟩, ka, kb⟩ := K
  cases lo with
  | none => exact s_222n hd k u h kl pk pu (hQ _ h rfl (mF_refl h) K0 V)
  | some L =>
    obtain ⟨t, l1, l2, l3⟩ := kl
    refine s_222 hd t k u L w h l1 l2 l3 hw V pk pu (fun h1 f1 => ?_)
    exact hQ _ h1 rfl (mF_jM f1) (wMo_fr K0 (mF_jM f1) (by rw [f1 67 (by decide)]; exact kn) (by rw [f1 96 (by decide)]; exact kf)) (fun i p q => by rw [f1 94 (by decide)]; exact V i p q)

theorem U_223 {X : Int × (Int → Int)} {d : Nat} {Q : Int → XH → Prop} (hd : 0 ≤ d) (l : Int) (H : XH) (h : xq X d 223 Q 4 [(0, (2, 67)), (1, (0, l)), (2, (0, 0)), (3, (0, 0))] [] H) : xc X (d + 1) 223 [(2, 67), (0, l)] H Q := by
  refine ⟨rfl, ?_⟩
  show xq X d 223 Q 100000 [(0, (2, 67)), (1, (0, l))] [] H
  refine xq_run [4] 300 ?_
  show xq X d 223 Q 4 [(0, (2, 67)), (1, (0, l)), (2, (0, 0)), (3, (0, 0))] [] H
  exact h
theorem U_223_4 {X : Int × (Int → Int)} {d : Nat} {Q : Int → XH → Prop} (hd : 0 ≤ d) (v1 v2 v3 : Int) (H : XH) (h : ((5 ≤ v3) → Q v2 H) ∧ (¬ (5 ≤ v3) → (xI (5 * v1)) ∧ (xI ((5 * v1) + v3)) ∧ ((0 : Int) ≤ (5 * v1) + v3 ∧ ((5 * v1) + v3 : Int) < 40) ∧ (xI (v2 + (H 96 ((5 * v1) + v3)))) ∧ (xI (v3 + 1)) ∧ xq X d 223 Q 4 [(0, (2, 67)), (1, (0, v1)), (2, (0, v2 + (H 96 ((5 * v1) + v3)))), (3, (0, v3 + 1))] [] H)) : xq X d 223 Q 4 [(0, (2, 67)), (1, (0, v1)), (2, (0, v2)), (3, (0, v3))] [] H := by
  show xq X d 223 Q 4 [(0, (2, 67)), (1, (0, v1)), (2, (0, v2)), (3, (0, v3))] [] H
  refine xq_run [4] 300 ?_
  show ((5 ≤ v3) → xfR 0 v2 ∧ xKZ = xKZ ∧ Q v2 H) ∧ (¬ (5 ≤ v3) → (xI (5 * v1)) ∧ (xI ((5 * v1) + v3)) ∧ ((0 : Int) ≤ (5 * v1) + v3 ∧ ((5 * v1) + v3 : Int) < 40) ∧ (xI (v2 + (H 96 ((5 * v1) + v3)))) ∧ (xI (v3 + 1)) ∧ xq X d 223 Q 4 [(0, (2, 67)), (1, (0, v1)), (2, (0, v2 + (H 96 ((5 * v1) + v3)))), (3, (0, v3 + 1))] [] H)
  refine ⟨fun k_ => ?_, fun k_ => ?_⟩
  · replace h := h.1 k_
    exact ⟨trivial, rfl, h⟩
  · replace h := h.2 k_
    refine ⟨h.1, ?_⟩
    replace h := h.2
    refine ⟨h.1, ?_⟩
    replace h := h.2
    refine ⟨h.1, ?_⟩
    replace h := h.2
    refine ⟨h.1, ?_⟩
    replace h := h.2
    refine ⟨h.1, ?_⟩
    replace h := h.2
    exact h

theorem s_223w {X : Int × (Int → Int)} {d : Nat} {Q : Int → XH → Prop} (hd : 1 ≤ d) (l : Int) {h : XH} (hl : 0 ≤ l ∧ l ≤ 7) (rg : ∀ s, 0 ≤ s → s < 5 → 0 ≤ h 96 (5 * l + s) ∧ h 96 (5 * l + s) ≤ 999) (hQ : ∀ y, y = sum5 (h 96) (5 * l) → Q y h) : xc X d 223 [(2, 67), (0, l)] h Q := by
  cases d with
  | zero => omega
  | succ d =>
  have hQ := hQ _ rfl
  have st : ∀ s v, 0 ≤ s → s < 5 → (0 ≤ v ∧ v ≤ 6000) → xq X d 223 Q 4 [(0, (2, 67)), (1, (0, l)), (2, (0, v + h 96 (5 * l + s))), (3, (0, s + 1))] [] h → xq X d 223 Q 4 [(0, (2, 67)), (1, (0, l)), (2, (0, v)), (3, (0, s))] [] h := fun s v s0 s5 hv hk => by
    have := rg s s0 s5
    refine U_223_4 (by omega) l v s h ?_
    refine ⟨fun c1 => ?_, fun c1 => ?_⟩
    · skip
      first | exact hk | (exfalso; omega)
    · skip
      refine ⟨?_, ?_⟩
      · first | omega | (unfold xI; omega) | (unfold xJ; omega) | (exfalso; omega)
      refine ⟨?_, ?_⟩
      · first | omega | (unfold xI; omega) | (unfold xJ; omega) | (exfalso; omega)
      refine ⟨?_, ?_⟩
      · first | omega | (unfold xI; omega) | (unfold xJ; omega) | (exfalso; omega)
      refine ⟨?_, ?_⟩
      · first | omega | (unfold xI; omega) | (unfold xJ; omega) | (exfalso; omega)
      refine ⟨?_, ?_⟩
      · first | omega | (unfold xI; omega) | (unfold xJ; omega) | (exfalso; omega)
      first | exact hk | (exfalso; omega)
  have b0 := rg 0 (by decide) (by decide)
  have b1 := rg 1 (by decide) (by decide)
  have b2 := rg 2 (by decide) (by decide)
  have b3 := rg 3 (by decide) (by decide)
  have b4 := rg 4 (by decide) (by decide)
  refine U_223 (by omega) l h ?_
  refine st 0 0 (by decide) (by decide) (by omega) ?_
  refine st 1 (0 + h 96 (5 * l + 0)) (by decide) (by decide) (by omega) ?_
  refine st 2 (0 + h 96 (5 * l + 0) + h 96 (5 * l + 1)) (by decide) (by decide) (by omega) ?_
  refine st 3 (0 + h 96 (5 * l + 0) + h 96 (5 * l + 1) + h 96 (5 * l + 2)) (by decide) (by decide) (by omega) ?_
  refine st 4 (0 + h 96 (5 * l + 0) + h 96 (5 * l + 1) + h 96 (5 * l + 2) + h 96 (5 * l + 3)) (by decide) (by decide) (by omega) ?_
  rw [show 0 + h 96 (5 * l + 0) + h 96 (5 * l + 1) + h 96 (5 * l + 2) + h 96 (5 * l + 3) + h 96 (5 * l + 4) = sum5 (h 96) (5 * l) by (rw [Int.zero_add, Int.add_zero]; rfl)]
  refine U_223_4 (by omega) l _ 5 h ?_
  refine ⟨fun c1 => ?_, fun c1 => ?_⟩
  · skip
    first | exact hQ | (exfalso; omega)
  · skip
    refine ⟨?_, ?_⟩
    · first | omega | (unfold xI; omega) | (unfold xJ; omega) | (exfalso; omega)
    refine ⟨?_, ?_⟩
    · first | omega | (unfold xI; omega) | (unfold xJ; omega) | (exfalso; omega)
    refine ⟨?_, ?_⟩
    · first | omega | (unfold xI; omega) | (unfold xJ; omega) | (exfalso; omega)
    refine ⟨?_, ?_⟩
    · first | omega | (unfold xI; omega) | (unfold xJ; omega) | (exfalso; omega)
    refine ⟨?_, ?_⟩
    · first | omega | (unfold xI; omega) | (unfold xJ; omega) | (exfalso; omega)
    first | exact hQ | (exfalso; omega)
