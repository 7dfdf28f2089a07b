/-! THE PURE LAYER 62: the walk: the class -/
def lwC (lo : Option (List (Int × List Int))) (h : XH) : Prop := match lo with
  | none => h 58 7 = -1
  | some L => ∃ t, h 58 7 = t ∧ (0 ≤ t ∧ t ≤ 3) ∧ lawC t L h
theorem lwC_fr {lo : Option (List (Int × List Int))} {h h1 : XH} (a : h1 53 = h 53) (b : h1 54 = h 54) (c : h1 58 7 = h 58 7) (l : lwC lo h) : lwC lo h1 := by
  cases lo with
  | none => exact c.trans l
  | some L =>
    obtain ⟨t, l1, l2, l3, l4, l5, l6⟩ := l
    exact ⟨t, c.trans l1, l2, l3, l4, by rw [b]; exact l5, fun k q => by rw [a]; exact l6 k q⟩
theorem lwC_ok {lo : Option (List (Int × List Int))} {h : XH} (l : lwC lo h) : loOk lo := fun L e p hp => by
  subst e
  obtain ⟨t, -, -, l3, -⟩ := l
  exact l3 p hp
/-- the walker's rows say n, f; ground G, T; the step's numbers -/
def wCo (lo : Option (List (Int × List Int))) (n : Int) (f G : Int → Int) (T a b c : Int) (h : XH) : Prop := h 58 6 = 51 ∧ lwC lo h ∧ h 58 2 = T ∧ (∀ s, 0 ≤ s → s < 5 → h 61 s = G s) ∧ (h 59 1 = n ∧ ∀ k, 0 ≤ k → k < 5 * n → h 60 k = f k) ∧ h 62 0 = a ∧ h 62 1 = b ∧ h 62 10 = c
def wF (H h : XH) : Prop := ∀ o, ¬ (58 ≤ o ∧ o ≤ 63) → h o = H o
theorem wF_refl (H : XH) : wF H H := fun _ _ => rfl
theorem wF_trans {H h h1 : XH} (a : wF H h) (b : wF h h1) : wF H h1 := fun o p => (b o p).trans (a o p)
theorem wF_up {H h : XH} (a : wF H h) {o k v : Int} (q : 58 ≤ o ∧ o ≤ 63) : wF H (xup h o k v) := fun p r => by
  rw [xup_ne (fun e => r (by rw [e]; exact q))]
  exact a p r
theorem rgF_8 {n : Int} {f : Int → Int} {h : XH} (K : ∀ k, 0 ≤ k → k < 5 * n → h 60 k = f k) (r : rgF n f) : ∀ k, 0 ≤ k → k < 5 * n → 0 ≤ h 60 k ∧ h 60 k ≤ 999 := fun k a b => by
  rw [K k a b]
  exact r k a b

theorem U_205 {X : Int × (Int → Int)} {d : Nat} {Q : Int → XH → Prop} (hd : 0 ≤ d) (H : XH) (h : xq X d 205 Q 2 [(0, (2, 58)), (1, (0, 0))] [] H) : xc X (d + 1) 205 [(2, 58)] H Q := by
  refine ⟨rfl, ?_⟩
  show xq X d 205 Q 100000 [(0, (2, 58))] [] H
  refine xq_run [2, 86, 121] 300 ?_
  show xq X d 205 Q 2 [(0, (2, 58)), (1, (0, 0))] [] H
  exact h
theorem U_205_2 {X : Int × (Int → Int)} {d : Nat} {Q : Int → XH → Prop} (hd : 3 ≤ d) (v1 : Int) (H : XH) (h : ((5 ≤ v1) → (xI ((H 59 1) - 1)) ∧ (0 ≤ (xup H 62 7 (H 59 1)) 59 1 ∧ (xup H 62 7 (H 59 1)) 59 1 ≤ 8) ∧ (∀ k, 0 ≤ k → k < 5 * (xup H 62 7 (H 59 1)) 59 1 → 0 ≤ (xup H 62 7 (H 59 1)) 60 k ∧ (xup H 62 7 (H 59 1)) 60 k ≤ 100000) ∧ (((0 ≤ (H 59 1) - 1) → (xI (((H 59 1) - 1) * 5)) ∧ ((0 : Int) ≤ ((H 59 1) - 1) * 5 ∧ (((H 59 1) - 1) * 5) + 5 ≤ 40) ∧ ((0 : Int) ≤ 0 ∧ (0 : Int) + 5 ≤ 5) ∧ (∀ s, 0 ≤ s → s < 5 → 0 ≤ (xup (xup H 62 7 (H 59 1)) 62 8 (if 0 ≤ (H 59 1) - 1 ∧ (H 59 1) - 1 < (xup H 62 7 (H 59 1)) 59 1 then sum5 ((xup H 62 7 (H 59 1)) 60) (((H 59 1) - 1) * 5) else 0)) 60 ((((H 59 1) - 1) * 5) + s) ∧ (xup (xup H 62 7 (H 59 1)) 62 8 (if 0 ≤ (H 59 1) - 1 ∧ (H 59 1) - 1 < (xup H 62 7 (H 59 1)) 59 1 then sum5 ((xup H 62 7 (H 59 1)) 60) (((H 59 1) - 1) * 5) else 0)) 60 ((((H 59 1) - 1) * 5) + s) ≤ 1000) ∧ (∀ s, 0 ≤ s → s < 5 → 0 ≤ (xup (xup H 62 7 (H 59 1)) 62 8 (if 0 ≤ (H 59 1) - 1 ∧ (H 59 1) - 1 < (xup H 62 7 (H 59 1)) 59 1 then sum5 ((xup H 62 7 (H 59 1)) 60) (((H 59 1) - 1) * 5) else 0)) 61 (0 + s) ∧ (xup (xup H 62 7 (H 59 1)) 62 8 (if 0 ≤ (H 59 1) - 1 ∧ (H 59 1) - 1 < (xup H 62 7 (H 59 1)) 59 1 then sum5 ((xup H 62 7 (H 59 1)) 60) (((H 59 1) - 1) * 5) else 0)) 61 (0 + s) ≤ 1000) ∧ (Q 0 (xup (xup (xup H 62 7 (H 59 1)) 62 8 (if 0 ≤ (H 59 1) - 1 ∧ (H 59 1) - 1 < (xup H 62 7 (H 59 1)) 59 1 then sum5 ((xup H 62 7 (H 59 1)) 60) (((H 59 1) - 1) * 5) else 0)) 62 9 (farV (fun s => (xup (xup H 62 7 (H 59 1)) 62 8 (if 0 ≤ (H 59 1) - 1 ∧ (H 59 1) - 1 < (xup H 62 7 (H 59 1)) 59 1 then sum5 ((xup H 62 7 (H 59 1)) 60) (((H 59 1) - 1) * 5) else 0)) 60 ((((H 59 1) - 1) * 5) + s)) (fun s => (xup (xup H 62 7 (H 59 1)) 62 8 (if 0 ≤ (H 59 1) - 1 ∧ (H 59 1) - 1 < (xup H 62 7 (H 59 1)) 59 1 then sum5 ((xup H 62 7 (H 59 1)) 60) (((H 59 1) - 1) * 5) else 0)) 61 (0 + s)))))) ∧ (¬ (0 ≤ (H 59 1) - 1) → Q 0 (xup (xup (xup H 62 7 (H 59 1)) 62 8 (if 0 ≤ (H 59 1) - 1 ∧ (H 59 1) - 1 < (xup H 62 7 (H 59 1)) 59 1 then sum5 ((xup H 62 7 (H 59 1)) 60) (((H 59 1) - 1) * 5) else 0)) 62 9 1000)))) ∧ (¬ (5 ≤ v1) → (xI (2 + v1)) ∧ ((1 ≤ H 58 2) → ((0 : Int) ≤ v1 ∧ (v1 : Int) < 5) ∧ (xI (1000 * (H 61 v1))) ∧ (¬ H 58 2 = 0 ∧ xI (Int.tdiv (1000 * (H 61 v1)) (H 58 2))) ∧ ((0 : Int) ≤ 2 + v1 ∧ (2 + v1 : Int) < 11) ∧ (xI (v1 + 1)) ∧ xq X d 205 Q 2 [(0, (2, 58)), (1, (0, v1 + 1))] [] (xup H 62 (2 + v1) (Int.tdiv (1000 * (H 61 v1)) (H 58 2)))) ∧ (¬ (1 ≤ H 58 2) → ((0 : Int) ≤ 2 + v1 ∧ (2 + v1 : Int) < 11) ∧ (xI (v1 + 1)) ∧ xq X d 205 Q 2 [(0, (2, 58)), (1, (0, v1 + 1))] [] (xup H 62 (2 + v1) 0)))) : xq X d 205 Q 2 [(0, (2, 58)), (1, (0, v1))] [] H := by
  show xq X d 205 Q 2 [(0, (2, 58)), (1, (0, v1))] [] H
  refine xq_run [2, 86, 121] 300 ?_
  show ((5 ≤ v1) → (xI ((H 59 1) - 1)) ∧ ((0 : Int) ≤ 7 ∧ (7 : Int) < 11) ∧ xWM (xE X) xMC d 79 [(2, 59), (0, (H 59 1) - 1)] xKZ (xup H 62 7 (H 59 1)) _) ∧ (¬ (5 ≤ v1) → (xI (2 + v1)) ∧ ((1 ≤ H 58 2) → ((0 : Int) ≤ v1 ∧ (v1 : Int) < 5) ∧ (xI (1000 * (H 61 v1))) ∧ (¬ H 58 2 = 0 ∧ xI (Int.tdiv (1000 * (H 61 v1)) (H 58 2))) ∧ ((0 : Int) ≤ 2 + v1 ∧ (2 + v1 : Int) < 11) ∧ (xI (v1 + 1)) ∧ xq X d 205 Q 2 [(0, (2, 58)), (1, (0, v1 + 1))] [] (xup H 62 (2 + v1) (Int.tdiv (1000 * (H 61 v1)) (H 58 2)))) ∧ (¬ (1 ≤ H 58 2) → ((0 : Int) ≤ 2 + v1 ∧ (2 + v1 : Int) < 11) ∧ (xI (v1 + 1)) ∧ xq X d 205 Q 2 [(0, (2, 58)), (1, (0, v1 + 1))] [] (xup H 62 (2 + v1) 0)))
  refine ⟨fun k_ => ?_, fun k_ => ?_⟩
  · replace h := h.1 k_
    refine ⟨h.1, ?_⟩
    replace h := h.2
    refine ⟨⟨by decide, by decide⟩, ?_⟩
    refine xc_in (s_79_o59 (by omega) ((H 59 1) - 1) (xup H 62 7 (H 59 1)) (h.1) (h.2.1) ?_)
    replace h := h.2.2
    show xq X d 205 Q 86 [(1, (0, (H 59 1) - 1)), (0, (2, 58))] [(0, if 0 ≤ (H 59 1) - 1 ∧ (H 59 1) - 1 < (xup H 62 7 (H 59 1)) 59 1 then sum5 ((xup H 62 7 (H 59 1)) 60) (((H 59 1) - 1) * 5) else 0), (0, 8), (2, 62)] (xup H 62 7 (H 59 1))
    refine xq_run [2, 86, 121] 300 ?_
    show ((0 : Int) ≤ 8 ∧ (8 : Int) < 11) ∧ ((0 ≤ (H 59 1) - 1) → (xI (((H 59 1) - 1) * 5)) ∧ xWM (xE X) xMC d 59 [(2, 60), (0, ((H 59 1) - 1) * 5), (2, 61), (0, 0)] xKZ (xup (xup H 62 7 (H 59 1)) 62 8 (if 0 ≤ (H 59 1) - 1 ∧ (H 59 1) - 1 < (xup H 62 7 (H 59 1)) 59 1 then sum5 ((xup H 62 7 (H 59 1)) 60) (((H 59 1) - 1) * 5) else 0)) _) ∧ (¬ (0 ≤ (H 59 1) - 1) → xq X d 205 Q 121 [(1, (0, (H 59 1) - 1)), (0, (2, 58))] [(0, 1000), (0, 9), (2, 62)] (xup (xup H 62 7 (H 59 1)) 62 8 (if 0 ≤ (H 59 1) - 1 ∧ (H 59 1) - 1 < (xup H 62 7 (H 59 1)) 59 1 then sum5 ((xup H 62 7 (H 59 1)) 60) (((H 59 1) - 1) * 5) else 0)))
    refine ⟨⟨by decide, by decide⟩, ?_⟩
    refine ⟨fun k_ => ?_, fun k_ => ?_⟩
    · replace h := h.1 k_
      refine ⟨h.1, ?_⟩
      replace h := h.2
      refine xc_in (s_59_a60_a61 (by omega) (((H 59 1) - 1) * 5) 0 (xup (xup H 62 7 (H 59 1)) 62 8 (if 0 ≤ (H 59 1) - 1 ∧ (H 59 1) - 1 < (xup H 62 7 (H 59 1)) 59 1 then sum5 ((xup H 62 7 (H 59 1)) 60) (((H 59 1) - 1) * 5) else 0)) (h.1) (h.2.1) (h.2.2.1) (h.2.2.2.1) ?_)
      replace h := h.2.2.2.2
      show xq X d 205 Q 121 [(1, (0, (H 59 1) - 1)), (0, (2, 58))] [(0, farV (fun s => (xup (xup H 62 7 (H 59 1)) 62 8 (if 0 ≤ (H 59 1) - 1 ∧ (H 59 1) - 1 < (xup H 62 7 (H 59 1)) 59 1 then sum5 ((xup H 62 7 (H 59 1)) 60) (((H 59 1) - 1) * 5) else 0)) 60 ((((H 59 1) - 1) * 5) + s)) (fun s => (xup (xup H 62 7 (H 59 1)) 62 8 (if 0 ≤ (H 59 1) - 1 ∧ (H 59 1) - 1 < (xup H 62 7 (H 59 1)) 59 1 then sum5 ((xup H 62 7 (H 59 1)) 60) (((H 59 1) - 1) * 5) else 0)) 61 (0 + s))), (0, 9), (2, 62)] (xup (xup H 62 7 (H 59 1)) 62 8 (if 0 ≤ (H 59 1) - 1 ∧ (H 59 1) - 1 < (xup H 62 7 (H 59 1)) 59 1 then sum5 ((xup H 62 7 (H 59 1)) 60) (((H 59 1) - 1) * 5) else 0))
      refine xq_run [2, 86, 121] 300 ?_
      show ((0 : Int) ≤ 9 ∧ (9 : Int) < 11) ∧ xfR 2 0 ∧ xKZ = xKZ ∧ Q 0 (xup (xup (xup H 62 7 (H 59 1)) 62 8 (if 0 ≤ (H 59 1) - 1 ∧ (H 59 1) - 1 < (xup H 62 7 (H 59 1)) 59 1 then sum5 ((xup H 62 7 (H 59 1)) 60) (((H 59 1) - 1) * 5) else 0)) 62 9 (farV (fun s => (xup (xup H 62 7 (H 59 1)) 62 8 (if 0 ≤ (H 59 1) - 1 ∧ (H 59 1) - 1 < (xup H 62 7 (H 59 1)) 59 1 then sum5 ((xup H 62 7 (H 59 1)) 60) (((H 59 1) - 1) * 5) else 0)) 60 ((((H 59 1) - 1) * 5) + s)) (fun s => (xup (xup H 62 7 (H 59 1)) 62 8 (if 0 ≤ (H 59 1) - 1 ∧ (H 59 1) - 1 < (xup H 62 7 (H 59 1)) 59 1 then sum5 ((xup H 62 7 (H 59 1)) 60) (((H 59 1) - 1) * 5) else 0)) 61 (0 + s))))
      refine ⟨⟨by decide, by decide⟩, ?_⟩
      exact ⟨trivial, rfl, h⟩
    · replace h := h.2 k_
      show xq X d 205 Q 121 [(1, (0, (H 59 1) - 1)), (0, (2, 58))] [(0, 1000), (0, 9), (2, 62)] (xup (xup H 62 7 (H 59 1)) 62 8 (if 0 ≤ (H 59 1) - 1 ∧ (H 59 1) - 1 < (xup H 62 7 (H 59 1)) 59 1 then sum5 ((xup H 62 7 (H 59 1)) 60) (((H 59 1) - 1) * 5) else 0))
      refine xq_run [2, 86, 121] 300 ?_
      show ((0 : Int) ≤ 9 ∧ (9 : Int) < 11) ∧ xfR 2 0 ∧ xKZ = xKZ ∧ Q 0 (xup (xup (xup H 62 7 (H 59 1)) 62 8 (if 0 ≤ (H 59 1) - 1 ∧ (H 59 1) - 1 < (xup H 62 7 (H 59 1)) 59 1 then sum5 ((xup H 62 7 (H 59 1)) 60) (((H 59 1) - 1) * 5) else 0)) 62 9 1000)
      refine ⟨⟨by decide, by decide⟩, ?_⟩
      exact ⟨trivial, rfl, h⟩
  · replace h := h.2 k_
    refine ⟨h.1, ?_⟩
    replace h := h.2
    refine ⟨fun k_ => ?_, fun k_ => ?_⟩
    · replace h := h.1 k_
      refine ⟨h.1, ?_⟩
      replace h := h.2
      refine ⟨h.1, ?_⟩
      replace h := h.2
      refine ⟨h.1, ?_⟩
      replace h := h.2
      refine ⟨h.1, ?_⟩
      replace h := h.2
      refine ⟨h.1, ?_⟩
      replace h := h.2
      exact h
    · replace h := h.2 k_
      refine ⟨h.1, ?_⟩
      replace h := h.2
      refine ⟨h.1, ?_⟩
      replace h := h.2
      exact h

theorem s_205w {X : Int × (Int → Int)} {d : Nat} {Q : Int → XH → Prop} {lo : Option (List (Int × List Int))} {n : Int} {f G : Int → Int} {T a b c : Int} {h : XH} (hd : 4 ≤ d) (K : wCo lo n f G T a b c h) (I : (0 ≤ n ∧ n ≤ 8) ∧ rgF n f) (g : gdI G T a b c) (hQ : ∀ h1, wF h h1 → wCo lo n f G T a b c h1 → (∀ i, 0 ≤ i → i ≤ 10 → h1 62 i = wdV n f G T a b c i) → Q 0 h1) : xc X d 205 [(2, 58)] h Q := by
  cases d with
  | zero => omega
  | succ d =>
  obtain ⟨k6, kl, kT, kG, ⟨kn, kf⟩, ka, kb, kc⟩ := K
  have I1 := I.1
  have r60 := rgF_8 kf I.2
  have gT := gdI_T g
  have r61 : ∀ s, 0 ≤ s → s < 5 → 0 ≤ h 61 s ∧ h 61 s ≤ 576 := fun s p q => by
    rw [kG s p q]
    exact g.1 s p q
  have key : ∀ (r : Nat) (s : Int) (h' : XH), s + (r : Int) = 5 → 0 ≤ s → (∀ o, ¬ o = 62 → h' o = h o) → (∀ k, k < 2 ∨ 2 + s ≤ k → h' 62 k = h 62 k) → (∀ k, 2 ≤ k → k < 2 + s → h' 62 k = (1000 * G (k - 2)).tdiv T) → xq X d 205 Q 2 [(0, (2, 58)), (1, (0, s))] [] h' := by
    intro r
    induction r with
    | zero =>
      intro s h' es h0 fo fk fw
      have es' : s = 5 := by omega
      subst es'
      have e1 : h' 59 1 = n := by rw [fo 59 (by decide)]; exact kn
      have e60 : h' 60 = h 60 := fo 60 (by decide)
      have e61 : h' 61 = h 61 := fo 61 (by decide)
      have fin : ∀ x8 x9, x8 = wdV n f G T a b c 8 → x9 = wdV n f G T a b c 9 → Q 0 (xup (xup (xup h' 62 7 n) 62 8 x8) 62 9 x9) := fun x8 x9 q8 q9 => by
        have w : ∀ i, 0 ≤ i → i ≤ 10 → xup (xup (xup h' 62 7 n) 62 8 x8) 62 9 x9 62 i = wdV n f G T a b c i := fun i p q => by
          rcases (show i = 0 ∨ i = 1 ∨ (2 ≤ i ∧ i ≤ 6) ∨ i = 7 ∨ i = 8 ∨ i = 9 ∨ i = 10 by omega) with e | e | e | e | e | e | e
          · subst e
            rw [xup_k (by decide), xup_k (by decide), xup_k (by decide), fk 0 (by decide), ka]
            rfl
          · subst e
            rw [xup_k (by decide), xup_k (by decide), xup_k (by decide), fk 1 (by decide), kb]
            rfl
          · rw [xup_k (by omega), xup_k (by omega), xup_k (by omega), fw i (by omega) (by omega), wdV_s _ _ _ _ _ _ _ e]
          · subst e
            rw [xup_k (by decide), xup_k (by decide), xup_self]
            rfl
          · subst e
            rw [xup_k (by decide), xup_self]
            exact q8
          · subst e
            rw [xup_self]
            exact q9
          · subst e
            rw [xup_k (by decide), xup_k (by decide), xup_k (by decide), fk 10 (by decide), kc]
            rfl
        have o' : ∀ o, ¬ o = 62 → xup (xup (xup h' 62 7 n) 62 8 x8) 62 9 x9 o = h o := fun o q => by
          rw [xup_ne q, xup_ne q, xup_ne q]
          exact fo o q
        refine hQ _ (fun o q => o' o (by omega)) ⟨by rw [o' 58 (by decide)]; exact k6, lwC_fr (o' 53 (by decide)) (o' 54 (by decide)) (congrFun (o' 58 (by decide)) 7) kl, by rw [o' 58 (by decide)]; exact kT, by rw [o' 61 (by decide)]; exact kG, ⟨by rw [o' 59 (by decide)]; exact kn, by rw [o' 60 (by decide)]; exact kf⟩, w 0 (by decide) (by decide), w 1 (by decide) (by decide), w 10 (by decide) (by decide)⟩ w
      have e8 : (if 0 ≤ n - 1 ∧ n - 1 < n then sum5 (h 60) ((n - 1) * 5) else 0) = wdV n f G T a b c 8 := by
        rw [wdV_8]
        by_cases q : 0 < n
        · rw [if_pos (by omega), if_pos q, show (n - 1) * 5 = 5 * (n - 1) by omega]
          exact sum5_congr (fun k x y => kf k (by omega) (by omega))
        · rw [if_neg (by omega), if_neg q]
      have e9 : 0 ≤ n - 1 → farV (fun s => h 60 ((n - 1) * 5 + s)) (fun s => h 61 (0 + s)) = wdV n f G T a b c 9 := fun q => by
        rw [wdV_9, if_neg (by omega)]
        exact farV_congr (fun s x y => by rw [show (n - 1) * 5 + s = 5 * (n - 1) + s by omega]; exact kf _ (by omega) (by omega)) (fun s x y => by rw [Int.zero_add]; exact kG s x y)
      have e9n : ¬ 0 ≤ n - 1 → (1000 : Int) = wdV n f G T a b c 9 := fun q => by
        rw [wdV_9, if_pos (by omega)]
      refine U_205_2 (by omega) 5 h' ?_
      simp only [xup_ne (show ¬ (59 : Int) = 62 by decide), xup_ne (show ¬ (60 : Int) = 62 by decide), xup_ne (show ¬ (61 : Int) = 62 by decide), e1, e60, e61]
      refine ⟨fun c1 => ?_, fun c1 => ?_⟩
      · skip
        refine ⟨?_, ?_⟩
        · first | omega | (unfold xI; omega) | (intro k x y; have := r60 k x y; omega) | (intro s x y; have := r60 ((n - 1) * 5 + s) (by omega) (by omega); omega) | (intro s x y; have := r61 (0 + s) (by omega) (by omega); omega) | (exfalso; omega)
        refine ⟨?_, ?_⟩
        · first | omega | (unfold xI; omega) | (intro k x y; have := r60 k x y; omega) | (intro s x y; have := r60 ((n - 1) * 5 + s) (by omega) (by omega); omega) | (intro s x y; have := r61 (0 + s) (by omega) (by omega); omega) | (exfalso; omega)
        refine ⟨?_, ?_⟩
        · first | omega | (unfold xI; omega) | (intro k x y; have := r60 k x y; omega) | (intro s x y; have := r60 ((n - 1) * 5 + s) (by omega) (by omega); omega) | (intro s x y; have := r61 (0 + s) (by omega) (by omega); omega) | (exfalso; omega)
        refine ⟨fun c2 => ?_, fun c2 => ?_⟩
        · skip
          refine ⟨?_, ?_⟩
          · first | omega | (unfold xI; omega) | (intro k x y; have := r60 k x y; omega) | (intro s x y; have := r60 ((n - 1) * 5 + s) (by omega) (by omega); omega) | (intro s x y; have := r61 (0 + s) (by omega) (by omega); omega) | (exfalso; omega)
          refine ⟨?_, ?_⟩
          · first | omega | (unfold xI; omega) | (intro k x y; have := r60 k x y; omega) | (intro s x y; have := r60 ((n - 1) * 5 + s) (by omega) (by omega); omega) | (intro s x y; have := r61 (0 + s) (by omega) (by omega); omega) | (exfalso; omega)
          refine ⟨?_, ?_⟩
          · first | omega | (unfold xI; omega) | (intro k x y; have := r60 k x y; omega) | (intro s x y; have := r60 ((n - 1) * 5 + s) (by omega) (by omega); omega) | (intro s x y; have := r61 (0 + s) (by omega) (by omega); omega) | (exfalso; omega)
          refine ⟨?_, ?_⟩
          · first | omega | (unfold xI; omega) | (intro k x y; have := r60 k x y; omega) | (intro s x y; have := r60 ((n - 1) * 5 + s) (by omega) (by omega); omega) | (intro s x y; have := r61 (0 + s) (by omega) (by omega); omega) | (exfalso; omega)
          refine ⟨?_, ?_⟩
          · first | omega | (unfold xI; omega) | (intro k x y; have := r60 k x y; omega) | (intro s x y; have := r60 ((n - 1) * 5 + s) (by omega) (by omega); omega) | (intro s x y; have := r61 (0 + s) (by omega) (by omega); omega) | (exfalso; omega)
          exact fin _ _ e8 (e9 (by omega))
        · skip
          exact fin _ _ e8 (e9n (by omega))
      · skip
        refine ⟨?_, ?_⟩
        · first | omega | (unfold xI; omega) | (intro k x y; have := r60 k x y; omega) | (intro s x y; have := r60 ((n - 1) * 5 + s) (by omega) (by omega); omega) | (intro s x y; have := r61 (0 + s) (by omega) (by omega); omega) | (exfalso; omega)
        refine ⟨fun c3 => ?_, fun c3 => ?_⟩
        · skip
          refine ⟨?_, ?_⟩
          · first | omega | (unfold xI; omega) | (intro k x y; have := r60 k x y; omega) | (intro s x y; have := r60 ((n - 1) * 5 + s) (by omega) (by omega); omega) | (intro s x y; have := r61 (0 + s) (by omega) (by omega); omega) | (exfalso; omega)
          refine ⟨?_, ?_⟩
          · first | omega | (unfold xI; omega) | (intro k x y; have := r60 k x y; omega) | (intro s x y; have := r60 ((n - 1) * 5 + s) (by omega) (by omega); omega) | (intro s x y; have := r61 (0 + s) (by omega) (by omega); omega) | (exfalso; omega)
          refine ⟨?_, ?_⟩
          · first | omega | (unfold xI; omega) | (intro k x y; have := r60 k x y; omega) | (intro s x y; have := r60 ((n - 1) * 5 + s) (by omega) (by omega); omega) | (intro s x y; have := r61 (0 + s) (by omega) (by omega); omega) | (exfalso; omega)
          refine ⟨?_, ?_⟩
          · first | omega | (unfold xI; omega) | (intro k x y; have := r60 k x y; omega) | (intro s x y; have := r60 ((n - 1) * 5 + s) (by omega) (by omega); omega) | (intro s x y; have := r61 (0 + s) (by omega) (by omega); omega) | (exfalso; omega)
          refine ⟨?_, ?_⟩
          · first | omega | (unfold xI; omega) | (intro k x y; have := r60 k x y; omega) | (intro s x y; have := r60 ((n - 1) * 5 + s) (by omega) (by omega); omega) | (intro s x y; have := r61 (0 + s) (by omega) (by omega); omega) | (exfalso; omega)
          exfalso
          omega
        · skip
          refine ⟨?_, ?_⟩
          · first | omega | (unfold xI; omega) | (intro k x y; have := r60 k x y; omega) | (intro s x y; have := r60 ((n - 1) * 5 + s) (by omega) (by omega); omega) | (intro s x y; have := r61 (0 + s) (by omega) (by omega); omega) | (exfalso; omega)
          refine ⟨?_, ?_⟩
          · first | omega | (unfold xI; omega) | (intro k x y; have := r60 k x y; omega) | (intro s x y; have := r60 ((n - 1) * 5 + s) (by omega) (by omega); omega) | (intro s x y; have := r61 (0 + s) (by omega) (by omega); omega) | (exfalso; omega)
          exfalso
          omega
    | succ r ih =>
      intro s h' es h0 fo fk fw
      have e58 : h' 58 2 = T := by rw [fo 58 (by decide)]; exact kT
      have e61 : h' 61 s = G s := by rw [fo 61 (by decide)]; exact kG s h0 (by omega)
      have gr := gr_1 (x := 1000) g (s := s) ⟨h0, by omega⟩ ⟨by decide, by decide⟩
      have nx : xq X d 205 Q 2 [(0, (2, 58)), (1, (0, s + 1))] [] (xup h' 62 (2 + s) ((1000 * G s).tdiv T)) := by
        refine ih (s + 1) _ (by omega) (by omega) (fun o q => by rw [xup_ne q]; exact fo o q) (fun k q => by rw [xup_k (by omega)]; exact fk k (by omega)) (fun k p q => ?_)
        by_cases e : k = 2 + s
        · rw [e, xup_self, show 2 + s - 2 = s by omega]
        · rw [xup_k e]
          exact fw k p (by omega)
      refine U_205_2 (by omega) s h' ?_
      rw [e58, e61]
      refine ⟨fun c1 => ?_, fun c1 => ?_⟩
      · skip
        refine ⟨?_, ?_⟩
        · first | omega | (unfold xI; omega) | exact ⟨by omega, by unfold xI; omega⟩ | (exfalso; omega)
        refine ⟨?_, ?_⟩
        · first | omega | (unfold xI; omega) | exact ⟨by omega, by unfold xI; omega⟩ | (exfalso; omega)
        refine ⟨?_, ?_⟩
        · first | omega | (unfold xI; omega) | exact ⟨by omega, by unfold xI; omega⟩ | (exfalso; omega)
        refine ⟨fun c2 => ?_, fun c2 => ?_⟩
        · skip
          refine ⟨?_, ?_⟩
          · first | omega | (unfold xI; omega) | exact ⟨by omega, by unfold xI; omega⟩ | (exfalso; omega)
          refine ⟨?_, ?_⟩
          · first | omega | (unfold xI; omega) | exact ⟨by omega, by unfold xI; omega⟩ | (exfalso; omega)
          refine ⟨?_, ?_⟩
          · first | omega | (unfold xI; omega) | exact ⟨by omega, by unfold xI; omega⟩ | (exfalso; omega)
          refine ⟨?_, ?_⟩
          · first | omega | (unfold xI; omega) | exact ⟨by omega, by unfold xI; omega⟩ | (exfalso; omega)
          refine ⟨?_, ?_⟩
          · first | omega | (unfold xI; omega) | exact ⟨by omega, by unfold xI; omega⟩ | (exfalso; omega)
          first | exact nx | (exfalso; omega)
        · skip
          first | exact nx | (exfalso; omega)
      · skip
        refine ⟨?_, ?_⟩
        · first | omega | (unfold xI; omega) | exact ⟨by omega, by unfold xI; omega⟩ | (exfalso; omega)
        refine ⟨fun c3 => ?_, fun c3 => ?_⟩
        · skip
          refine ⟨?_, ?_⟩
          · first | omega | (unfold xI; omega) | exact ⟨by omega, by unfold xI; omega⟩ | (exfalso; omega)
          refine ⟨?_, ?_⟩
          · first | omega | (unfold xI; omega) | exact ⟨by omega, by unfold xI; omega⟩ | (exfalso; omega)
          refine ⟨?_, ?_⟩
          · first | omega | (unfold xI; omega) | exact ⟨by omega, by unfold xI; omega⟩ | (exfalso; omega)
          refine ⟨?_, ?_⟩
          · first | omega | (unfold xI; omega) | exact ⟨by omega, by unfold xI; omega⟩ | (exfalso; omega)
          refine ⟨?_, ?_⟩
          · first | omega | (unfold xI; omega) | exact ⟨by omega, by unfold xI; omega⟩ | (exfalso; omega)
          first | exact nx | (exfalso; omega)
        · skip
          refine ⟨?_, ?_⟩
          · first | omega | (unfold xI; omega) | exact ⟨by omega, by unfold xI; omega⟩ | (exfalso; omega)
          refine ⟨?_, ?_⟩
          · first | omega | (unfold xI; omega) | exact ⟨by omega, by unfold xI; omega⟩ | (exfalso; omega)
          first | exact nx | (exfalso; omega)
  exact U_205 (by omega) h (key 5 0 h (by decide) (by decide) (fun _ _ => rfl) (fun _ _ => rfl) (fun k p q => absurd q (by omega)))

theorem s_211w {X : Int × (Int → Int)} {d : Nat} {Q : Int → XH → Prop} {lo : Option (List (Int × List Int))} {n : Int} {f G : Int → Int} {T a b c : Int} {h : XH} (hd : 8 ≤ d) {w : Int → Int} (k u : Int) (K : wCo lo n f G T a b c h) (V : ∀ i, 0 ≤ i → i ≤ 10 → h 62 i = w i) (hw : ∀ i, 0 ≤ i → i ≤ 10 → -1000000 ≤ w i ∧ w i ≤ 1000000) (pk : 0 ≤ k ∧ k ≤ 3) (hQ : ∀ y h1, y = tlV lo w k u → wF h h1 → wCo lo n f G T a b c h1 → (∀ i, 0 ≤ i → i ≤ 10 → h1 62 i = w i) → Q y h1) : xc X d 211 [(2, 58), (0, k), (0, u)] h Q := by
  have K0 := K
  obtain ⟨k6, kl, kT, kG, ⟨kn, kf⟩, ka, kb, kc⟩ := K
  cases lo with
  | none => exact s_211n hd k u h k6 kl (hQ _ h rfl (wF_refl h) K0 V)
  | some L =>
    obtain ⟨t, l1, l2, l3⟩ := kl
    refine s_211 hd t k u L h k6 l1 l2 l3 (fun i p q => by rw [V i p q]; exact hw i p q) pk (fun h1 f1 => ?_)
    refine hQ _ h1 (jdV_cg V k L u) (fun o q => f1.1 o (by omega) (by omega)) ⟨by rw [f1.2 6 (by decide)]; exact k6, lwC_fr (f1.1 53 (by decide) (by decide)) (f1.1 54 (by decide) (by decide)) (f1.2 7 (by decide)) ⟨t, l1, l2, l3⟩, by rw [f1.2 2 (by decide)]; exact kT, by rw [f1.1 61 (by decide) (by decide)]; exact kG, ⟨by rw [f1.1 59 (by decide) (by decide)]; exact kn, by rw [f1.1 60 (by decide) (by decide)]; exact kf⟩, ?_, ?_, ?_⟩ (fun i p q => ?_)
    · rw [f1.1 62 (by decide) (by decide)]
      exact ka
    · rw [f1.1 62 (by decide) (by decide)]
      exact kb
    · rw [f1.1 62 (by decide) (by decide)]
      exact kc
    · rw [f1.1 62 (by decide) (by decide)]
      exact V i p q

theorem U_212 {X : Int × (Int → Int)} {d : Nat} {Q : Int → XH → Prop} (hd : 0 ≤ d) (a : Int) (H : XH) (h : xq X d 212 Q 2 [(0, (2, 59)), (1, (0, a)), (2, (0, 0))] [] H) : xc X (d + 1) 212 [(2, 59), (0, a)] H Q := by
  refine ⟨rfl, ?_⟩
  show xq X d 212 Q 100000 [(0, (2, 59)), (1, (0, a))] [] H
  refine xq_run [2, 42, 55, 65, 82, 85] 300 ?_
  show xq X d 212 Q 2 [(0, (2, 59)), (1, (0, a)), (2, (0, 0))] [] H
  exact h
theorem U_212_2 {X : Int × (Int → Int)} {d : Nat} {Q : Int → XH → Prop} (hd : 0 ≤ d) (v1 v2 : Int) (H : XH) (h : (xI ((H 59 1) * 5)) ∧ (((H 59 1) * 5 ≤ v2) → xq X d 212 Q 42 [(0, (2, 59)), (2, (0, 0)), (3, (0, 0))] [] H) ∧ (¬ ((H 59 1) * 5 ≤ v2) → ((0 : Int) ≤ v2 ∧ (v2 : Int) < 40) ∧ ((0 : Int) ≤ v2 ∧ (v2 : Int) < 40) ∧ (xI ((H 60 v2) * v1)) ∧ (¬ (100 : Int) = 0 ∧ xI (Int.tdiv ((H 60 v2) * v1) 100)) ∧ (xI ((H 60 v2) - (Int.tdiv ((H 60 v2) * v1) 100))) ∧ ((0 : Int) ≤ v2 ∧ (v2 : Int) < 40) ∧ (xI (v2 + 1)) ∧ xq X d 212 Q 2 [(0, (2, 59)), (1, (0, v1)), (2, (0, v2 + 1))] [] (xup H 60 v2 ((H 60 v2) - (Int.tdiv ((H 60 v2) * v1) 100))))) : xq X d 212 Q 2 [(0, (2, 59)), (1, (0, v1)), (2, (0, v2))] [] H := by
  show xq X d 212 Q 2 [(0, (2, 59)), (1, (0, v1)), (2, (0, v2))] [] H
  refine xq_run [2, 42, 55, 65, 82, 85] 300 ?_
  show (xI ((H 59 1) * 5)) ∧ (((H 59 1) * 5 ≤ v2) → xq X d 212 Q 42 [(0, (2, 59)), (2, (0, 0)), (3, (0, 0))] [] H) ∧ (¬ ((H 59 1) * 5 ≤ v2) → ((0 : Int) ≤ v2 ∧ (v2 : Int) < 40) ∧ ((0 : Int) ≤ v2 ∧ (v2 : Int) < 40) ∧ (xI ((H 60 v2) * v1)) ∧ (¬ (100 : Int) = 0 ∧ xI (Int.tdiv ((H 60 v2) * v1) 100)) ∧ (xI ((H 60 v2) - (Int.tdiv ((H 60 v2) * v1) 100))) ∧ ((0 : Int) ≤ v2 ∧ (v2 : Int) < 40) ∧ (xI (v2 + 1)) ∧ xq X d 212 Q 2 [(0, (2, 59)), (1, (0, v1)), (2, (0, v2 + 1))] [] (xup H 60 v2 ((H 60 v2) - (Int.tdiv ((H 60 v2) * v1) 100))))
  refine ⟨h.1, ?_⟩
  replace h := h.2
  refine ⟨fun k_ => ?_, fun k_ => ?_⟩
  · replace h := h.1 k_
    exact h
  · replace h := h.2 k_
    refine ⟨h.1, ?_⟩
    replace h := h.2
    refine ⟨h.1, ?_⟩
    replace h := h.2
    refine ⟨h.1, ?_⟩
    replace h := h.2
    refine ⟨h.1, ?_⟩
    replace h := h.2
    refine ⟨h.1, ?_⟩
    replace h := h.2
    refine ⟨h.1, ?_⟩
    replace h := h.2
    refine ⟨h.1, ?_⟩
    replace h := h.2
    exact h
theorem U_212_42 {X : Int × (Int → Int)} {d : Nat} {Q : Int → XH → Prop} (hd : 3 ≤ d) (v2 v3 : Int) (H : XH) (h : ((H 59 1 ≤ v3) → Q 0 (xup H 59 1 v2)) ∧ (¬ (H 59 1 ≤ v3) → (0 ≤ H 59 1 ∧ H 59 1 ≤ 8) ∧ (∀ k, 0 ≤ k → k < 5 * H 59 1 → 0 ≤ H 60 k ∧ H 60 k ≤ 100000) ∧ (((1 ≤ if 0 ≤ v3 ∧ v3 < H 59 1 then sum5 (H 60) (v3 * 5) else 0) → xq X d 212 Q 65 [(0, (2, 59)), (2, (0, v2)), (3, (0, v3)), (4, (0, 0))] [] H) ∧ (¬ (1 ≤ if 0 ≤ v3 ∧ v3 < H 59 1 then sum5 (H 60) (v3 * 5) else 0) → (xI (v3 + 1)) ∧ xq X d 212 Q 42 [(0, (2, 59)), (2, (0, v2)), (3, (0, v3 + 1))] [] H)))) : xq X d 212 Q 42 [(0, (2, 59)), (2, (0, v2)), (3, (0, v3))] [] H := by
  show xq X d 212 Q 42 [(0, (2, 59)), (2, (0, v2)), (3, (0, v3))] [] H
  refine xq_run [2, 42, 55, 65, 82, 85] 300 ?_
  show ((H 59 1 ≤ v3) → xfR 2 0 ∧ xKZ = xKZ ∧ Q 0 (xup H 59 1 v2)) ∧ (¬ (H 59 1 ≤ v3) → xWM (xE X) xMC d 79 [(2, 59), (0, v3)] xKZ H _)
  refine ⟨fun k_ => ?_, fun k_ => ?_⟩
  · replace h := h.1 k_
    exact ⟨trivial, rfl, h⟩
  · replace h := h.2 k_
    refine xc_in (s_79_o59 (by omega) v3 H (h.1) (h.2.1) ?_)
    replace h := h.2.2
    show xq X d 212 Q 55 [(0, (2, 59)), (2, (0, v2)), (3, (0, v3))] [(0, if 0 ≤ v3 ∧ v3 < H 59 1 then sum5 (H 60) (v3 * 5) else 0)] H
    refine xq_run [2, 42, 55, 65, 82, 85] 300 ?_
    show ((1 ≤ if 0 ≤ v3 ∧ v3 < H 59 1 then sum5 (H 60) (v3 * 5) else 0) → xq X d 212 Q 65 [(0, (2, 59)), (2, (0, v2)), (3, (0, v3)), (4, (0, 0))] [] H) ∧ (¬ (1 ≤ if 0 ≤ v3 ∧ v3 < H 59 1 then sum5 (H 60) (v3 * 5) else 0) → (xI (v3 + 1)) ∧ xq X d 212 Q 42 [(0, (2, 59)), (2, (0, v2)), (3, (0, v3 + 1))] [] H)
    refine ⟨fun k_ => ?_, fun k_ => ?_⟩
    · replace h := h.1 k_
      exact h
    · replace h := h.2 k_
      refine ⟨h.1, ?_⟩
      replace h := h.2
      exact h
theorem U_212_65 {X : Int × (Int → Int)} {d : Nat} {Q : Int → XH → Prop} (hd : 3 ≤ d) (v2 v3 v4 : Int) (H : XH) (h : ((5 ≤ v4) → (xI (v2 + 1)) ∧ (xI (v3 + 1)) ∧ xq X d 212 Q 42 [(0, (2, 59)), (2, (0, v2 + 1)), (3, (0, v3 + 1))] [] H) ∧ (¬ (5 ≤ v4) → (0 ≤ v3 ∧ v3 < H 59 1) ∧ (0 ≤ v4 ∧ v4 < 5) ∧ (H 59 1 ≤ 8) ∧ ((0 ≤ v2 ∧ v2 < H 59 1) ∧ ((0 : Int) ≤ v4 ∧ (v4 : Int) ≤ 4) ∧ (H 59 1 ≤ 8) ∧ (∀ (h1762 : XH), (h1762 = xup H 60 (v2 * 5 + v4) (H 60 (v3 * 5 + v4))) → (xI (v4 + 1)) ∧ xq X d 212 Q 65 [(0, (2, 59)), (2, (0, v2)), (3, (0, v3)), (4, (0, v4 + 1))] [] h1762)))) : xq X d 212 Q 65 [(0, (2, 59)), (2, (0, v2)), (3, (0, v3)), (4, (0, v4))] [] H := by
  show xq X d 212 Q 65 [(0, (2, 59)), (2, (0, v2)), (3, (0, v3)), (4, (0, v4))] [] H
  refine xq_run [2, 42, 55, 65, 82, 85] 300 ?_
  show ((5 ≤ v4) → (xI (v2 + 1)) ∧ (xI (v3 + 1)) ∧ xq X d 212 Q 42 [(0, (2, 59)), (2, (0, v2 + 1)), (3, (0, v3 + 1))] [] H) ∧ (¬ (5 ≤ v4) → xWM (xE X) xMC d 80 [(2, 59), (0, v3), (0, v4)] xKZ H _)
  refine ⟨fun k_ => ?_, fun k_ => ?_⟩
  · replace h := h.1 k_
    refine ⟨h.1, ?_⟩
    replace h := h.2
    refine ⟨h.1, ?_⟩
    replace h := h.2
    exact h
  · replace h := h.2 k_
    refine xc_in (s_80_o59 (by omega) v3 v4 H (h.1) (h.2.1) (h.2.2.1) ?_)
    replace h := h.2.2.2
    show xq X d 212 Q 82 [(0, (2, 59)), (2, (0, v2)), (3, (0, v3)), (4, (0, v4))] [(0, H 60 (v3 * 5 + v4)), (0, v4), (0, v2), (2, 59)] H
    refine xq_run [2, 42, 55, 65, 82, 85] 300 ?_
    show xWM (xE X) xMC d 50 [(2, 59), (0, v2), (0, v4), (0, H 60 (v3 * 5 + v4))] xKZ H _
    refine xc_in (s_50b_o59 (by omega) v2 v4 (H 60 (v3 * 5 + v4)) H (h.1) (h.2.1) (h.2.2.1) ?_)
    intro h1762 q_0
    replace h := h.2.2.2 h1762 q_0
    show xq X d 212 Q 85 [(0, (2, 59)), (2, (0, v2)), (3, (0, v3)), (4, (0, v4))] [] h1762
    refine xq_run [2, 42, 55, 65, 82, 85] 300 ?_
    show (xI (v4 + 1)) ∧ xq X d 212 Q 65 [(0, (2, 59)), (2, (0, v2)), (3, (0, v3)), (4, (0, v4 + 1))] [] h1762
    refine ⟨h.1, ?_⟩
    replace h := h.2
    exact h

theorem s_212w {X : Int × (Int → Int)} {d : Nat} {Q : Int → XH → Prop} {lo : Option (List (Int × List Int))} {n : Int} {f G : Int → Int} {T a b c : Int} {h : XH} (hd : 5 ≤ d) (x : Int) (hx : 0 ≤ x ∧ x ≤ 100) (K : wCo lo n f G T a b c h) (I : (0 ≤ n ∧ n ≤ 8) ∧ rgF n f) (hQ : ∀ h1, wF h h1 → wCo lo (cmS n.toNat 0 0 (lsF f x)).1 (cmS n.toNat 0 0 (lsF f x)).2 G T a b c h1 → Q 0 h1) : xc X d 212 [(2, 59), (0, x)] h Q := by
  cases d with
  | zero => omega
  | succ d =>
  obtain ⟨k6, kl, kT, kG, ⟨kn, kf⟩, ka, kb, kc⟩ := K
  have I1 := I.1
  have fin : ∀ (m : Int) (g : Int → Int) (h' : XH), (∀ o, ¬ o = 60 → h' o = h o) → (∀ k, 0 ≤ k → k < 5 * m → h' 60 k = g k) → (m, g) = cmS n.toNat 0 0 (lsF f x) → Q 0 (xup h' 59 1 m) := fun m g h' fo fk ez => by
    have z := hQ (xup h' 59 1 m)
    rw [← ez] at z
    have o' : ∀ o, ¬ o = 59 → ¬ o = 60 → xup h' 59 1 m o = h o := fun o p q => by
      rw [xup_ne p]
      exact fo o q
    exact z (fun o q => o' o (by omega) (by omega)) ⟨by rw [o' 58 (by decide) (by decide)]; exact k6, lwC_fr (o' 53 (by decide) (by decide)) (o' 54 (by decide) (by decide)) (congrFun (o' 58 (by decide) (by decide)) 7) kl, by rw [o' 58 (by decide) (by decide)]; exact kT, by rw [o' 61 (by decide) (by decide)]; exact kG, ⟨xup_self _ _ _ _, by rw [xup_ne (by decide)]; exact fk⟩, by rw [o' 62 (by decide) (by decide)]; exact ka, by rw [o' 62 (by decide) (by decide)]; exact kb, by rw [o' 62 (by decide) (by decide)]; exact kc⟩
  have key2 : ∀ (r : Nat) (l m : Int) (g : Int → Int) (h' : XH), l + (r : Int) = n → 0 ≤ m → m ≤ l → (∀ o, ¬ o = 60 → h' o = h o) → (∀ k, 0 ≤ k → k < 5 * n → h' 60 k = g k) → rgF n g → cmS r l m g = cmS n.toNat 0 0 (lsF f x) → xq X d 212 Q 42 [(0, (2, 59)), (2, (0, m)), (3, (0, l))] [] h' := by
    intro r
    induction r with
    | zero =>
      intro l m g h' el h0 hm fo fk rg ez
      have e1 : h' 59 1 = n := by rw [fo 59 (by decide)]; exact kn
      have z := fin m g h' fo (fun k p q => fk k p (by omega)) ez
      have r60 : ∀ k, 0 ≤ k → k < 5 * n → 0 ≤ h' 60 k ∧ h' 60 k ≤ 999 := rgF_8 fk rg
      refine U_212_42 (by omega) m l h' ?_
      rw [e1]
      refine ⟨fun c1 => ?_, fun c1 => ?_⟩
      · skip
        exact z
      · skip
        refine ⟨?_, ?_⟩
        · first | omega | (unfold xI; omega) | (intro k p q; have := r60 k p q; omega) | (exfalso; omega)
        refine ⟨?_, ?_⟩
        · first | omega | (unfold xI; omega) | (intro k p q; have := r60 k p q; omega) | (exfalso; omega)
        refine ⟨fun c2 => ?_, fun c2 => ?_⟩
        · skip
          exfalso
          omega
        · skip
          refine ⟨?_, ?_⟩
          · first | omega | (unfold xI; omega) | (intro k p q; have := r60 k p q; omega) | (exfalso; omega)
          exfalso
          omega
    | succ r ih =>
      intro l m g h' el h0 hm fo fk rg ez
      have e1 : h' 59 1 = n := by rw [fo 59 (by decide)]; exact kn
      have em : (if 0 ≤ l ∧ l < n then sum5 (h' 60) (l * 5) else 0) = sum5 g (5 * l) := by
        rw [if_pos (by omega), show l * 5 = 5 * l by omega]
        exact sum5_congr (fun k p q => fk k (by omega) (by omega))
      have r60 : ∀ k, 0 ≤ k → k < 5 * n → 0 ≤ h' 60 k ∧ h' 60 k ≤ 999 := rgF_8 fk rg
      have no : ¬ 1 ≤ sum5 g (5 * l) → xq X d 212 Q 42 [(0, (2, 59)), (2, (0, m)), (3, (0, l + 1))] [] h' := fun q => ih (l + 1) m g h' (by omega) h0 (by omega) fo fk rg (by rw [← cmS_0 q]; exact ez)
      have yes : 1 ≤ sum5 g (5 * l) → xq X d 212 Q 65 [(0, (2, 59)), (2, (0, m)), (3, (0, l)), (4, (0, 0))] [] h' := fun q => by
        have key3 : ∀ (r3 : Nat) (s : Int) (h3 : XH), s + (r3 : Int) = 5 → 0 ≤ s → (∀ o, ¬ o = 60 → h3 o = h o) → (∀ k, 0 ≤ k → k < 5 * n → h3 60 k = if 5 * m ≤ k ∧ k < 5 * m + s then g (5 * l + (k - 5 * m)) else g k) → xq X d 212 Q 65 [(0, (2, 59)), (2, (0, m)), (3, (0, l)), (4, (0, s))] [] h3 := by
          intro r3
          induction r3 with
          | zero =>
            intro s h3 es hs fo3 fk3
            have es' : s = 5 := by omega
            subst es'
            have z := ih (l + 1) (m + 1) (cmG g m l) h3 (by omega) (by omega) (by omega) fo3 fk3 (cmG_rg ⟨h0, hm, by omega⟩ rg) (by rw [← cmS_1 q]; exact ez)
            have e3 : h3 59 1 = n := by rw [fo3 59 (by decide)]; exact kn
            refine U_212_65 (by omega) m l 5 h3 ?_
            rw [e3]
            refine ⟨fun c1 => ?_, fun c1 => ?_⟩
            · skip
              refine ⟨?_, ?_⟩
              · first | omega | (unfold xI; omega) | (exfalso; omega)
              refine ⟨?_, ?_⟩
              · first | omega | (unfold xI; omega) | (exfalso; omega)
              exact z
            · skip
              refine ⟨?_, ?_⟩
              · first | omega | (unfold xI; omega) | (exfalso; omega)
              refine ⟨?_, ?_⟩
              · first | omega | (unfold xI; omega) | (exfalso; omega)
              refine ⟨?_, ?_⟩
              · first | omega | (unfold xI; omega) | (exfalso; omega)
              refine ⟨?_, ?_⟩
              · first | omega | (unfold xI; omega) | (exfalso; omega)
              refine ⟨?_, ?_⟩
              · first | omega | (unfold xI; omega) | (exfalso; omega)
              refine ⟨?_, ?_⟩
              · first | omega | (unfold xI; omega) | (exfalso; omega)
              intro h1763 c2
              refine ⟨?_, ?_⟩
              · first | omega | (unfold xI; omega) | (exfalso; omega)
              exfalso
              omega
          | succ r3 ih3 =>
            intro s h3 es hs fo3 fk3
            have e3 : h3 59 1 = n := by rw [fo3 59 (by decide)]; exact kn
            have e4 : h3 60 (l * 5 + s) = g (5 * l + s) := by
              rw [show l * 5 + s = 5 * l + s by omega, fk3 _ (by omega) (by omega)]
              by_cases y : m = l
              · rw [if_neg (by omega)]
              · rw [if_neg (by omega)]
            have z := ih3 (s + 1) (xup h3 60 (m * 5 + s) (g (5 * l + s))) (by omega) (by omega) (fun o y => by rw [xup_ne y]; exact fo3 o y) (fun k p y => by
              by_cases e : k = m * 5 + s
              · rw [e, xup_self, if_pos (by omega), show m * 5 + s - 5 * m = s by omega]
              · rw [xup_k e, fk3 k p y]
                by_cases y2 : 5 * m ≤ k ∧ k < 5 * m + s
                · rw [if_pos y2, if_pos (by omega)]
                · rw [if_neg y2, if_neg (by omega)])
            refine U_212_65 (by omega) m l s h3 ?_
            rw [e3, e4]
            refine ⟨fun c1 => ?_, fun c1 => ?_⟩
            · skip
              refine ⟨?_, ?_⟩
              · first | omega | (unfold xI; omega) | (exfalso; omega)
              refine ⟨?_, ?_⟩
              · first | omega | (unfold xI; omega) | (exfalso; omega)
              exfalso
              omega
            · skip
              refine ⟨?_, ?_⟩
              · first | omega | (unfold xI; omega) | (exfalso; omega)
              refine ⟨?_, ?_⟩
              · first | omega | (unfold xI; omega) | (exfalso; omega)
              refine ⟨?_, ?_⟩
              · first | omega | (unfold xI; omega) | (exfalso; omega)
              refine ⟨?_, ?_⟩
              · first | omega | (unfold xI; omega) | (exfalso; omega)
              refine ⟨?_, ?_⟩
              · first | omega | (unfold xI; omega) | (exfalso; omega)
              refine ⟨?_, ?_⟩
              · first | omega | (unfold xI; omega) | (exfalso; omega)
              intro h1764 c2
              subst c2
              refine ⟨?_, ?_⟩
              · first | omega | (unfold xI; omega) | (exfalso; omega)
              exact z
        exact key3 5 0 h' (by decide) (by decide) fo (fun k p y => by rw [if_neg (by omega)]; exact fk k p y)
      refine U_212_42 (by omega) m l h' ?_
      rw [e1, em]
      refine ⟨fun c1 => ?_, fun c1 => ?_⟩
      · skip
        first | (exfalso; omega) | exact yes (by omega) | exact no (by omega)
      · skip
        refine ⟨?_, ?_⟩
        · first | omega | (unfold xI; omega) | (intro k p q; have := r60 k p q; omega) | (exfalso; omega)
        refine ⟨?_, ?_⟩
        · first | omega | (unfold xI; omega) | (intro k p q; have := r60 k p q; omega) | (exfalso; omega)
        refine ⟨fun c2 => ?_, fun c2 => ?_⟩
        · skip
          first | (exfalso; omega) | exact yes (by omega) | exact no (by omega)
        · skip
          refine ⟨?_, ?_⟩
          · first | omega | (unfold xI; omega) | (intro k p q; have := r60 k p q; omega) | (exfalso; omega)
          first | (exfalso; omega) | exact yes (by omega) | exact no (by omega)
  have key1 : ∀ (r : Nat) (i : Int) (h' : XH), i + (r : Int) = 5 * n → 0 ≤ i → (∀ o, ¬ o = 60 → h' o = h o) → (∀ k, 0 ≤ k → k < i → h' 60 k = lsF f x k) → (∀ k, i ≤ k → k < 5 * n → h' 60 k = f k) → xq X d 212 Q 2 [(0, (2, 59)), (1, (0, x)), (2, (0, i))] [] h' := by
    intro r
    induction r with
    | zero =>
      intro i h' ei h0 fo fk fl
      have e1 : h' 59 1 = n := by rw [fo 59 (by decide)]; exact kn
      have z := key2 n.toNat 0 0 (lsF f x) h' (by omega) (by decide) (by decide) fo (fun k p q => fk k p (by omega)) (lsF_rg hx I.2) rfl
      refine U_212_2 (by omega) x i h' ?_
      rw [e1]
      refine ⟨?_, ?_⟩
      · first | omega | (unfold xI; omega) | (exfalso; omega)
      refine ⟨fun c1 => ?_, fun c1 => ?_⟩
      · skip
        exact z
      · skip
        refine ⟨?_, ?_⟩
        · first | omega | (unfold xI; omega) | (exfalso; omega)
        refine ⟨?_, ?_⟩
        · first | omega | (unfold xI; omega) | (exfalso; omega)
        refine ⟨?_, ?_⟩
        · first | omega | (unfold xI; omega) | (exfalso; omega)
        refine ⟨?_, ?_⟩
        · first | omega | (unfold xI; omega) | (exfalso; omega)
        refine ⟨?_, ?_⟩
        · first | omega | (unfold xI; omega) | (exfalso; omega)
        refine ⟨?_, ?_⟩
        · first | omega | (unfold xI; omega) | (exfalso; omega)
        refine ⟨?_, ?_⟩
        · first | omega | (unfold xI; omega) | (exfalso; omega)
        exfalso
        omega
    | succ r ih =>
      intro i h' ei h0 fo fk fl
      have e1 : h' 59 1 = n := by rw [fo 59 (by decide)]; exact kn
      have e2 : h' 60 i = f i := fl i (Int.le_refl _) (by omega)
      have lb := ls_1 (I.2 i h0 (by omega)) hx
      have fi := I.2 i h0 (by omega)
      have z := ih (i + 1) (xup h' 60 i (f i - (f i * x).tdiv 100)) (by omega) (by omega) (fun o y => by rw [xup_ne y]; exact fo o y) (fun k p y => by
        by_cases e : k = i
        · rw [e, xup_self]
          rfl
        · rw [xup_k e]
          exact fk k p (by omega)) (fun k p y => by rw [xup_k (by omega)]; exact fl k (by omega) y)
      refine U_212_2 (by omega) x i h' ?_
      rw [e1, e2]
      refine ⟨?_, ?_⟩
      · first | omega | (unfold xI; omega) | exact ⟨by decide, by unfold xI; omega⟩ | (exfalso; omega)
      refine ⟨fun c1 => ?_, fun c1 => ?_⟩
      · skip
        exfalso
        omega
      · skip
        refine ⟨?_, ?_⟩
        · first | omega | (unfold xI; omega) | exact ⟨by decide, by unfold xI; omega⟩ | (exfalso; omega)
        refine ⟨?_, ?_⟩
        · first | omega | (unfold xI; omega) | exact ⟨by decide, by unfold xI; omega⟩ | (exfalso; omega)
        refine ⟨?_, ?_⟩
        · first | omega | (unfold xI; omega) | exact ⟨by decide, by unfold xI; omega⟩ | (exfalso; omega)
        refine ⟨?_, ?_⟩
        · first | omega | (unfold xI; omega) | exact ⟨by decide, by unfold xI; omega⟩ | (exfalso; omega)
        refine ⟨?_, ?_⟩
        · first | omega | (unfold xI; omega) | exact ⟨by decide, by unfold xI; omega⟩ | (exfalso; omega)
        refine ⟨?_, ?_⟩
        · first | omega | (unfold xI; omega) | exact ⟨by decide, by unfold xI; omega⟩ | (exfalso; omega)
        refine ⟨?_, ?_⟩
        · first | omega | (unfold xI; omega) | exact ⟨by decide, by unfold xI; omega⟩ | (exfalso; omega)
        exact z
  refine U_212 (by omega) x h ?_
  exact key1 (5 * n).toNat 0 h (by omega) (by decide) (fun _ _ => rfl) (fun k p q => absurd q (by omega)) (fun k p q => kf k p q)

theorem U_213 {X : Int × (Int → Int)} {d : Nat} {Q : Int → XH → Prop} (hd : 0 ≤ d) (H : XH) (h : ((H 59 1 ≤ 0) → Q 0 H) ∧ (¬ (H 59 1 ≤ 0) → (xI ((H 59 1) - 1)) ∧ Q 0 (xup H 59 1 ((H 59 1) - 1)))) : xc X (d + 1) 213 [(2, 59)] H Q := by
  refine ⟨rfl, ?_⟩
  show xq X d 213 Q 100000 [(0, (2, 59))] [] H
  refine xq_run [] 300 ?_
  show ((H 59 1 ≤ 0) → xfR 2 0 ∧ xKZ = xKZ ∧ Q 0 H) ∧ (¬ (H 59 1 ≤ 0) → (xI ((H 59 1) - 1)) ∧ xfR 2 0 ∧ xKZ = xKZ ∧ Q 0 (xup H 59 1 ((H 59 1) - 1)))
  refine ⟨fun k_ => ?_, fun k_ => ?_⟩
  · replace h := h.1 k_
    exact ⟨trivial, rfl, h⟩
  · replace h := h.2 k_
    refine ⟨h.1, ?_⟩
    replace h := h.2
    exact ⟨trivial, rfl, h⟩

theorem s_213w {X : Int × (Int → Int)} {d : Nat} {Q : Int → XH → Prop} {lo : Option (List (Int × List Int))} {n : Int} {f G : Int → Int} {T a b c : Int} {h : XH} (hd : 1 ≤ d) (K : wCo lo n f G T a b c h) (I : 0 ≤ n ∧ n ≤ 8) (hQ : ∀ h1, wF h h1 → wCo lo (if 0 < n then n - 1 else n) f G T a b c h1 → Q 0 h1) : xc X d 213 [(2, 59)] h Q := by
  cases d with
  | zero => omega
  | succ d =>
  have K0 := K
  obtain ⟨k6, kl, kT, kG, ⟨kn, kf⟩, ka, kb, kc⟩ := K
  refine U_213 (by omega) h ?_
  rw [kn]
  by_cases q : 0 < n
  · rw [if_pos q] at hQ
    have z := hQ (xup h 59 1 (n - 1)) (wF_up (wF_refl h) (by decide)) ⟨by rw [xup_ne (by decide)]; exact k6, lwC_fr (xup_ne (by decide)) (xup_ne (by decide)) (by rw [xup_ne (by decide)]) kl, by rw [xup_ne (by decide)]; exact kT, by rw [xup_ne (by decide)]; exact kG, ⟨xup_self _ _ _ _, fun k x y => by rw [xup_ne (by decide)]; exact kf k x (by omega)⟩, by rw [xup_ne (by decide)]; exact ka, by rw [xup_ne (by decide)]; exact kb, by rw [xup_ne (by decide)]; exact kc⟩
    refine ⟨fun c1 => ?_, fun c1 => ?_⟩
    · skip
      first | exact z | (exfalso; omega)
    · skip
      refine ⟨?_, ?_⟩
      · first | omega | (unfold xI; omega) | (unfold xJ; omega) | (exfalso; omega)
      first | exact z | (exfalso; omega)
  · rw [if_neg q] at hQ
    have z := hQ h (wF_refl h) K0
    refine ⟨fun c1 => ?_, fun c1 => ?_⟩
    · skip
      first | exact z | (exfalso; omega)
    · skip
      refine ⟨?_, ?_⟩
      · first | omega | (unfold xI; omega) | (unfold xJ; omega) | (exfalso; omega)
      first | exact z | (exfalso; omega)

theorem U_214 {X : Int × (Int → Int)} {d : Nat} {Q : Int → XH → Prop} (hd : 0 ≤ d) (t s : Int) (H : XH) (h : ((1 ≤ H 58 2) → ((0 : Int) ≤ s ∧ (s : Int) < 5) ∧ (xI (t * (H 61 s))) ∧ (¬ H 58 2 = 0 ∧ xI (Int.tdiv (t * (H 61 s)) (H 58 2))) ∧ Q (Int.tdiv (t * (H 61 s)) (H 58 2)) H) ∧ (¬ (1 ≤ H 58 2) → Q 0 H)) : xc X (d + 1) 214 [(2, 58), (0, t), (0, s)] H Q := by
  refine ⟨rfl, ?_⟩
  show xq X d 214 Q 100000 [(0, (2, 58)), (1, (0, t)), (2, (0, s))] [] H
  refine xq_run [] 300 ?_
  show ((1 ≤ H 58 2) → ((0 : Int) ≤ s ∧ (s : Int) < 5) ∧ (xI (t * (H 61 s))) ∧ (¬ H 58 2 = 0 ∧ xI (Int.tdiv (t * (H 61 s)) (H 58 2))) ∧ xfR 0 (Int.tdiv (t * (H 61 s)) (H 58 2)) ∧ xKZ = xKZ ∧ Q (Int.tdiv (t * (H 61 s)) (H 58 2)) H) ∧ (¬ (1 ≤ H 58 2) → xfR 0 0 ∧ xKZ = xKZ ∧ Q 0 H)
  refine ⟨fun k_ => ?_, fun k_ => ?_⟩
  · replace h := h.1 k_
    refine ⟨h.1, ?_⟩
    replace h := h.2
    refine ⟨h.1, ?_⟩
    replace h := h.2
    refine ⟨h.1, ?_⟩
    replace h := h.2
    exact ⟨trivial, rfl, h⟩
  · replace h := h.2 k_
    exact ⟨trivial, rfl, h⟩

theorem s_214w {X : Int × (Int → Int)} {d : Nat} {Q : Int → XH → Prop} {lo : Option (List (Int × List Int))} {n : Int} {f G : Int → Int} {T a b c : Int} {h : XH} (hd : 1 ≤ d) (t s : Int) (K : wCo lo n f G T a b c h) (g : gdI G T a b c) (ht : 0 ≤ t ∧ t ≤ 99) (hs : 0 ≤ s ∧ s < 5) (hQ : ∀ y, y = grV t G T s → (0 ≤ y ∧ y ≤ 576000) → Q y h) : xc X d 214 [(2, 58), (0, t), (0, s)] h Q := by
  cases d with
  | zero => omega
  | succ d =>
  obtain ⟨k6, kl, kT, kG, ⟨kn, kf⟩, ka, kb, kc⟩ := K
  have e := kG s hs.1 hs.2
  have gT := gdI_T g
  have gr := gr_1 (x := t) g hs ⟨ht.1, by omega⟩
  have z := hQ _ rfl gr.2
  refine U_214 (by omega) t s h ?_
  rw [kT, e]
  refine ⟨fun c1 => ?_, fun c1 => ?_⟩
  · skip
    refine ⟨?_, ?_⟩
    · first | omega | (unfold xI; omega) | exact ⟨by omega, by unfold xI; omega⟩ | (exfalso; omega)
    refine ⟨?_, ?_⟩
    · first | omega | (unfold xI; omega) | exact ⟨by omega, by unfold xI; omega⟩ | (exfalso; omega)
    refine ⟨?_, ?_⟩
    · first | omega | (unfold xI; omega) | exact ⟨by omega, by unfold xI; omega⟩ | (exfalso; omega)
    first | exact z | (exfalso; omega)
  · skip
    first | exact z | (exfalso; omega)
