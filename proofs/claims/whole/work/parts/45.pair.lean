/-! THE PURE LAYER 15: dig, the pair -/
theorem putM_o (H : XH) (c a b e f g o : Int) (h : ¬ o = 68) : putM H c a b e f g o = H o := by
  unfold putM
  rw [xup_ne h, xup_ne h, xup_ne h, xup_ne h, xup_ne h, xup_ne h, xup_ne h]
theorem dig_inv (H : XH) (hi : InvS H) (c a b e f g : Int) (hc : 0 ≤ c ∧ c < H 67 1) (ha : 0 ≤ a ∧ a ≤ 9) (hb : 0 ≤ b ∧ b ≤ 9) (he : 0 ≤ e ∧ e ≤ 9) (hf : 0 ≤ f ∧ f ≤ 9) (hgg : 0 ≤ g ∧ g ≤ 9) (h1 : 1 ≤ a + b + e + f + g) : InvS (putM (putD H c a b e f g) c a b e f g) := by
  have hg := hi.1
  have hs := hi.2
  have nn := hg.nn
  have hM : ∀ o, ¬ o = 68 ∧ ¬ o = 2 ∧ ¬ o = 3 ∧ ¬ o = 4 → putM (putD H c a b e f g) c a b e f g o = H o := fun o q => by
    rw [putM_o _ _ _ _ _ _ _ _ q.1, putD_o _ _ _ _ _ _ _ _ q.2]
  have hD : ∀ o, ¬ o = 68 → putM (putD H c a b e f g) c a b e f g o = putD H c a b e f g o := fun o q => putM_o _ _ _ _ _ _ _ _ q
  have h68 : putD H c a b e f g 68 = H 68 := putD_o _ _ _ _ _ _ _ _ (by decide)
  have hk : ∀ k, ¬ (k = 0 ∨ (160 ≤ k ∧ k < 224) ∨ (230 ≤ k ∧ k < 550)) → putM (putD H c a b e f g) c a b e f g 68 k = H 68 k := fun k q => by
    rw [putM_no _ _ _ _ _ _ _ _ (by omega) (by omega) (by omega), h68]
  have hd : ∀ x, 0 ≤ x → x < 64 → putM (putD H c a b e f g) c a b e f g 68 (160 + x) = if x = c then 1 else H 68 (160 + x) := fun x p q => by
    rw [putM_dg _ _ _ _ _ _ _ _ (by omega) ⟨p, q⟩, h68]
  have hm : ∀ k, 0 ≤ k → k < 320 → putM (putD H c a b e f g) c a b e f g 68 (230 + k) = if 5 * c ≤ k ∧ k < 5 * c + 5 then am5 a b e f g (k - 5 * c) else H 68 (230 + k) := fun k p q => by
    rw [putM_am _ _ _ _ _ _ _ _ (by omega) ⟨p, q⟩, h68]
  have h0 : putM (putD H c a b e f g) c a b e f g 68 0 = H 68 0 + (1 - H 68 (160 + c)) := by
    rw [putM_0 _ _ _ _ _ _ _ hc.1, h68]
  unfold InvS
  rw [hM 67 (by decide), hM 5 (by decide), hM 6 (by decide), hM 7 (by decide), hM 8 (by decide), hM 9 (by decide), hM 10 (by decide), hM 11 (by decide), hM 13 (by decide), hM 14 (by decide), hM 15 (by decide), hM 16 (by decide), hM 17 (by decide), hM 18 (by decide), hM 19 (by decide), hM 1 (by decide), hD 2 (by decide), hD 3 (by decide), hD 4 (by decide)]
  refine ⟨?_, ?_⟩
  · refine GOk_dg (g := H 68) hg hk (fun x p q => ?_) (fun k p q => ?_) (fun x p q r => ?_) (fun x p q => ?_) ?_
    · rw [hd x p q]
      have z := hg.dgb x p q
      split <;> omega
    · rw [hm k p q]
      split
      · exact am5_rng ha hb he hf hgg
      · exact hg.amb k p q
    · by_cases h : x = c
      · subst h
        unfold sum5
        dsimp only
        rw [hm _ (by omega) (by omega), hm _ (by omega) (by omega), hm _ (by omega) (by omega), hm _ (by omega) (by omega), hm _ (by omega) (by omega)]
        unfold am5
        simp (disch := omega) only [if_pos, if_neg]
        omega
      · rw [hd x p q, if_neg h] at r
        rw [sum5_congr (f := fun k => H 68 (230 + k)) (fun k y z => by rw [hm k (by omega) (by omega), if_neg (by omega)])]
        exact hg.ams x p q r
    · rw [hd x (by omega) q, if_neg (by omega)]
      exact hg.dgn x p q
    · rw [h0, sumTo_up (f := fun e => H 68 (160 + e)) (n := 64) (c := c) (v := 1) (by omega) (by rw [hd c hc.1 (by omega), if_pos rfl]) (fun x p q r => by rw [hd x p q, if_neg r])]
      rw [← hg.dgs]
  · have i4 := hs.i c hc.1 (by omega)
    have dg := hg.dgb c hc.1 (by omega)
    have l7 := hs.l7
    refine SRel_dg (g := H 68) hg hs hk ?_ ?_ ?_ ?_ (fun k p q => ?_) (fun x p q => ?_)
    · rw [putD_2 _ _ _ _ _ _ _ _ (by decide)]; exact hs.l0
    · rw [putD_2 _ _ _ _ _ _ _ _ (by decide)]; exact hs.l1
    · rw [putD_2 _ _ _ _ _ _ _ _ (by decide)]; exact hs.l2
    · rw [putD_7, h0]
      split <;> omega
    · rw [putD_3, hm k p q, hs.d k p q]
    · rw [putD_4, hd x p q, hs.i x p q]
