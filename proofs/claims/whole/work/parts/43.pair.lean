/-! THE PURE LAYER 13: sums of a row with one place said anew -/
theorem sumTo_up {f f' : Int → Int} {n c v : Int} (hc : 0 ≤ c ∧ c < n) (hv : f' c = v) (ho : ∀ e, 0 ≤ e → e < n → ¬ e = c → f' e = f e) : sumTo f' n = sumTo f n + (v - f c) := by
  have key : ∀ i s, 0 ≤ i → i ≤ c → xfor (fun e v => v + f' e) i n s = xfor (fun e v => v + f e) i n s + (v - f c) := by
    intro i s
    refine xloop (fun e v => v + f' e) n (fun i s => 0 ≤ i → i ≤ c → xfor (fun e v => v + f' e) i n s = xfor (fun e v => v + f e) i n s + (v - f c)) (fun i s hb h0 hi => ?_) (fun i s hb ih h0 hi => ?_) i s
    · omega
    · rw [xfor_step hb, xfor_step (f := fun e v => v + f e) hb]
      by_cases h : i = c
      · rw [xfor_congr (g := fun e v => v + f e) (fun j s a b => by rw [ho j (by omega) b (by omega)])]
        rw [xfor_add f n (i + 1) (s + f' i), xfor_add f n (i + 1) (s + f i), h, hv]
        omega
      · have e1 := ho i h0 hb h
        have k := ih (by omega) (by omega)
        rw [e1] at k
        rw [e1]
        exact k
  exact key 0 0 (Int.le_refl _) hc.1
theorem sumTo_rng {f : Int → Int} {n : Int} (hn : 0 ≤ n) (h : ∀ e, 0 ≤ e → e < n → f e = 0 ∨ f e = 1) : 0 ≤ sumTo f n ∧ sumTo f n ≤ n := by
  have z := xfor_inv (f := fun e v => v + f e) (b := n) (R := fun e v => 0 ≤ e ∧ 0 ≤ v ∧ v ≤ e) (fun j s hj hr => by have := h j hr.1 hj; refine ⟨?_, ?_, ?_⟩ <;> omega) 0 0 hn ⟨Int.le_refl _, Int.le_refl _, Int.le_refl _⟩
  exact z.2
theorem GOk.g0 {w n : Int} {g : Int → Int} (h : GOk w n g) : 0 ≤ g 0 ∧ g 0 ≤ 64 := by
  rw [h.dgs]
  exact sumTo_rng (by omega) h.dgb
