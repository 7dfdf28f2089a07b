/-! THE PURE LAYER 77: all that holds between two calls -/
def InvZ (H : XH) : Prop := InvS H ∧ InvK H ∧ InvB H ∧ InvT H ∧ InvF H ∧ InvL H ∧ H 69 2 ≤ H 68 2
theorem InvS_fr {H H' : XH} (a : ∀ o, 1 ≤ o → o ≤ 19 → H' o = H o) (b : H' 68 = H 68) (c0 : H' 67 0 = H 67 0) (c1 : H' 67 1 = H 67 1) (h : InvS H) : InvS H' := by
  unfold InvS
  rw [b, c0, c1, a 1 (by decide) (by decide), a 2 (by decide) (by decide), a 3 (by decide) (by decide), a 4 (by decide) (by decide), a 5 (by decide) (by decide), a 6 (by decide) (by decide), a 7 (by decide) (by decide), a 8 (by decide) (by decide), a 9 (by decide) (by decide), a 10 (by decide) (by decide), a 11 (by decide) (by decide), a 13 (by decide) (by decide), a 14 (by decide) (by decide), a 15 (by decide) (by decide), a 16 (by decide) (by decide), a 17 (by decide) (by decide), a 18 (by decide) (by decide), a 19 (by decide) (by decide)]
  exact h
theorem InvK_fr {H H' : XH} (a : ∀ o, 20 ≤ o → o ≤ 38 → H' o = H o) (b : H' 69 = H 69) (c0 : H' 67 0 = H 67 0) (c1 : H' 67 1 = H 67 1) (h : InvK H) : InvK H' := by
  unfold InvK
  rw [b, c0, c1, a 20 (by decide) (by decide), a 21 (by decide) (by decide), a 22 (by decide) (by decide), a 23 (by decide) (by decide), a 24 (by decide) (by decide), a 25 (by decide) (by decide), a 26 (by decide) (by decide), a 27 (by decide) (by decide), a 28 (by decide) (by decide), a 29 (by decide) (by decide), a 30 (by decide) (by decide), a 32 (by decide) (by decide), a 33 (by decide) (by decide), a 34 (by decide) (by decide), a 35 (by decide) (by decide), a 36 (by decide) (by decide), a 37 (by decide) (by decide), a 38 (by decide) (by decide)]
  exact h
theorem InvB_fr {H H' : XH} (a : H' 18 = H 18) (b : H' 19 = H 19) (c : H' 37 = H 37) (e : H' 38 = H 38) (h : InvB H) : InvB H' := by
  unfold InvB
  rw [a, b, c, e]
  exact h
theorem InvT_fr {H H' : XH} (a : H' 51 3 = H 51 3) (b : H' 67 5 = H 67 5) (c : H' 52 = H 52) (e : H' 70 = H 70) (h : InvT H) : InvT H' := by
  unfold InvT
  rw [a, b, c, e]
  exact h
theorem InvF_fr {H H' : XH} (a : H' 51 4 = H 51 4) (b : H' 51 5 = H 51 5) (c : H' 51 6 = H 51 6) (e : H' 67 6 = H 67 6) (f : H' 67 7 = H 67 7) (h : InvF H) : InvF H' := by
  unfold InvF
  rw [a, b, c, e, f]
  exact h
theorem InvL_fr {H H' : XH} (a53 : H' 53 = H 53) (a54 : H' 54 = H 54) (a71 : H' 71 = H 71) (a72 : H' 72 = H 72) (a73 : H' 73 = H 73) (a74 : H' 74 = H 74) (a75 : H' 75 = H 75) (b : H' 68 2 ≤ H 68 2) (h : InvL H) : InvL H' := by
  intro t t0 t1
  refine lawP_fr (H := H) (by rw [a54]) (fun j _ _ => by rw [a53]) (by rw [a71]) (fun j _ _ => ⟨by rw [a72], by rw [a73]⟩) (fun j _ _ => ⟨by rw [a74], by rw [a75]⟩) (h t t0 (by omega))
theorem inv_p {H H' : XH} {r r' : Int} (h : InvZ H) (q : pOk H r r' H') : r' = r ∧ InvZ H' := by
  obtain ⟨e, s, f, g, b⟩ := q
  obtain ⟨-, k, hb, t, hf, l, z⟩ := h
  have f' : ∀ o, 19 < o → ¬ o = 68 → H' o = H o := fun o a c => f o (Or.inr a) c
  have e67 : H' 67 = H 67 := f' 67 (by decide) (by decide)
  have e69 : H' 69 = H 69 := f' 69 (by decide) (by decide)
  have e51 : H' 51 = H 51 := f' 51 (by decide) (by decide)
  refine ⟨e, s, InvK_fr (fun o a c => f' o (by omega) (by omega)) e69 (by rw [e67]) (by rw [e67]) k, fun j j0 j1 => ?_, InvT_fr (by rw [e51]) (by rw [e67]) (f' 52 (by decide) (by decide)) (f' 70 (by decide) (by decide)) t, InvF_fr (by rw [e51]) (by rw [e51]) (by rw [e51]) (by rw [e67]) (by rw [e67]) hf, InvL_fr (f' 53 (by decide) (by decide)) (f' 54 (by decide) (by decide)) (f' 71 (by decide) (by decide)) (f' 72 (by decide) (by decide)) (f' 73 (by decide) (by decide)) (f' 74 (by decide) (by decide)) (f' 75 (by decide) (by decide)) (by omega) l, by rw [e69, g]; exact z⟩
  have y := hb j j0 j1
  have e37 : H' 37 = H 37 := f' 37 (by decide) (by decide)
  have e38 : H' 38 = H 38 := f' 38 (by decide) (by decide)
  rw [e37, e38]
  exact ⟨(b j).1 y.1, (b j).2 y.2.1, y.2.2.1, y.2.2.2⟩
theorem inv_q {H H' : XH} {r r' : Int} (h : InvZ H) (q : qOk H r r' H') : r' = r ∧ InvZ H' := by
  obtain ⟨e, f, g⟩ := q
  obtain ⟨s, k, hb, t, hf, l, z⟩ := h
  have f1 : ∀ o, o < 39 → H' o = H o := fun o a => f o (by omega) (by omega) (by omega) (by omega)
  have f2 : ∀ o, 50 < o → o < 58 → H' o = H o := fun o a c => f o (by omega) (by omega) (by omega) (by omega)
  have f3 : ∀ o, 67 < o → o < 76 → H' o = H o := fun o a c => f o (by omega) (by omega) (by omega) (by omega)
  have e51 : H' 51 = H 51 := f2 51 (by decide) (by decide)
  have e68 : H' 68 = H 68 := f3 68 (by decide) (by decide)
  have e69 : H' 69 = H 69 := f3 69 (by decide) (by decide)
  exact ⟨e, InvS_fr (fun o a c => f1 o (by omega)) e68 (g 0 (by decide)) (g 1 (by decide)) s, InvK_fr (fun o a c => f1 o (by omega)) e69 (g 0 (by decide)) (g 1 (by decide)) k, InvB_fr (f1 18 (by decide)) (f1 19 (by decide)) (f1 37 (by decide)) (f1 38 (by decide)) hb, InvT_fr (by rw [e51]) (g 5 (by decide)) (f2 52 (by decide) (by decide)) (f3 70 (by decide) (by decide)) t, InvF_fr (by rw [e51]) (by rw [e51]) (by rw [e51]) (g 6 (by decide)) (g 7 (by decide)) hf, InvL_fr (f2 53 (by decide) (by decide)) (f2 54 (by decide) (by decide)) (f3 71 (by decide) (by decide)) (f3 72 (by decide) (by decide)) (f3 73 (by decide) (by decide)) (f3 74 (by decide) (by decide)) (f3 75 (by decide) (by decide)) (Int.le_of_eq (by rw [e68])) l, by rw [e68, e69]; exact z⟩
theorem inv_t {H H' : XH} {r r' : Int} (h : InvZ H) (q : tOk H r r' H') : r' = r ∧ InvZ H' := by
  obtain ⟨e, t, f, f51, f67⟩ := q
  obtain ⟨s, k, hb, -, hf, l, z⟩ := h
  have f1 : ∀ o, o < 51 → H' o = H o := fun o a => f o (by omega) (by omega) (by omega) (by omega)
  have f2 : ∀ o, 52 < o → o < 67 → H' o = H o := fun o a c => f o (by omega) (by omega) (by omega) (by omega)
  have f3 : ∀ o, 67 < o → ¬ o = 70 → H' o = H o := fun o a c => f o (by omega) (by omega) (by omega) (by omega)
  have e68 : H' 68 = H 68 := f3 68 (by decide) (by decide)
  have e69 : H' 69 = H 69 := f3 69 (by decide) (by decide)
  exact ⟨e, InvS_fr (fun o a c => f1 o (by omega)) e68 (f67 0 (by decide)) (f67 1 (by decide)) s, InvK_fr (fun o a c => f1 o (by omega)) e69 (f67 0 (by decide)) (f67 1 (by decide)) k, InvB_fr (f1 18 (by decide)) (f1 19 (by decide)) (f1 37 (by decide)) (f1 38 (by decide)) hb, t, InvF_fr (f51 4 (by decide)) (f51 5 (by decide)) (f51 6 (by decide)) (f67 6 (by decide)) (f67 7 (by decide)) hf, InvL_fr (f2 53 (by decide) (by decide)) (f2 54 (by decide) (by decide)) (f3 71 (by decide) (by decide)) (f3 72 (by decide) (by decide)) (f3 73 (by decide) (by decide)) (f3 74 (by decide) (by decide)) (f3 75 (by decide) (by decide)) (Int.le_of_eq (by rw [e68])) l, by rw [e68, e69]; exact z⟩
theorem inv_im {H H' : XH} {r r' : Int} (h : InvZ H) (q : imOk H r r' H') : r' = r ∧ InvZ H' := by
  obtain ⟨e, k, hb, g, f⟩ := q
  obtain ⟨s, -, -, t, hf, l, z⟩ := h
  have f1 : ∀ o, o < 20 → H' o = H o := fun o a => f o (by omega) (by omega)
  have f2 : ∀ o, 38 < o → ¬ o = 69 → H' o = H o := fun o a c => f o (by omega) (by omega)
  have e67 : H' 67 = H 67 := f2 67 (by decide) (by decide)
  have e68 : H' 68 = H 68 := f2 68 (by decide) (by decide)
  have e51 : H' 51 = H 51 := f2 51 (by decide) (by decide)
  exact ⟨e, InvS_fr (fun o a c => f1 o (by omega)) e68 (by rw [e67]) (by rw [e67]) s, k, hb, InvT_fr (by rw [e51]) (by rw [e67]) (f2 52 (by decide) (by decide)) (f2 70 (by decide) (by decide)) t, InvF_fr (by rw [e51]) (by rw [e51]) (by rw [e51]) (by rw [e67]) (by rw [e67]) hf, InvL_fr (f2 53 (by decide) (by decide)) (f2 54 (by decide) (by decide)) (f2 71 (by decide) (by decide)) (f2 72 (by decide) (by decide)) (f2 73 (by decide) (by decide)) (f2 74 (by decide) (by decide)) (f2 75 (by decide) (by decide)) (Int.le_of_eq (by rw [e68])) l, by rw [e68]; omega⟩
theorem inv_ba {H H' : XH} {r r' : Int} (h : InvZ H) (q : baOk H r r' H') : r' = r ∧ InvZ H' := by
  obtain ⟨e, s, hb, g, f⟩ := q
  obtain ⟨-, k, -, t, hf, l, z⟩ := h
  have f2 : ∀ o, 19 < o → ¬ o = 68 → H' o = H o := fun o a c => f o (by omega) (by omega)
  have e67 : H' 67 = H 67 := f2 67 (by decide) (by decide)
  have e69 : H' 69 = H 69 := f2 69 (by decide) (by decide)
  have e51 : H' 51 = H 51 := f2 51 (by decide) (by decide)
  exact ⟨e, s, InvK_fr (fun o a c => f2 o (by omega) (by omega)) e69 (by rw [e67]) (by rw [e67]) k, hb, InvT_fr (by rw [e51]) (by rw [e67]) (f2 52 (by decide) (by decide)) (f2 70 (by decide) (by decide)) t, InvF_fr (by rw [e51]) (by rw [e51]) (by rw [e51]) (by rw [e67]) (by rw [e67]) hf, InvL_fr (f2 53 (by decide) (by decide)) (f2 54 (by decide) (by decide)) (f2 71 (by decide) (by decide)) (f2 72 (by decide) (by decide)) (f2 73 (by decide) (by decide)) (f2 74 (by decide) (by decide)) (f2 75 (by decide) (by decide)) (by omega) l, by rw [e69]; omega⟩
theorem inv_ll {H H' : XH} {r r' : Int} (h : InvZ H) (q : llOk H r r' H') : r' = r ∧ InvZ H' := by
  obtain ⟨e, s, t, hf, l, g, f, f67⟩ := q
  obtain ⟨-, k, hb, -, -, -, z⟩ := h
  have f1 : ∀ o, 1 < o → o < 51 → H' o = H o := fun o a c => f o (by omega) (by omega) (by omega) (by omega) (by omega) (by omega)
  have e69 : H' 69 = H 69 := f 69 (by decide) (by decide) (by decide) (by decide) (by decide) (by decide)
  exact ⟨e, s, InvK_fr (fun o a c => f1 o (by omega) (by omega)) e69 (f67 0 (by decide)) (f67 1 (by decide)) k, InvB_fr (f1 18 (by decide) (by decide)) (f1 19 (by decide) (by decide)) (f1 37 (by decide) (by decide)) (f1 38 (by decide) (by decide)) hb, t, hf, l, by rw [e69]; omega⟩
theorem inv_we {H H' : XH} {r r' : Int} (h : InvZ H) (q : weOk H r r' H') : r' = r ∧ InvZ H' := by
  obtain ⟨e, s, g, f, f67, -⟩ := q
  obtain ⟨-, k, hb, t, hf, l, z⟩ := h
  have f1 : ∀ o, 8 < o → o < 58 → H' o = H o := fun o a c => f o (by omega) (by omega) (by omega) (by omega) (by omega) (by omega) (by omega)
  have f3 : ∀ o, 68 < o → o < 76 → H' o = H o := fun o a c => f o (by omega) (by omega) (by omega) (by omega) (by omega) (by omega) (by omega)
  have e69 : H' 69 = H 69 := f3 69 (by decide) (by decide)
  have e51 : H' 51 = H 51 := f1 51 (by decide) (by decide)
  exact ⟨e, s, InvK_fr (fun o a c => f1 o (by omega) (by omega)) e69 (f67 0 (by decide) (by decide)) (f67 1 (by decide) (by decide)) k, InvB_fr (f1 18 (by decide) (by decide)) (f1 19 (by decide) (by decide)) (f1 37 (by decide) (by decide)) (f1 38 (by decide) (by decide)) hb, InvT_fr (by rw [e51]) (f67 5 (by decide) (by decide)) (f1 52 (by decide) (by decide)) (f3 70 (by decide) (by decide)) t, InvF_fr (by rw [e51]) (by rw [e51]) (by rw [e51]) (f67 6 (by decide) (by decide)) (f67 7 (by decide) (by decide)) hf, InvL_fr (f1 53 (by decide) (by decide)) (f1 54 (by decide) (by decide)) (f3 71 (by decide) (by decide)) (f3 72 (by decide) (by decide)) (f3 73 (by decide) (by decide)) (f3 74 (by decide) (by decide)) (f3 75 (by decide) (by decide)) (by omega) l, by rw [e69]; omega⟩

theorem a_start {X : Int × (Int → Int)} {d : Nat} (hd : 40 ≤ d) (c : Int) (H : XH) (h : InvZ H) : xc X d 87 [(2, 0), (0, c)] H (fun r H1 => xc X d 88 [(2, 67), (0, c)] H1 (fun r2 H2 => r2 = r ∧ InvZ H2)) :=
  xc_mono (fun _ _ q => xc_mono (fun _ _ q2 => inv_p h q2) q) (p_start (by omega) c H h.1)

theorem a_carry {X : Int × (Int → Int)} {d : Nat} (hd : 40 ≤ d) (c f : Int) (H : XH) (h : InvZ H) : xc X d 27 [(2, 0), (0, c), (0, f)] H (fun r H1 => xc X d 28 [(2, 67), (0, c), (0, f)] H1 (fun r2 H2 => r2 = r ∧ InvZ H2)) :=
  xc_mono (fun _ _ q => xc_mono (fun _ _ q2 => inv_p h q2) q) (p_carry (by omega) c f H h.1)

theorem a_bar {X : Int × (Int → Int)} {d : Nat} (hd : 40 ≤ d) (c f : Int) (H : XH) (hf : f = 0 ∨ f = 1) (h : InvZ H) : xc X d 29 [(2, 0), (0, c), (0, f)] H (fun r H1 => xc X d 30 [(2, 67), (0, c), (0, f)] H1 (fun r2 H2 => r2 = r ∧ InvZ H2)) :=
  xc_mono (fun _ _ q => xc_mono (fun _ _ q2 => inv_p h q2) q) (p_bar (by omega) c f H hf h.1)

theorem a_clean {X : Int × (Int → Int)} {d : Nat} (hd : 40 ≤ d) (H : XH) (h : InvZ H) : xc X d 54 [(2, 0)] H (fun r H1 => xc X d 55 [(2, 67)] H1 (fun r2 H2 => r2 = r ∧ InvZ H2)) :=
  xc_mono (fun _ _ q => xc_mono (fun _ _ q2 => inv_p h q2) q) (p_clean (by omega) H h.1)

theorem a_forget {X : Int × (Int → Int)} {d : Nat} (hd : 40 ≤ d) (s : Int) (H : XH) (h : InvZ H) : xc X d 202 [(2, 0), (0, s)] H (fun r H1 => xc X d 203 [(2, 67), (0, s)] H1 (fun r2 H2 => r2 = r ∧ InvZ H2)) :=
  xc_mono (fun _ _ q => xc_mono (fun _ _ q2 => inv_p h q2) q) (p_forget (by omega) s H h.1)

theorem a_by {X : Int × (Int → Int)} {d : Nat} (hd : 40 ≤ d) (l : Int) (H : XH) (h : InvZ H) : xc X d 196 [(2, 0), (0, l)] H (fun r H1 => xc X d 197 [(2, 67), (0, l)] H1 (fun r2 H2 => r2 = r ∧ InvZ H2)) :=
  xc_mono (fun _ _ q => xc_mono (fun _ _ q2 => inv_p h q2) q) (p_by (by omega) l H h.1)

theorem a_rules {X : Int × (Int → Int)} {d : Nat} (hd : 40 ≤ d) (b p k m o : Int) (H : XH) (h : InvZ H) : xc X d 56 [(2, 0), (0, b), (0, p), (0, k), (0, m), (0, o)] H (fun r H1 => xc X d 57 [(2, 67), (0, b), (0, p), (0, k), (0, m), (0, o)] H1 (fun r2 H2 => r2 = r ∧ InvZ H2)) :=
  xc_mono (fun _ _ q => xc_mono (fun _ _ q2 => inv_p h q2) q) (p_rules (by omega) b p k m o H h.1)

theorem a_flowers {X : Int × (Int → Int)} {d : Nat} (hd : 40 ≤ d) (s f t : Int) (H : XH) (h : InvZ H) : xc X d 111 [(2, 0), (0, s), (0, f), (0, t)] H (fun r H1 => xc X d 112 [(2, 67), (0, s), (0, f), (0, t)] H1 (fun r2 H2 => r2 = r ∧ InvZ H2)) :=
  xc_mono (fun _ _ q => xc_mono (fun _ _ q2 => inv_p h q2) q) (p_flowers (by omega) s f t H h.1)

theorem a_dig {X : Int × (Int → Int)} {d : Nat} (hd : 40 ≤ d) (c a b e f g : Int) (H : XH) (h : InvZ H) : xc X d 22 [(2, 0), (0, c), (0, a), (0, b), (0, e), (0, f), (0, g)] H (fun r H1 => xc X d 25 [(2, 67), (0, c), (0, a), (0, b), (0, e), (0, f), (0, g)] H1 (fun r2 H2 => r2 = r ∧ InvZ H2)) :=
  xc_mono (fun _ _ q => xc_mono (fun _ _ q2 => inv_p h q2) q) (p_dig (by omega) c a b e f g H h.1)

theorem a_step {X : Int × (Int → Int)} {d : Nat} (hd : 40 ≤ d) (s c w u : Int) (H : XH) (h : InvZ H) : xc X d 200 [(2, 0), (0, s), (0, c), (0, w), (0, u)] H (fun r H1 => xc X d 201 [(2, 67), (0, s), (0, c), (0, w), (0, u)] H1 (fun r2 H2 => r2 = r ∧ InvZ H2)) :=
  xc_mono (fun _ _ q => xc_mono (fun _ _ q2 => inv_p h q2) q) (p_step (by omega) s c w u H h.1)

theorem a_verdict {X : Int × (Int → Int)} {d : Nat} (hd : 40 ≤ d) (l p c y k : Int) (H : XH) (py : y = 0 ∨ y = 1) (pk : k = 0 ∨ k = 1) (h : InvZ H) : xc X d 243 [(2, 0), (0, l), (0, p), (0, c), (0, y), (0, k)] H (fun r H1 => xc X d 244 [(2, 67), (0, l), (0, p), (0, c), (0, y), (0, k)] H1 (fun r2 H2 => r2 = r ∧ InvZ H2)) :=
  xc_mono (fun _ _ q => xc_mono (fun _ _ q2 => inv_p h q2) q) (p_verdict (by omega) l p c y k H py pk h.1)

theorem a_far {X : Int × (Int → Int)} {d : Nat} (hd : 40 ≤ d) (l c : Int) (H : XH) (h : InvZ H) : xc X d 62 [(2, 0), (0, l), (0, c)] H (fun r H1 => xc X d 67 [(2, 67), (0, l), (0, c)] H1 (fun r2 H2 => r2 = r ∧ InvZ H2)) :=
  xc_mono (fun _ _ q => xc_mono (fun _ _ q2 => inv_q h q2) q) (p_far (by omega) l c H h.1)

theorem a_odds {X : Int × (Int → Int)} {d : Nat} (hd : 40 ≤ d) (l c : Int) (H : XH) (h : InvZ H) : xc X d 76 [(2, 0), (0, l), (0, c)] H (fun r H1 => xc X d 77 [(2, 67), (0, l), (0, c)] H1 (fun r2 H2 => r2 = r ∧ InvZ H2)) :=
  xc_mono (fun _ _ q => xc_mono (fun _ _ q2 => inv_q h q2) q) (p_odds (by omega) l c H h.1)

theorem a_soil {X : Int × (Int → Int)} {d : Nat} (hd : 40 ≤ d) (c s : Int) (H : XH) (h : InvZ H) : xc X d 38 [(2, 0), (0, c), (0, s)] H (fun r H1 => xc X d 44 [(2, 67), (0, c), (0, s)] H1 (fun r2 H2 => r2 = r ∧ InvZ H2)) :=
  xc_mono (fun _ _ q => xc_mono (fun _ _ q2 => inv_q h q2) q) (p_soil (by omega) c s H h.1)

theorem a_where {X : Int × (Int → Int)} {d : Nat} (hd : 40 ≤ d) (l i : Int) (H : XH) (h : InvZ H) : xc X d 72 [(2, 0), (0, l), (0, i)] H (fun r H1 => xc X d 74 [(2, 67), (0, l), (0, i)] H1 (fun r2 H2 => r2 = r ∧ InvZ H2)) :=
  xc_mono (fun _ _ q => xc_mono (fun _ _ q2 => inv_q h q2) q) (p_where (by omega) l i H h.1)

theorem a_months {X : Int × (Int → Int)} {d : Nat} (hd : 40 ≤ d) (l : Int) (H : XH) (h : InvZ H) : xc X d 118 [(2, 0), (0, l)] H (fun r H1 => xc X d 121 [(2, 67), (0, l)] H1 (fun r2 H2 => r2 = r ∧ InvZ H2)) :=
  xc_mono (fun _ _ q => xc_mono (fun _ _ q2 => inv_q h q2) q) (p_months (by omega) l H h.1)

theorem a_when {X : Int × (Int → Int)} {d : Nat} (hd : 40 ≤ d) (l b : Int) (H : XH) (h : InvZ H) : xc X d 124 [(2, 0), (0, l), (0, b)] H (fun r H1 => xc X d 125 [(2, 67), (0, l), (0, b)] H1 (fun r2 H2 => r2 = r ∧ InvZ H2)) :=
  xc_mono (fun _ _ q => xc_mono (fun _ _ q2 => inv_q h q2) q) (p_when (by omega) l b H h.1)

theorem a_span {X : Int × (Int → Int)} {d : Nat} (hd : 40 ≤ d) (c s b : Int) (H : XH) (h : InvZ H) : xc X d 47 [(2, 0), (0, c), (0, s), (0, b)] H (fun r H1 => xc X d 48 [(2, 67), (0, c), (0, s), (0, b)] H1 (fun r2 H2 => r2 = r ∧ InvZ H2)) :=
  xc_mono (fun _ _ q => xc_mono (fun _ _ q2 => inv_q h q2) q) (p_span (by omega) c s b H h.1)

theorem a_layer {X : Int × (Int → Int)} {d : Nat} (hd : 40 ≤ d) (a b c e f : Int) (H : XH) (h : InvZ H) : xc X d 52 [(2, 0), (0, a), (0, b), (0, c), (0, e), (0, f)] H (fun r H1 => xc X d 53 [(2, 67), (0, a), (0, b), (0, c), (0, e), (0, f)] H1 (fun r2 H2 => r2 = r ∧ InvZ H2)) :=
  xc_mono (fun _ _ q => xc_mono (fun _ _ q2 => inv_p h q2) q) (p_layer (by omega) a b c e f H h.1)

theorem a_lean {X : Int × (Int → Int)} {d : Nat} (hd : 40 ≤ d) (l : Int) (H : XH) (h : InvZ H) : xc X d 247 [(2, 0), (0, l)] H (fun r H1 => xc X d 249 [(2, 67), (0, l)] H1 (fun r2 H2 => r2 = r ∧ InvZ H2)) :=
  xc_mono (fun _ _ q => xc_mono (fun _ _ q2 => inv_q h q2) q) (p_lean (by omega) l H h.1)

theorem a_agree {X : Int × (Int → Int)} {d : Nat} (hd : 40 ≤ d) (a b : Int) (H : XH) (h : InvZ H) : xc X d 251 [(2, 0), (0, a), (0, b)] H (fun r H1 => xc X d 252 [(2, 67), (0, a), (0, b)] H1 (fun r2 H2 => r2 = r ∧ InvZ H2)) :=
  xc_mono (fun _ _ q => xc_mono (fun _ _ q2 => inv_q h q2) q) (p_agree (by omega) a b H h.1)

theorem a_journey {X : Int × (Int → Int)} {d : Nat} (hd : 40 ≤ d) (i : Int) (H : XH) (h : InvZ H) : xc X d 127 [(2, 0), (0, i)] H (fun r H1 => xc X d 129 [(2, 67), (0, i)] H1 (fun r2 H2 => r2 = r ∧ InvZ H2)) :=
  xc_mono (fun _ _ q => xc_mono (fun _ _ q2 => inv_q h q2) q) (p_journey (by omega) i H h.1)

theorem a_trowel {X : Int × (Int → Int)} {d : Nat} (hd : 40 ≤ d) (i : Int) (H : XH) (h : InvZ H) : xc X d 131 [(2, 0), (0, i)] H (fun r H1 => xc X d 132 [(2, 67), (0, i)] H1 (fun r2 H2 => r2 = r ∧ InvZ H2)) :=
  xc_mono (fun _ _ q => xc_mono (fun _ _ q2 => inv_q h q2) q) (p_trowel (by omega) i H h.1)

theorem a_feed {X : Int × (Int → Int)} {d : Nat} (hd : 40 ≤ d) (a b c e f : Int) (H : XH) (h : InvZ H) : xc X d 135 [(2, 0), (0, a), (0, b), (0, c), (0, e), (0, f)] H (fun r H1 => xc X d 137 [(2, 67), (0, a), (0, b), (0, c), (0, e), (0, f)] H1 (fun r2 H2 => r2 = r ∧ InvZ H2)) :=
  xc_mono (fun _ _ q => xc_mono (fun _ _ q2 => inv_t h q2) q) (p_feed (by omega) a b c e f H h.2.2.2.1)

theorem a_end {X : Int × (Int → Int)} {d : Nat} (hd : 40 ≤ d) (a : Int) (H : XH) (h : InvZ H) : xc X d 138 [(2, 0), (0, a)] H (fun r H1 => xc X d 139 [(2, 67), (0, a)] H1 (fun r2 H2 => r2 = r ∧ InvZ H2)) :=
  xc_mono (fun _ _ q => xc_mono (fun _ _ q2 => inv_t h q2) q) (p_end (by omega) a H h.2.2.2.1)

theorem a_fault {X : Int × (Int → Int)} {d : Nat} (hd : 40 ≤ d) (a : Int) (H : XH) (h : InvZ H) : xc X d 194 [(2, 0), (0, a)] H (fun r H1 => xc X d 195 [(2, 67), (0, a)] H1 (fun r2 H2 => r2 = r ∧ InvZ H2)) :=
  xc_mono (fun _ _ q => xc_mono (fun _ _ q2 => inv_q h q2) q) (p_fault (by omega) a H h.2.2.2.2.1)

theorem a_about {X : Int × (Int → Int)} {d : Nat} (hd : 40 ≤ d) (a : Int) (H : XH) (h : InvZ H) : xc X d 263 [(2, 0), (0, a)] H (fun r H1 => xc X d 264 [(2, 67), (0, a)] H1 (fun r2 H2 => r2 = r ∧ InvZ H2)) :=
  xc_mono (fun _ _ q => xc_mono (fun _ _ q2 => inv_q h q2) q) (p_about (by omega) a H h.1 h.2.2.2.1)

theorem a_image {X : Int × (Int → Int)} {d : Nat} (hd : 40 ≤ d) (H : XH) (h : InvZ H) : xc X d 259 [(2, 0)] H (fun r H1 => xc X d 260 [(2, 67)] H1 (fun r2 H2 => r2 = r ∧ InvZ H2)) :=
  xc_mono (fun _ _ q => xc_mono (fun _ _ q2 => inv_im h q2) q) (p_image (by omega) H h.1 h.2.1 h.2.2.1)

theorem a_back {X : Int × (Int → Int)} {d : Nat} (hd : 40 ≤ d) (H : XH) (h : InvZ H) : xc X d 261 [(2, 0)] H (fun r H1 => xc X d 262 [(2, 67)] H1 (fun r2 H2 => r2 = r ∧ InvZ H2)) :=
  xc_mono (fun _ _ q => xc_mono (fun _ _ q2 => inv_ba h q2) q) (p_back (by omega) H h.1 h.2.1 h.2.2.1)

theorem a_parted {X : Int × (Int → Int)} {d : Nat} (hd : 40 ≤ d) (l i : Int) (H : XH) (h : InvZ H) : xc X d 84 [(2, 0), (0, l), (0, i)] H (fun r H1 => xc X d 86 [(2, 67), (0, l), (0, i)] H1 (fun r2 H2 => r2 = r ∧ InvZ H2)) :=
  xc_mono (fun _ _ q => xc_mono (fun _ _ q2 => inv_q h q2) q) (p_parted (by omega) l i H h.1)

theorem a_paces {X : Int × (Int → Int)} {d : Nat} (hd : 40 ≤ d) (a b : Int) (H : XH) (h : InvZ H) : xc X d 92 [(2, 0), (0, a), (0, b)] H (fun r H1 => xc X d 95 [(2, 67), (0, a), (0, b)] H1 (fun r2 H2 => r2 = r ∧ InvZ H2)) :=
  xc_mono (fun _ _ q => xc_mono (fun _ _ q2 => inv_q h q2) q) (p_paces (by omega) a b H h.1)

theorem a_way {X : Int × (Int → Int)} {d : Nat} (hd : 40 ≤ d) (l : Int) (H : XH) (h : InvZ H) : xc X d 100 [(2, 0), (0, l)] H (fun r H1 => xc X d 106 [(2, 67), (0, l)] H1 (fun r2 H2 => r2 = r ∧ InvZ H2)) :=
  xc_mono (fun _ _ q => xc_mono (fun _ _ q2 => inv_q h q2) q) (p_way (by omega) l H h.1)

theorem a_ways {X : Int × (Int → Int)} {d : Nat} (hd : 40 ≤ d) (H : XH) (h : InvZ H) : xc X d 109 [(2, 0)] H (fun r H1 => xc X d 110 [(2, 67)] H1 (fun r2 H2 => r2 = r ∧ InvZ H2)) :=
  xc_mono (fun _ _ q => xc_mono (fun _ _ q2 => inv_q h q2) q) (p_ways (by omega) H h.1)

theorem a_law {X : Int × (Int → Int)} {d : Nat} (hd : 40 ≤ d) (H : XH) (h : InvZ H) : xc X d 168 [(2, 0)] H (fun r H1 => xc X d 193 [(2, 67)] H1 (fun r2 H2 => r2 = r ∧ InvZ H2)) :=
  xc_mono (fun _ _ q => xc_mono (fun _ _ q2 => inv_ll h q2) q) (p_law (by omega) H h.1 h.2.2.2.1 h.2.2.2.2.1 h.2.2.2.2.2.1)

theorem a_walked {X : Int × (Int → Int)} {d : Nat} (hd : 40 ≤ d) (s b c : Int) (H : XH) (h : InvZ H) : xc X d 217 [(2, 0), (0, s), (0, b), (0, c)] H (fun r H1 => xc X d 227 [(2, 67), (0, s), (0, b), (0, c)] H1 (fun r2 H2 => r2 = r ∧ InvZ H2)) :=
  xc_mono (fun _ _ q => xc_mono (fun _ _ q2 => inv_q h q2) q) (p_walked (by omega) s b c H h.1 h.2.2.2.2.2.1)

theorem a_wear {X : Int × (Int → Int)} {d : Nat} (hd : 40 ≤ d) (s : Int) (H : XH) (h : InvZ H) : xc X d 230 [(2, 0), (0, s)] H (fun r H1 => xc X d 231 [(2, 67), (0, s)] H1 (fun r2 H2 => r2 = r ∧ InvZ H2)) :=
  xc_mono (fun _ _ q => xc_mono (fun _ _ q2 => inv_we h q2) q) (p_wear (by omega) s H h.1 h.2.2.2.2.2.1)

theorem a_held {X : Int × (Int → Int)} {d : Nat} (hd : 40 ≤ d) (s b : Int) (H : XH) (hb : b ≤ 2147483647) (h : InvZ H) : xc X d 237 [(2, 0), (0, s), (0, b)] H (fun r H1 => xc X d 239 [(2, 67), (0, s), (0, b)] H1 (fun r2 H2 => r2 = r ∧ InvZ H2)) :=
  xc_mono (fun _ _ q => xc_mono (fun _ _ q2 => inv_q h q2) q) (p_held (by omega) s b hb H h.1 h.2.2.2.2.2.1)

theorem a_believed {X : Int × (Int → Int)} {d : Nat} (hd : 40 ≤ d) (a : Int) (H : XH) (h : InvZ H) : xc X d 240 [(2, 0), (0, a)] H (fun r H1 => xc X d 241 [(2, 67), (0, a)] H1 (fun r2 H2 => r2 = r ∧ InvZ H2)) :=
  xc_mono (fun _ _ q => xc_mono (fun _ _ q2 => inv_q h q2) q) (p_believed (by omega) a H h.1 h.2.2.2.2.2.1)

/-! new objects -/
theorem sum_0 {f : Int → Int} {n : Int} (hn : 0 ≤ n) (h : ∀ e, 0 ≤ e → e < n → f e = 0) : sumTo f n = 0 := by
  have z := (xfor_inv (f := fun e v => v + f e) (b := n) (R := fun j s => 0 ≤ j ∧ s = 0) (fun j s q r => by
    obtain ⟨r1, r2⟩ := r
    have e := h j r1 q
    refine ⟨by omega, ?_⟩
    show s + f j = 0
    omega) 0 0 hn ⟨Int.le_refl _, rfl⟩).2
  exact z
theorem gok_0 {w n : Int} {g : Int → Int} (hw : 3 ≤ w ∧ w ≤ 8) (hn : 9 ≤ n ∧ n ≤ 64) (hg : ∀ k, 0 ≤ k → k < 1180 → g k = gM 64 5 k) : GOk w n g := by
  have z : ∀ j, 0 ≤ j → j < 1180 → ¬ j = 3 → ¬ j = 6 → ¬ j = 7 → ¬ j = 9 → ¬ j = 10 → ¬ (90 ≤ j ∧ j < 154) → ¬ (600 ≤ j ∧ j < 610) → g j = 0 := by
    intro j a b c3 c6 c7 c9 c10 cc cs
    rw [hg j a b]
    unfold gM
    rw [if_neg c3, if_neg c6, if_neg c7, if_neg c9, if_neg c10, if_neg (by omega), if_neg (by omega)]
  have zc : ∀ e, 0 ≤ e → e < 64 → g (90 + e) = -1 := by
    intro e a b
    rw [hg _ (by omega) (by omega)]
    unfold gM
    rw [if_neg (by omega), if_neg (by omega), if_neg (by omega), if_neg (by omega), if_neg (by omega), if_pos (by omega)]
  have zf : ∀ s, 0 ≤ s → s < 5 → g (600 + 2 * s) = -1 := by
    intro s a b
    rw [hg _ (by omega) (by omega)]
    unfold gM
    rw [if_neg (by omega), if_neg (by omega), if_neg (by omega), if_neg (by omega), if_neg (by omega), if_neg (by omega), if_pos (by omega)]
  have z' : ∀ j, 0 ≤ j → j < 1180 → (10 < j ∧ j < 90 ∨ 153 < j ∧ j < 600 ∨ 609 < j) → g j = 0 := fun j a b c => z j a b (by omega) (by omega) (by omega) (by omega) (by omega) (by omega) (by omega)
  have g0 : g 0 = 0 := z 0 (by decide) (by decide) (by decide) (by decide) (by decide) (by decide) (by decide) (by decide) (by decide)
  have g1 : g 1 = 0 := z 1 (by decide) (by decide) (by decide) (by decide) (by decide) (by decide) (by decide) (by decide) (by decide)
  have g2 : g 2 = 0 := z 2 (by decide) (by decide) (by decide) (by decide) (by decide) (by decide) (by decide) (by decide) (by decide)
  have g4 : g 4 = 0 := z 4 (by decide) (by decide) (by decide) (by decide) (by decide) (by decide) (by decide) (by decide) (by decide)
  have g5 : g 5 = 0 := z 5 (by decide) (by decide) (by decide) (by decide) (by decide) (by decide) (by decide) (by decide) (by decide)
  have g8 : g 8 = 0 := z 8 (by decide) (by decide) (by decide) (by decide) (by decide) (by decide) (by decide) (by decide) (by decide)
  have g3 : g 3 = -1 := (hg 3 (by decide) (by decide)).trans rfl
  have g6 : g 6 = 150 := (hg 6 (by decide) (by decide)).trans rfl
  have g7 : g 7 = 10 := (hg 7 (by decide) (by decide)).trans rfl
  have g9 : g 9 = 300 := (hg 9 (by decide) (by decide)).trans rfl
  have g10 : g 10 = 400 := (hg 10 (by decide) (by decide)).trans rfl
  refine ⟨hw, hn, fun e a b => Or.inl (z' _ (by omega) (by omega) (by omega)), fun e a b => Or.inl (zc e a b), fun c a b => ⟨1, ?_⟩, fun e a b => Or.inl (z' _ (by omega) (by omega) (by omega)), fun k a b => ?_, fun e a b c => ?_, fun e a b => z' _ (by omega) (by omega) (by omega), ?_, by omega, fun k a b => ?_, fun l a b => ?_, by omega, by omega, by omega, fun i a b => ?_, by omega, by omega, by omega, by omega, by omega, by omega, fun s a b => ?_, fun s a b c => ?_, fun s a b => ?_, fun s k a b c e => ?_⟩
  · show stp (fun e => g (90 + e)) c = -1
    unfold stp
    rw [if_neg (by omega)]
    exact zc c a (by omega)
  · rw [z' _ (by omega) (by omega) (by omega)]; decide
  · rw [z' _ (by omega) (by omega) (by omega)] at c; exact absurd c (by decide)
  · rw [g0]
    exact (sum_0 (by decide) (fun e a b => z' _ (by omega) (by omega) (by omega))).symm
  · omega
  · omega
  · omega
  · rw [zf s a b]; decide
  · exact absurd (zf s a b) c
  · rw [z' _ (by omega) (by omega) (by omega)]; decide
  · rw [z' (610 + s) (by omega) (by omega) (by omega)] at e; omega
theorem srel_0 {w h n : Int} {L D I O B LY AM RU FF FT SP SC VD LK PL SA KN NW : Int → Int} {g : Int → Int} (hn : n = w * h) (hg : ∀ k, 0 ≤ k → k < 1180 → g k = gM 64 5 k)
    (l0 : L 0 = w) (l1 : L 1 = h) (l2 : L 2 = w * h) (l7 : L 7 = 0) (pd : ∀ k, D k = 0) (pi : ∀ k, I k = 0) (po : ∀ k, 0 ≤ k → k < 64 → O k = -1) (pb : ∀ k, B k = 0) (ly : LY 1 = 0) (r0 : RU 0 = 150) (r1 : RU 1 = 10) (r2 : RU 2 = 0) (r3 : RU 3 = 300) (r4 : RU 4 = 400) (r5 : RU 5 = 0) (ff : ∀ k, 0 ≤ k → k < 5 → FF k = -1) (sp : ∀ k, SP k = 0) (sc : ∀ k, SC k = 0) (v4 : VD 4 = 0) (n5 : NW 5 = 0) (n6 : NW 6 = -1) : SRel w n L D I O B LY AM RU FF FT SP SC VD LK PL SA KN NW g := by
  have z : ∀ j, 0 ≤ j → j < 1180 → ¬ j = 3 → ¬ j = 6 → ¬ j = 7 → ¬ j = 9 → ¬ j = 10 → ¬ (90 ≤ j ∧ j < 154) → ¬ (600 ≤ j ∧ j < 610) → g j = 0 := by
    intro j a b c3 c6 c7 c9 c10 cc cs
    rw [hg j a b]
    unfold gM
    rw [if_neg c3, if_neg c6, if_neg c7, if_neg c9, if_neg c10, if_neg (by omega), if_neg (by omega)]
  have zc : ∀ e, 0 ≤ e → e < 64 → g (90 + e) = -1 := by
    intro e a b
    rw [hg _ (by omega) (by omega)]
    unfold gM
    rw [if_neg (by omega), if_neg (by omega), if_neg (by omega), if_neg (by omega), if_neg (by omega), if_pos (by omega)]
  have zf : ∀ s, 0 ≤ s → s < 5 → g (600 + 2 * s) = -1 := by
    intro s a b
    rw [hg _ (by omega) (by omega)]
    unfold gM
    rw [if_neg (by omega), if_neg (by omega), if_neg (by omega), if_neg (by omega), if_neg (by omega), if_neg (by omega), if_pos (by omega)]
  have z' : ∀ j, 0 ≤ j → j < 1180 → (10 < j ∧ j < 90 ∨ 153 < j ∧ j < 600 ∨ 609 < j) → g j = 0 := fun j a b c => z j a b (by omega) (by omega) (by omega) (by omega) (by omega) (by omega) (by omega)
  have g0 : g 0 = 0 := z 0 (by decide) (by decide) (by decide) (by decide) (by decide) (by decide) (by decide) (by decide) (by decide)
  have g1 : g 1 = 0 := z 1 (by decide) (by decide) (by decide) (by decide) (by decide) (by decide) (by decide) (by decide) (by decide)
  have g2 : g 2 = 0 := z 2 (by decide) (by decide) (by decide) (by decide) (by decide) (by decide) (by decide) (by decide) (by decide)
  have g4 : g 4 = 0 := z 4 (by decide) (by decide) (by decide) (by decide) (by decide) (by decide) (by decide) (by decide) (by decide)
  have g5 : g 5 = 0 := z 5 (by decide) (by decide) (by decide) (by decide) (by decide) (by decide) (by decide) (by decide) (by decide)
  have g8 : g 8 = 0 := z 8 (by decide) (by decide) (by decide) (by decide) (by decide) (by decide) (by decide) (by decide) (by decide)
  have g3 : g 3 = -1 := (hg 3 (by decide) (by decide)).trans rfl
  have g6 : g 6 = 150 := (hg 6 (by decide) (by decide)).trans rfl
  have g7 : g 7 = 10 := (hg 7 (by decide) (by decide)).trans rfl
  have g9 : g 9 = 300 := (hg 9 (by decide) (by decide)).trans rfl
  have g10 : g 10 = 400 := (hg 10 (by decide) (by decide)).trans rfl
  refine ⟨l0, by rw [l1, hn, Int.mul_comm], by rw [l2, hn], by rw [l7, g0], fun k a b => ?_, fun k a b => ?_, fun k a b => ?_, fun k a b => ?_, by rw [ly, g1], fun k a b => ?_, by rw [r0, g6], by rw [r1, g7], by rw [r2, g8], by rw [r3, g9], by rw [r4, g10], by rw [r5, g5], fun s a b => ?_, fun s a b c => absurd (zf s a b) c, fun k a b => ?_, fun s a b => ?_, by rw [v4, g4], fun i a b => ?_, fun i a b => ?_, fun i a b => ?_, fun i a b => ?_, by rw [n5, g2], by rw [n6, g3]⟩
  · rw [pd, z' _ (by omega) (by omega) (by omega)]
  · rw [pi, z' _ (by omega) (by omega) (by omega)]
  · rw [po k a b, zc k a b]
  · rw [pb, z' _ (by omega) (by omega) (by omega)]
  · omega
  · rw [ff s a b, zf s a b]
  · rw [sp, z' _ (by omega) (by omega) (by omega)]
  · rw [sc, z' _ (by omega) (by omega) (by omega)]
  · omega
  · omega
  · omega
  · omega

theorem inv_0 (v1 v2 : Int) (H : XH) (x2_eq0 : H 2 0 = (clp v1)) (x2_eq1 : H 2 1 = (clp v2)) (x2_eq2 : H 2 2 = (clp v1) * (clp v2)) (x2_eq7 : H 2 7 = 0) (x3_zero : ∀ k, H 3 k = 0) (x4_zero : ∀ k, H 4 k = 0) (x5_m1 : ∀ k, 0 ≤ k → k < 64 → H 5 k = -1) (x6_zero : ∀ k, H 6 k = 0) (x7_eq1 : H 7 1 = 0) (x9_eq0 : H 9 0 = 150) (x9_eq1 : H 9 1 = 10) (x9_eq2 : H 9 2 = 0) (x9_eq3 : H 9 3 = 300) (x9_eq4 : H 9 4 = 400) (x9_eq5 : H 9 5 = 0) (x10_m1 : ∀ k, 0 ≤ k → k < 5 → H 10 k = -1) (x13_zero : ∀ k, H 13 k = 0) (x14_zero : ∀ k, H 14 k = 0) (x15_eq4 : H 15 4 = 0) (x18_zero : ∀ k, H 18 k = 0) (x19_zero : ∀ k, H 19 k = 0) (x1_eq5 : H 1 5 = 0) (x1_eq6 : H 1 6 = (-1)) (x21_eq0 : H 21 0 = (clp v1)) (x21_eq1 : H 21 1 = (clp v2)) (x21_eq2 : H 21 2 = (clp v1) * (clp v2)) (x21_eq7 : H 21 7 = 0) (x22_zero : ∀ k, H 22 k = 0) (x23_zero : ∀ k, H 23 k = 0) (x24_m1 : ∀ k, 0 ≤ k → k < 64 → H 24 k = -1) (x25_zero : ∀ k, H 25 k = 0) (x26_eq1 : H 26 1 = 0) (x28_eq0 : H 28 0 = 150) (x28_eq1 : H 28 1 = 10) (x28_eq2 : H 28 2 = 0) (x28_eq3 : H 28 3 = 300) (x28_eq4 : H 28 4 = 400) (x28_eq5 : H 28 5 = 0) (x29_m1 : ∀ k, 0 ≤ k → k < 5 → H 29 k = -1) (x32_zero : ∀ k, H 32 k = 0) (x33_zero : ∀ k, H 33 k = 0) (x34_eq4 : H 34 4 = 0) (x37_zero : ∀ k, H 37 k = 0) (x38_zero : ∀ k, H 38 k = 0) (x20_eq5 : H 20 5 = 0) (x20_eq6 : H 20 6 = (-1)) (x51_eq3 : H 51 3 = 0) (x51_eq4 : H 51 4 = 0) (m0 : H 67 0 = clp v1) (m1 : H 67 1 = clp v1 * clp v2) (m5 : H 67 5 = 0) (m6 : H 67 6 = -1) (m7 : H 67 7 = -1) (ma : ∀ k, H 68 k = gM 64 5 k) (mi : ∀ k, 0 ≤ k → k < 1180 → H 69 k = gM 64 5 k) : InvZ H := by
  have e1 : 3 ≤ H 67 0 ∧ H 67 0 ≤ 8 := by rw [m0]; exact clp_rng v1
  have e2 : 9 ≤ H 67 1 ∧ H 67 1 ≤ 64 := by rw [m1]; exact clp_mul v1 v2
  have ma' : ∀ k, 0 ≤ k → k < 1180 → H 68 k = gM 64 5 k := fun k _ _ => ma k
  have b0 : ∀ x : Int, x = 0 → boF x := fun x e => by rw [e]; exact ⟨by decide, by decide⟩
  have s2 : H 68 2 = 0 := (ma 2).trans rfl
  have i2 : H 69 2 = 0 := (mi 2 (by decide) (by decide)).trans rfl
  refine ⟨⟨gok_0 e1 e2 ma', ?_⟩, ⟨gok_0 e1 e2 mi, ?_⟩, fun k _ _ => ⟨b0 _ (x18_zero k), b0 _ (x19_zero k), b0 _ (x37_zero k), b0 _ (x38_zero k)⟩, ⟨by omega, by omega, fun k a b => by omega⟩, Or.inl ⟨by assumption, m6, m7⟩, fun t a b => by omega, by omega⟩
  · refine srel_0 (w := H 67 0) (h := clp v2) (n := H 67 1) (by rw [m1, m0]) ma' ?_ x2_eq1 (by rw [m0]; exact x2_eq2) x2_eq7 x3_zero x4_zero x5_m1 x6_zero x7_eq1 x9_eq0 x9_eq1 x9_eq2 x9_eq3 x9_eq4 x9_eq5 x10_m1 x13_zero x14_zero x15_eq4 x1_eq5 x1_eq6
    · rw [m0]; assumption
  · refine srel_0 (w := H 67 0) (h := clp v2) (n := H 67 1) (by rw [m1, m0]) mi ?_ x21_eq1 (by rw [m0]; exact x21_eq2) x21_eq7 x22_zero x23_zero x24_m1 x25_zero x26_eq1 x28_eq0 x28_eq1 x28_eq2 x28_eq3 x28_eq4 x28_eq5 x29_m1 x32_zero x33_zero x34_eq4 x20_eq5 x20_eq6
    · rw [m0]; assumption
