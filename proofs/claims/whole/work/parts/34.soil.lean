/-! THE PURE LAYER 4: soils -/
/-- the row a says g -/
def xset (H : XH) (a : Int) (g : Int → Int) : XH := fun o k => if o = a then g k else H o k
def fup (g : Int → Int) (i x : Int) : Int → Int := fun k => if k = i then x else g k
theorem xset_up (H : XH) (a : Int) (g : Int → Int) (i x : Int) : xup (xset H a g) a i x = xset H a (fup g i x) := by
  funext o k
  unfold xup xset fup
  by_cases h : o = a <;> by_cases h2 : k = i <;> simp [h, h2]
theorem xset_same (H : XH) (a : Int) : xset H a (H a) = H := by
  funext o k
  unfold xset
  split
  · next h => rw [h]
  · rfl
theorem xset_at (H : XH) (a : Int) (g : Int → Int) : xset H a g a = g := by
  funext k
  exact if_pos rfl
theorem xset_o {H : XH} {a : Int} {g : Int → Int} {o : Int} (h : ¬ o = a) : xset H a g o = H o := by
  funext k
  exact if_neg h
theorem xset_set (H : XH) (a : Int) (g g' : Int → Int) : xset (xset H a g) a g' = xset H a g' := by
  funext o k
  unfold xset
  split <;> rfl
theorem xup_set (H : XH) (a i x : Int) : xup H a i x = xset H a (fup (H a) i x) := by
  rw [← xset_up, xset_same]
/-- a loop whose fold is known: inv holds at each head, behind it the answer -/
theorem xlQ {σ : Type} (f : Int → σ → σ) (b : Int) (inv : Int → σ → Prop) (Φ : Int → σ → Prop) (Post : σ → Prop)
    (he : ∀ i s, b ≤ i → inv i s → Post s → Φ i s)
    (hs : ∀ i s, i < b → inv i s → inv (i + 1) (f i s) ∧ (Φ (i + 1) (f i s) → Φ i s)) (i : Int) (s : σ) (h0 : inv i s) (hp : Post (xfor f i b s)) : Φ i s := by
  refine xloop f b (fun i s => inv i s → Post (xfor f i b s) → Φ i s) (fun i s hb hi hq => ?_) (fun i s hb ih hi hq => ?_) i s h0 hp
  · rw [xfor_end hb] at hq; exact he i s hb hi hq
  · rw [xfor_step hb] at hq
    have k := hs i s hb hi
    exact k.2 (ih k.1 hq)
theorem iacl (a b : Int) : a + b - a = b := by omega
/-- five places of a row, each said anew -/
theorem fup5 (g : Int → Int) (t : Int) (u : Int → Int → Int) : xfor (fun s g => fup g (t + s) (u s (g (t + s)))) 0 5 g = fun k => if t ≤ k ∧ k < t + 5 then u (k - t) (g k) else g k := by
  rw [xfor_step (by omega), xfor_step (by omega), xfor_step (by omega), xfor_step (by omega), xfor_step (by omega), xfor_end (by omega)]
  funext k
  by_cases h : t ≤ k ∧ k < t + 5
  · rw [if_pos h]
    have h5 : k = t + 0 ∨ k = t + (0 + 1) ∨ k = t + (0 + 1 + 1) ∨ k = t + (0 + 1 + 1 + 1) ∨ k = t + (0 + 1 + 1 + 1 + 1) := by omega
    rcases h5 with e | e | e | e | e <;> subst e <;> simp (disch := omega) only [fup, if_pos, if_neg, if_true, iacl]
  · rw [if_neg h]
    simp (disch := omega) only [fup, if_neg]
/-- the soil of one sort: the amounts of the dug cells that are nearest -/
def slF (w : Int) (dg am : Int → Int) (c near s o v : Int) : Int := if ¬ dg o = 0 ∧ btw w c o = near then v + am (o * 5 + s) else v
def slS (w n : Int) (dg am : Int → Int) (c near s : Int) : Int := xfor (slF w dg am c near s) 0 n 0
/-- the soils of all cells out of what was dug and carried -/
def soilF (w n : Int) (dg og am : Int → Int) (c s : Int) : Int := slS w n dg am (srcS n dg og 64 c) (nrS w n dg (srcS n dg og 64 c)) s
def soilT (w n : Int) (dg og am : Int → Int) (c : Int) : Int := sum5 (soilF w n dg og am c) 0
def slRow (t : Int) (w n : Int) (dg am : Int → Int) (c near : Int) (o : Int) (g : Int → Int) : Int → Int := fun k => if t ≤ k ∧ k < t + 5 then slF w dg am c near (k - t) o (g k) else g k
theorem slRow_for (t w n : Int) (dg am : Int → Int) (c near i : Int) (g : Int → Int) (k : Int) : xfor (slRow t w n dg am c near) i n g k = if t ≤ k ∧ k < t + 5 then xfor (slF w dg am c near (k - t)) i n (g k) else g k := by
  refine xloop (slRow t w n dg am c near) n (fun i g => xfor (slRow t w n dg am c near) i n g k = if t ≤ k ∧ k < t + 5 then xfor (slF w dg am c near (k - t)) i n (g k) else g k) (fun i g hb => ?_) (fun i g hb ih => ?_) i g
  · rw [xfor_end hb, xfor_end hb, ite_self]
  · rw [xfor_step hb, ih]
    split
    · next h => rw [xfor_step (f := slF w dg am c near (k - t)) hb]; unfold slRow; rw [if_pos h]
    · next h => unfold slRow; rw [if_neg h]

theorem slRow_no {t w n : Int} {dg am : Int → Int} {c near o : Int} {g : Int → Int} (h : ¬ (¬ dg o = 0 ∧ btw w c o = near)) : slRow t w n dg am c near o g = g := by
  funext k
  unfold slRow slF
  rw [if_neg h, ite_self]
theorem slRow_yes {t w n : Int} {dg am : Int → Int} {c near o : Int} {g : Int → Int} (h : ¬ dg o = 0 ∧ btw w c o = near) : slRow t w n dg am c near o g = fun k => if t ≤ k ∧ k < t + 5 then g k + am (o * 5 + (k - t)) else g k := by
  funext k
  unfold slRow slF
  rw [if_pos h]
theorem slS_none {w n : Int} {dg am : Int → Int} {c s : Int} (hw : 1 ≤ w ∧ w ≤ 8) (hn : 0 ≤ n ∧ n ≤ 64) (hc : 0 ≤ c ∧ c < 64) : slS w n dg am c (-1) s = 0 := by
  have h := xfor_inv (f := slF w dg am c (-1) s) (b := n) (R := fun o v => 0 ≤ o ∧ v = 0) (fun o v hb hr => ?_) 0 0 hn.1 ⟨Int.le_refl _, rfl⟩
  · exact h.2
  · have hb := btw_rng hw hc (e := o) ⟨hr.1, by omega⟩
    refine ⟨by omega, ?_⟩
    unfold slF
    rw [if_neg (by omega)]
    exact hr.2

theorem U_37_a40 {X : Int × (Int → Int)} {d : Nat} {Q : Int → XH → Prop} (hd : 1 ≤ d) (c t : Int) (H : XH) (h : ((((0 ≤ c ∧ c < H 2 2)) → ((t < 0) → Q 0 H) ∧ (¬ (t < 0) → (xI (t + 5)) ∧ ((t + 5 ≤ 320) → xq X d 37 Q 25 [(0, (2, 2)), (1, (0, c)), (2, (2, 40)), (3, (0, t)), (4, (0, 0))] [] H) ∧ (¬ (t + 5 ≤ 320) → Q 0 H))) ∧ (¬ ((0 ≤ c ∧ c < H 2 2)) → Q 0 H))) : xc X (d + 1) 37 [(2, 2), (0, c), (2, 40), (0, t)] H Q := by
  refine ⟨rfl, ?_⟩
  show xq X d 37 Q 100000 [(0, (2, 2)), (1, (0, c)), (2, (2, 40)), (3, (0, t))] [] H
  refine xq_run [5, 25, 49, 57, 70, 97, 108, 152] 300 ?_
  show xWM (xE X) xMC d 18 [(2, 2), (0, c)] xKZ H _
  refine xc_in (s_18 (by omega) c H  ?_)
  replace h := h
  show xq X d 37 Q 5 [(0, (2, 2)), (1, (0, c)), (2, (2, 40)), (3, (0, t))] [(0, xb (0 ≤ c ∧ c < H 2 2))] H
  refine xq_run [5, 25, 49, 57, 70, 97, 108, 152] 300 ?_
  show ((xb (0 ≤ c ∧ c < H 2 2) = 0) → xfR 0 0 ∧ xKZ = xKZ ∧ Q 0 H) ∧ (¬ (xb (0 ≤ c ∧ c < H 2 2) = 0) → ((t < 0) → xfR 0 0 ∧ xKZ = xKZ ∧ Q 0 H) ∧ (¬ (t < 0) → (xI (t + 5)) ∧ (1 ≤ xTy xKZ 40 ∧ xTy xKZ 40 ≤ 5) ∧ ((t + 5 ≤ 320) → xq X d 37 Q 25 [(0, (2, 2)), (1, (0, c)), (2, (2, 40)), (3, (0, t)), (4, (0, 0))] [] H) ∧ (¬ (t + 5 ≤ 320) → xfR 0 0 ∧ xKZ = xKZ ∧ Q 0 H)))
  refine ⟨fun k_ => ?_, fun k_ => ?_⟩
  · replace h := h.2 (xbe_0.mp k_)
    exact ⟨trivial, rfl, h⟩
  · replace h := h.1 (xbe_1.mp k_)
    refine ⟨fun k_ => ?_, fun k_ => ?_⟩
    · replace h := h.1 k_
      exact ⟨trivial, rfl, h⟩
    · replace h := h.2 k_
      refine ⟨h.1, ?_⟩
      replace h := h.2
      refine ⟨⟨by decide, by decide⟩, ?_⟩
      refine ⟨fun k_ => ?_, fun k_ => ?_⟩
      · replace h := h.1 k_
        exact h
      · replace h := h.2 k_
        exact ⟨trivial, rfl, h⟩
theorem U_37_25_a40 {X : Int × (Int → Int)} {d : Nat} {Q : Int → XH → Prop} (hd : 3 ≤ d) (v1 v3 v4 : Int) (H : XH) (h : ((5 ≤ v4) → (0 ≤ H 2 2 ∧ H 2 2 ≤ 64) ∧ (0 ≤ v1 ∧ v1 < H 2 2) ∧ ((1 ≤ H 2 0 ∧ H 2 0 ≤ 8) ∧ (0 ≤ H 2 2 ∧ H 2 2 ≤ 64) ∧ (0 ≤ srcS (H 2 2) (fun e => H 4 e) (fun e => H 5 e) 64 v1 ∧ srcS (H 2 2) (fun e => H 4 e) (fun e => H 5 e) 64 v1 < 64) ∧ (((¬ nrS (H 2 0) (H 2 2) (fun e => H 4 e) (srcS (H 2 2) (fun e => H 4 e) (fun e => H 5 e) 64 v1) = (-1)) → xq X d 37 Q 70 [(0, (2, 2)), (2, (2, 40)), (3, (0, v3)), (4, (0, srcS (H 2 2) (fun e => H 4 e) (fun e => H 5 e) 64 v1)), (5, (0, nrS (H 2 0) (H 2 2) (fun e => H 4 e) (srcS (H 2 2) (fun e => H 4 e) (fun e => H 5 e) 64 v1))), (6, (0, 0))] [] H) ∧ (¬ (¬ nrS (H 2 0) (H 2 2) (fun e => H 4 e) (srcS (H 2 2) (fun e => H 4 e) (fun e => H 5 e) 64 v1) = (-1)) → Q 0 H)))) ∧ (¬ (5 ≤ v4) → (xI (v3 + v4)) ∧ ((0 : Int) ≤ v3 + v4 ∧ (v3 + v4 : Int) < 320) ∧ (xI (v4 + 1)) ∧ xq X d 37 Q 25 [(0, (2, 2)), (1, (0, v1)), (2, (2, 40)), (3, (0, v3)), (4, (0, v4 + 1))] [] (xup H 40 (v3 + v4) 0))) : xq X d 37 Q 25 [(0, (2, 2)), (1, (0, v1)), (2, (2, 40)), (3, (0, v3)), (4, (0, v4))] [] H := by
  show xq X d 37 Q 25 [(0, (2, 2)), (1, (0, v1)), (2, (2, 40)), (3, (0, v3)), (4, (0, v4))] [] H
  refine xq_run [5, 25, 49, 57, 70, 97, 108, 152] 300 ?_
  show ((5 ≤ v4) → xWM (xE X) xMC d 32 [(2, 2), (0, v1)] xKZ H _) ∧ (¬ (5 ≤ v4) → (xI (v3 + v4)) ∧ ((0 : Int) ≤ v3 + v4 ∧ (v3 + v4 : Int) < 320) ∧ (xI (v4 + 1)) ∧ xq X d 37 Q 25 [(0, (2, 2)), (1, (0, v1)), (2, (2, 40)), (3, (0, v3)), (4, (0, v4 + 1))] [] (xup H 40 (v3 + v4) 0))
  refine ⟨fun k_ => ?_, fun k_ => ?_⟩
  · replace h := h.1 k_
    refine xc_in (s_32 (by omega) v1 H (h.1) (h.2.1) ?_)
    replace h := h.2.2
    show xq X d 37 Q 49 [(0, (2, 2)), (1, (0, v1)), (2, (2, 40)), (3, (0, v3)), (4, (0, v4))] [(0, srcS (H 2 2) (fun e => H 4 e) (fun e => H 5 e) 64 v1)] H
    refine xq_run [5, 25, 49, 57, 70, 97, 108, 152] 300 ?_
    show xWM (xE X) xMC d 35 [(2, 2), (0, srcS (H 2 2) (fun e => H 4 e) (fun e => H 5 e) 64 v1)] xKZ H _
    refine xc_in (s_35 (by omega) (srcS (H 2 2) (fun e => H 4 e) (fun e => H 5 e) 64 v1) H (h.1) (h.2.1) (h.2.2.1) ?_)
    replace h := h.2.2.2
    show xq X d 37 Q 57 [(4, (0, srcS (H 2 2) (fun e => H 4 e) (fun e => H 5 e) 64 v1)), (0, (2, 2)), (1, (0, v1)), (2, (2, 40)), (3, (0, v3))] [(0, nrS (H 2 0) (H 2 2) (fun e => H 4 e) (srcS (H 2 2) (fun e => H 4 e) (fun e => H 5 e) 64 v1))] H
    refine xq_run [5, 25, 49, 57, 70, 97, 108, 152] 300 ?_
    show ((¬ nrS (H 2 0) (H 2 2) (fun e => H 4 e) (srcS (H 2 2) (fun e => H 4 e) (fun e => H 5 e) 64 v1) = (-1)) → xq X d 37 Q 70 [(0, (2, 2)), (2, (2, 40)), (3, (0, v3)), (4, (0, srcS (H 2 2) (fun e => H 4 e) (fun e => H 5 e) 64 v1)), (5, (0, nrS (H 2 0) (H 2 2) (fun e => H 4 e) (srcS (H 2 2) (fun e => H 4 e) (fun e => H 5 e) 64 v1))), (6, (0, 0))] [] H) ∧ (¬ (¬ nrS (H 2 0) (H 2 2) (fun e => H 4 e) (srcS (H 2 2) (fun e => H 4 e) (fun e => H 5 e) 64 v1) = (-1)) → xfR 0 0 ∧ xKZ = xKZ ∧ Q 0 H)
    refine ⟨fun k_ => ?_, fun k_ => ?_⟩
    · replace h := h.1 k_
      exact h
    · replace h := h.2 k_
      exact ⟨trivial, rfl, h⟩
  · replace h := h.2 k_
    refine ⟨h.1, ?_⟩
    replace h := h.2
    refine ⟨h.1, ?_⟩
    replace h := h.2
    refine ⟨h.1, ?_⟩
    replace h := h.2
    exact h
theorem U_37_70_a40 {X : Int × (Int → Int)} {d : Nat} {Q : Int → XH → Prop} (hd : 2 ≤ d) (v3 v4 v5 v6 : Int) (H : XH) (h : ((H 2 2 ≤ v6) → (0 ≤ v3 ∧ v3 + 5 ≤ 320) ∧ ((320 : Int) ≤ 100000) ∧ (∀ s, 0 ≤ s → s < 5 → 0 ≤ H 40 (v3 + s) ∧ H 40 (v3 + s) ≤ 100000) ∧ (Q (sum5 (H 40) v3) H)) ∧ (¬ (H 2 2 ≤ v6) → ((0 : Int) ≤ v6 ∧ (v6 : Int) < 64) ∧ ((H 4 v6 = 0) → (xI (v6 + 1)) ∧ xq X d 37 Q 70 [(0, (2, 2)), (2, (2, 40)), (3, (0, v3)), (4, (0, v4)), (5, (0, v5)), (6, (0, v6 + 1))] [] H) ∧ (¬ (H 4 v6 = 0) → (1 ≤ H 2 0 ∧ H 2 0 ≤ 8) ∧ (0 ≤ v4 ∧ v4 < 64) ∧ (0 ≤ v6 ∧ v6 < 64) ∧ (((btw (H 2 0) v4 v6 = v5) → xq X d 37 Q 108 [(0, (2, 2)), (2, (2, 40)), (3, (0, v3)), (4, (0, v4)), (5, (0, v5)), (6, (0, v6)), (7, (0, 0))] [] H) ∧ (¬ (btw (H 2 0) v4 v6 = v5) → (xI (v6 + 1)) ∧ xq X d 37 Q 70 [(0, (2, 2)), (2, (2, 40)), (3, (0, v3)), (4, (0, v4)), (5, (0, v5)), (6, (0, v6 + 1))] [] H))))) : xq X d 37 Q 70 [(0, (2, 2)), (2, (2, 40)), (3, (0, v3)), (4, (0, v4)), (5, (0, v5)), (6, (0, v6))] [] H := by
  show xq X d 37 Q 70 [(0, (2, 2)), (2, (2, 40)), (3, (0, v3)), (4, (0, v4)), (5, (0, v5)), (6, (0, v6))] [] H
  refine xq_run [5, 25, 49, 57, 70, 97, 108, 152] 300 ?_
  show ((H 2 2 ≤ v6) → xWM (xE X) xMC d 36 [(2, 40), (0, v3)] xKZ H _) ∧ (¬ (H 2 2 ≤ v6) → ((0 : Int) ≤ v6 ∧ (v6 : Int) < 64) ∧ ((H 4 v6 = 0) → (xI (v6 + 1)) ∧ xq X d 37 Q 70 [(0, (2, 2)), (2, (2, 40)), (3, (0, v3)), (4, (0, v4)), (5, (0, v5)), (6, (0, v6 + 1))] [] H) ∧ (¬ (H 4 v6 = 0) → xWM (xE X) xMC d 34 [(2, 2), (0, v4), (0, v6)] xKZ H _))
  refine ⟨fun k_ => ?_, fun k_ => ?_⟩
  · replace h := h.1 k_
    refine xc_in (s_36 (by omega) 40 v3 H 320 rfl rfl (h.1) (h.2.1) (h.2.2.1) ?_)
    replace h := h.2.2.2
    show xq X d 37 Q 152 [(0, (2, 2)), (2, (2, 40)), (3, (0, v3)), (4, (0, v4)), (5, (0, v5)), (6, (0, v6))] [(0, sum5 (H 40) v3)] H
    refine xq_run [5, 25, 49, 57, 70, 97, 108, 152] 300 ?_
    show xfR 0 (sum5 (H 40) v3) ∧ xKZ = xKZ ∧ Q (sum5 (H 40) v3) H
    exact ⟨trivial, rfl, h⟩
  · replace h := h.2 k_
    refine ⟨h.1, ?_⟩
    replace h := h.2
    refine ⟨fun k_ => ?_, fun k_ => ?_⟩
    · replace h := h.1 k_
      refine ⟨h.1, ?_⟩
      replace h := h.2
      exact h
    · replace h := h.2 k_
      refine xc_in (s_34 (by omega) v4 v6 H (h.1) (h.2.1) (h.2.2.1) ?_)
      replace h := h.2.2.2
      show xq X d 37 Q 97 [(0, (2, 2)), (2, (2, 40)), (3, (0, v3)), (4, (0, v4)), (5, (0, v5)), (6, (0, v6))] [(0, btw (H 2 0) v4 v6)] H
      refine xq_run [5, 25, 49, 57, 70, 97, 108, 152] 300 ?_
      show ((btw (H 2 0) v4 v6 = v5) → xq X d 37 Q 108 [(0, (2, 2)), (2, (2, 40)), (3, (0, v3)), (4, (0, v4)), (5, (0, v5)), (6, (0, v6)), (7, (0, 0))] [] H) ∧ (¬ (btw (H 2 0) v4 v6 = v5) → (xI (v6 + 1)) ∧ xq X d 37 Q 70 [(0, (2, 2)), (2, (2, 40)), (3, (0, v3)), (4, (0, v4)), (5, (0, v5)), (6, (0, v6 + 1))] [] H)
      refine ⟨fun k_ => ?_, fun k_ => ?_⟩
      · replace h := h.1 k_
        exact h
      · replace h := h.2 k_
        refine ⟨h.1, ?_⟩
        replace h := h.2
        exact h
theorem U_37_108_a40 {X : Int × (Int → Int)} {d : Nat} {Q : Int → XH → Prop} (hd : 0 ≤ d) (v3 v4 v5 v6 v7 : Int) (H : XH) (h : ((5 ≤ v7) → (xI (v6 + 1)) ∧ xq X d 37 Q 70 [(0, (2, 2)), (2, (2, 40)), (3, (0, v3)), (4, (0, v4)), (5, (0, v5)), (6, (0, v6 + 1))] [] H) ∧ (¬ (5 ≤ v7) → (xI (v3 + v7)) ∧ ((0 : Int) ≤ v3 + v7 ∧ (v3 + v7 : Int) < 320) ∧ (xI (v6 * 5)) ∧ (xI ((v6 * 5) + v7)) ∧ ((0 : Int) ≤ (v6 * 5) + v7 ∧ ((v6 * 5) + v7 : Int) < 320) ∧ (xI ((H 40 (v3 + v7)) + (H 3 ((v6 * 5) + v7)))) ∧ ((0 : Int) ≤ v3 + v7 ∧ (v3 + v7 : Int) < 320) ∧ (xI (v7 + 1)) ∧ xq X d 37 Q 108 [(0, (2, 2)), (2, (2, 40)), (3, (0, v3)), (4, (0, v4)), (5, (0, v5)), (6, (0, v6)), (7, (0, v7 + 1))] [] (xup H 40 (v3 + v7) ((H 40 (v3 + v7)) + (H 3 ((v6 * 5) + v7)))))) : xq X d 37 Q 108 [(0, (2, 2)), (2, (2, 40)), (3, (0, v3)), (4, (0, v4)), (5, (0, v5)), (6, (0, v6)), (7, (0, v7))] [] H := by
  show xq X d 37 Q 108 [(0, (2, 2)), (2, (2, 40)), (3, (0, v3)), (4, (0, v4)), (5, (0, v5)), (6, (0, v6)), (7, (0, v7))] [] H
  refine xq_run [5, 25, 49, 57, 70, 97, 108, 152] 300 ?_
  show ((5 ≤ v7) → (xI (v6 + 1)) ∧ xq X d 37 Q 70 [(0, (2, 2)), (2, (2, 40)), (3, (0, v3)), (4, (0, v4)), (5, (0, v5)), (6, (0, v6 + 1))] [] H) ∧ (¬ (5 ≤ v7) → (xI (v3 + v7)) ∧ ((0 : Int) ≤ v3 + v7 ∧ (v3 + v7 : Int) < 320) ∧ (xI (v6 * 5)) ∧ (xI ((v6 * 5) + v7)) ∧ ((0 : Int) ≤ (v6 * 5) + v7 ∧ ((v6 * 5) + v7 : Int) < 320) ∧ (xI ((H 40 (v3 + v7)) + (H 3 ((v6 * 5) + v7)))) ∧ ((0 : Int) ≤ v3 + v7 ∧ (v3 + v7 : Int) < 320) ∧ (xI (v7 + 1)) ∧ xq X d 37 Q 108 [(0, (2, 2)), (2, (2, 40)), (3, (0, v3)), (4, (0, v4)), (5, (0, v5)), (6, (0, v6)), (7, (0, v7 + 1))] [] (xup H 40 (v3 + v7) ((H 40 (v3 + v7)) + (H 3 ((v6 * 5) + v7)))))
  refine ⟨fun k_ => ?_, fun k_ => ?_⟩
  · replace h := h.1 k_
    refine ⟨h.1, ?_⟩
    replace h := h.2
    exact h
  · replace h := h.2 k_
    refine ⟨h.1, ?_⟩
    replace h := h.2
    refine ⟨h.1, ?_⟩
    replace h := h.2
    refine ⟨h.1, ?_⟩
    replace h := h.2
    refine ⟨h.1, ?_⟩
    replace h := h.2
    refine ⟨h.1, ?_⟩
    replace h := h.2
    refine ⟨h.1, ?_⟩
    replace h := h.2
    refine ⟨h.1, ?_⟩
    replace h := h.2
    refine ⟨h.1, ?_⟩
    replace h := h.2
    exact h

theorem s_37_a40 {X : Int × (Int → Int)} {d : Nat} {Q : Int → XH → Prop} (hd : 4 ≤ d) (c t : Int) (H : XH) (pw : 1 ≤ H 2 0 ∧ H 2 0 ≤ 8) (pn : 0 ≤ H 2 2 ∧ H 2 2 ≤ 64) (pc : 0 ≤ c ∧ c < H 2 2) (pt : 0 ≤ t ∧ t + 5 ≤ 320) (pd : ∀ k, 0 ≤ k → k < 320 → 0 ≤ H 3 k ∧ H 3 k ≤ 9) (hQ : Q (soilT (H 2 0) (H 2 2) (fun e => H 4 e) (fun e => H 5 e) (fun k => H 3 k) c) (xset H 40 (fun k => if t ≤ k ∧ k < t + 5 then soilF (H 2 0) (H 2 2) (fun e => H 4 e) (fun e => H 5 e) (fun k => H 3 k) c (k - t) else H 40 k))) : xc X d 37 [(2, 2), (0, c), (2, 40), (0, t)] H Q := by
  cases d with
  | zero => omega
  | succ d =>
  refine U_37_a40 (by omega) c t H ⟨fun _ => ⟨fun q => absurd q (by omega), fun _ => ⟨by unfold xI; omega, fun _ => ?_, fun q => absurd (by omega) q⟩⟩, fun q => absurd pc q⟩
  unfold soilT soilF at hQ
  have hs := srcS_rng (dg := fun e => H 4 e) (og := fun e => H 5 e) 64 c pc
  generalize hsc : srcS (H 2 2) (fun e => H 4 e) (fun e => H 5 e) 64 c = sc at hQ hs
  generalize hnr : nrS (H 2 0) (H 2 2) (fun e => H 4 e) sc = nr at hQ
  have h70 : ∀ o g, (0 ≤ o ∧ o ≤ H 2 2 ∧ ∀ k, t ≤ k → k < t + 5 → 0 ≤ g k ∧ g k ≤ 9 * o) → Q (sum5 (xfor (slRow t (H 2 0) (H 2 2) (fun e => H 4 e) (fun k => H 3 k) sc nr) o (H 2 2) g) t) (xset H 40 (xfor (slRow t (H 2 0) (H 2 2) (fun e => H 4 e) (fun k => H 3 k) sc nr) o (H 2 2) g)) → xq X d 37 Q 70 [(0, (2, 2)), (2, (2, 40)), (3, (0, t)), (4, (0, sc)), (5, (0, nr)), (6, (0, o))] [] (xset H 40 g) := by
    intro o g hi hq
    refine xlQ (slRow t (H 2 0) (H 2 2) (fun e => H 4 e) (fun k => H 3 k) sc nr) (H 2 2) (fun o g => 0 ≤ o ∧ o ≤ H 2 2 ∧ ∀ k, t ≤ k → k < t + 5 → 0 ≤ g k ∧ g k ≤ 9 * o) (fun o g => xq X d 37 Q 70 [(0, (2, 2)), (2, (2, 40)), (3, (0, t)), (4, (0, sc)), (5, (0, nr)), (6, (0, o))] [] (xset H 40 g)) (fun g => Q (sum5 g t) (xset H 40 g)) ?_ ?_ o g hi hq
    · intro o g hb hi hp
      refine U_37_70_a40 (by omega) t sc nr o (xset H 40 g) ⟨fun _ => ⟨pt, by omega, ?_, ?_⟩, fun q => absurd hb q⟩
      · intro s a b
        rw [xset_at]
        have := hi.2.2 (t + s) (by omega) (by omega)
        omega
      · rw [xset_at]
        exact hp
    · intro o g hb hi
      refine ⟨⟨by omega, by omega, fun k a b => ?_⟩, fun hk => ?_⟩
      · have h1 := hi.2.2 k a b
        have h2 := pd (o * 5 + (k - t)) (by omega) (by omega)
        unfold slRow slF
        rw [if_pos ⟨a, b⟩]
        dsimp only
        split <;> omega
      · refine U_37_70_a40 (by omega) t sc nr o (xset H 40 g) ⟨fun q => absurd hb (Int.not_lt.mpr q), fun _ => ⟨⟨hi.1, by omega⟩, fun e => ⟨by unfold xI; omega, ?_⟩, fun e => ⟨pw, ⟨hs.1, by omega⟩, ⟨hi.1, by omega⟩, fun e2 => ?_, fun e2 => ⟨by unfold xI; omega, ?_⟩⟩⟩⟩
        · have e' : H 4 o = 0 := e
          rw [slRow_no (fun q => q.1 e')] at hk
          exact hk
        · have e' : ¬ H 4 o = 0 := e
          have e2' : btw (H 2 0) sc o = nr := e2
          rw [slRow_yes ⟨e', e2'⟩, ← fup5 g t (fun s v => v + H 3 (o * 5 + s))] at hk
          refine xlQ (fun s g => fup g (t + s) (g (t + s) + H 3 (o * 5 + s))) 5 (fun s g => 0 ≤ s ∧ ∀ k, t + s ≤ k → k < t + 5 → 0 ≤ g k ∧ g k ≤ 600) (fun s g => xq X d 37 Q 108 [(0, (2, 2)), (2, (2, 40)), (3, (0, t)), (4, (0, sc)), (5, (0, nr)), (6, (0, o)), (7, (0, s))] [] (xset H 40 g)) (fun g => xq X d 37 Q 70 [(0, (2, 2)), (2, (2, 40)), (3, (0, t)), (4, (0, sc)), (5, (0, nr)), (6, (0, o + 1))] [] (xset H 40 g)) ?_ ?_ 0 g ⟨Int.le_refl _, fun k a b => ?_⟩ hk
          · intro s g hb2 hi2 hp
            exact U_37_108_a40 (by omega) t sc nr o s (xset H 40 g) ⟨fun _ => ⟨by unfold xI; omega, hp⟩, fun q => absurd hb2 q⟩
          · intro s g hb2 hi2
            refine ⟨⟨by omega, fun k a b => ?_⟩, fun hk => ?_⟩
            · unfold fup
              rw [if_neg (by omega)]
              exact hi2.2 k (by omega) b
            · rw [← xset_up] at hk
              have g1 := hi2.2 (t + s) (by omega) (by omega)
              have g2 := pd (o * 5 + s) (by omega) (by omega)
              refine U_37_108_a40 (by omega) t sc nr o s (xset H 40 g) ⟨fun q => absurd q (by omega), fun _ => ⟨by unfold xI; omega, ⟨by omega, by omega⟩, by unfold xI; omega, by unfold xI; omega, ⟨by omega, by omega⟩, ?_, ⟨by omega, by omega⟩, by unfold xI; omega, ?_⟩⟩
              · show xI (g (t + s) + H 3 (o * 5 + s))
                unfold xI
                omega
              · exact hk
          · have := hi.2.2 k (by omega) b
            omega
        · have e2' : ¬ btw (H 2 0) sc o = nr := e2
          rw [slRow_no (fun q => e2' q.2)] at hk
          exact hk
  have h25 : (fun g => (¬ nr = -1 → xq X d 37 Q 70 [(0, (2, 2)), (2, (2, 40)), (3, (0, t)), (4, (0, sc)), (5, (0, nr)), (6, (0, 0))] [] (xset H 40 g)) ∧ (nr = -1 → Q 0 (xset H 40 g))) (xfor (fun s g => fup g (t + s) 0) 0 5 (H 40)) → (fun s g => xq X d 37 Q 25 [(0, (2, 2)), (1, (0, c)), (2, (2, 40)), (3, (0, t)), (4, (0, s))] [] (xset H 40 g)) 0 (H 40) := by
    intro hp
    refine xlQ (fun s g => fup g (t + s) 0) 5 (fun s _ => 0 ≤ s) (fun s g => xq X d 37 Q 25 [(0, (2, 2)), (1, (0, c)), (2, (2, 40)), (3, (0, t)), (4, (0, s))] [] (xset H 40 g)) (fun g => (¬ nr = -1 → xq X d 37 Q 70 [(0, (2, 2)), (2, (2, 40)), (3, (0, t)), (4, (0, sc)), (5, (0, nr)), (6, (0, 0))] [] (xset H 40 g)) ∧ (nr = -1 → Q 0 (xset H 40 g))) ?_ ?_ 0 (H 40) (Int.le_refl _) hp
    · intro s g hb hi hp
      refine U_37_25_a40 (by omega) c t s (xset H 40 g) ⟨fun _ => ⟨pn, pc, pw, pn, ?_, fun e => ?_, fun e => ?_⟩, fun q => absurd hb q⟩
      · show 0 ≤ srcS (H 2 2) (fun e => H 4 e) (fun e => H 5 e) 64 c ∧ srcS (H 2 2) (fun e => H 4 e) (fun e => H 5 e) 64 c < 64
        rw [hsc]
        omega
      · have e' : ¬ nrS (H 2 0) (H 2 2) (fun e => H 4 e) (srcS (H 2 2) (fun e => H 4 e) (fun e => H 5 e) 64 c) = -1 := e
        have hp := hp.1 (by rw [← hnr, ← hsc]; exact e')
        rw [← hnr, ← hsc] at hp
        exact hp
      · have e' : ¬ ¬ nrS (H 2 0) (H 2 2) (fun e => H 4 e) (srcS (H 2 2) (fun e => H 4 e) (fun e => H 5 e) 64 c) = -1 := e
        exact hp.2 (by rw [← hnr, ← hsc]; exact Classical.not_not.mp e')
    · intro s g hb hi
      refine ⟨by omega, fun hk => ?_⟩
      rw [← xset_up] at hk
      exact U_37_25_a40 (by omega) c t s (xset H 40 g) ⟨fun q => absurd q (by omega), fun _ => ⟨by unfold xI; omega, ⟨by omega, by omega⟩, by unfold xI; omega, hk⟩⟩
  have h25' := h25 (by
    rw [fup5 (H 40) t (fun _ _ => 0)]
    refine ⟨fun e => h70 0 _ ⟨Int.le_refl _, pn.1, fun k a b => ?_⟩ ?_, fun e => ?_⟩
    · rw [if_pos ⟨a, b⟩]
      omega
    · have hx : xfor (slRow t (H 2 0) (H 2 2) (fun e => H 4 e) (fun k => H 3 k) sc nr) 0 (H 2 2) (fun k => if t ≤ k ∧ k < t + 5 then 0 else H 40 k) = fun k => if t ≤ k ∧ k < t + 5 then slS (H 2 0) (H 2 2) (fun e => H 4 e) (fun k => H 3 k) sc nr (k - t) else H 40 k := by
        funext k
        rw [slRow_for]
        split
        · rfl
        · rfl
      rw [hx]
      refine xQr hQ ?_
      unfold sum5
      simp (disch := omega) only [if_pos, iacl, Int.zero_add, Int.sub_self]
    · rw [e] at hQ
      have hz : ∀ s, slS (H 2 0) (H 2 2) (fun e => H 4 e) (fun k => H 3 k) sc (-1) s = 0 := fun s => slS_none pw pn ⟨hs.1, by omega⟩
      simp only [hz] at hQ
      exact hQ)
  have h25'' : xq X d 37 Q 25 [(0, (2, 2)), (1, (0, c)), (2, (2, 40)), (3, (0, t)), (4, (0, 0))] [] (xset H 40 (H 40)) := h25'
  rw [xset_same] at h25''
  exact h25''

theorem U_37_a61 {X : Int × (Int → Int)} {d : Nat} {Q : Int → XH → Prop} (hd : 1 ≤ d) (c t : Int) (H : XH) (h : ((((0 ≤ c ∧ c < H 2 2)) → ((t < 0) → Q 0 H) ∧ (¬ (t < 0) → (xI (t + 5)) ∧ ((t + 5 ≤ 5) → xq X d 37 Q 25 [(0, (2, 2)), (1, (0, c)), (2, (2, 61)), (3, (0, t)), (4, (0, 0))] [] H) ∧ (¬ (t + 5 ≤ 5) → Q 0 H))) ∧ (¬ ((0 ≤ c ∧ c < H 2 2)) → Q 0 H))) : xc X (d + 1) 37 [(2, 2), (0, c), (2, 61), (0, t)] H Q := by
  refine ⟨rfl, ?_⟩
  show xq X d 37 Q 100000 [(0, (2, 2)), (1, (0, c)), (2, (2, 61)), (3, (0, t))] [] H
  refine xq_run [5, 25, 49, 57, 70, 97, 108, 152] 300 ?_
  show xWM (xE X) xMC d 18 [(2, 2), (0, c)] xKZ H _
  refine xc_in (s_18 (by omega) c H  ?_)
  replace h := h
  show xq X d 37 Q 5 [(0, (2, 2)), (1, (0, c)), (2, (2, 61)), (3, (0, t))] [(0, xb (0 ≤ c ∧ c < H 2 2))] H
  refine xq_run [5, 25, 49, 57, 70, 97, 108, 152] 300 ?_
  show ((xb (0 ≤ c ∧ c < H 2 2) = 0) → xfR 0 0 ∧ xKZ = xKZ ∧ Q 0 H) ∧ (¬ (xb (0 ≤ c ∧ c < H 2 2) = 0) → ((t < 0) → xfR 0 0 ∧ xKZ = xKZ ∧ Q 0 H) ∧ (¬ (t < 0) → (xI (t + 5)) ∧ (1 ≤ xTy xKZ 61 ∧ xTy xKZ 61 ≤ 5) ∧ ((t + 5 ≤ 5) → xq X d 37 Q 25 [(0, (2, 2)), (1, (0, c)), (2, (2, 61)), (3, (0, t)), (4, (0, 0))] [] H) ∧ (¬ (t + 5 ≤ 5) → xfR 0 0 ∧ xKZ = xKZ ∧ Q 0 H)))
  refine ⟨fun k_ => ?_, fun k_ => ?_⟩
  · replace h := h.2 (xbe_0.mp k_)
    exact ⟨trivial, rfl, h⟩
  · replace h := h.1 (xbe_1.mp k_)
    refine ⟨fun k_ => ?_, fun k_ => ?_⟩
    · replace h := h.1 k_
      exact ⟨trivial, rfl, h⟩
    · replace h := h.2 k_
      refine ⟨h.1, ?_⟩
      replace h := h.2
      refine ⟨⟨by decide, by decide⟩, ?_⟩
      refine ⟨fun k_ => ?_, fun k_ => ?_⟩
      · replace h := h.1 k_
        exact h
      · replace h := h.2 k_
        exact ⟨trivial, rfl, h⟩
theorem U_37_25_a61 {X : Int × (Int → Int)} {d : Nat} {Q : Int → XH → Prop} (hd : 3 ≤ d) (v1 v3 v4 : Int) (H : XH) (h : ((5 ≤ v4) → (0 ≤ H 2 2 ∧ H 2 2 ≤ 64) ∧ (0 ≤ v1 ∧ v1 < H 2 2) ∧ ((1 ≤ H 2 0 ∧ H 2 0 ≤ 8) ∧ (0 ≤ H 2 2 ∧ H 2 2 ≤ 64) ∧ (0 ≤ srcS (H 2 2) (fun e => H 4 e) (fun e => H 5 e) 64 v1 ∧ srcS (H 2 2) (fun e => H 4 e) (fun e => H 5 e) 64 v1 < 64) ∧ (((¬ nrS (H 2 0) (H 2 2) (fun e => H 4 e) (srcS (H 2 2) (fun e => H 4 e) (fun e => H 5 e) 64 v1) = (-1)) → xq X d 37 Q 70 [(0, (2, 2)), (2, (2, 61)), (3, (0, v3)), (4, (0, srcS (H 2 2) (fun e => H 4 e) (fun e => H 5 e) 64 v1)), (5, (0, nrS (H 2 0) (H 2 2) (fun e => H 4 e) (srcS (H 2 2) (fun e => H 4 e) (fun e => H 5 e) 64 v1))), (6, (0, 0))] [] H) ∧ (¬ (¬ nrS (H 2 0) (H 2 2) (fun e => H 4 e) (srcS (H 2 2) (fun e => H 4 e) (fun e => H 5 e) 64 v1) = (-1)) → Q 0 H)))) ∧ (¬ (5 ≤ v4) → (xI (v3 + v4)) ∧ ((0 : Int) ≤ v3 + v4 ∧ (v3 + v4 : Int) < 5) ∧ (xI (v4 + 1)) ∧ xq X d 37 Q 25 [(0, (2, 2)), (1, (0, v1)), (2, (2, 61)), (3, (0, v3)), (4, (0, v4 + 1))] [] (xup H 61 (v3 + v4) 0))) : xq X d 37 Q 25 [(0, (2, 2)), (1, (0, v1)), (2, (2, 61)), (3, (0, v3)), (4, (0, v4))] [] H := by
  show xq X d 37 Q 25 [(0, (2, 2)), (1, (0, v1)), (2, (2, 61)), (3, (0, v3)), (4, (0, v4))] [] H
  refine xq_run [5, 25, 49, 57, 70, 97, 108, 152] 300 ?_
  show ((5 ≤ v4) → xWM (xE X) xMC d 32 [(2, 2), (0, v1)] xKZ H _) ∧ (¬ (5 ≤ v4) → (xI (v3 + v4)) ∧ ((0 : Int) ≤ v3 + v4 ∧ (v3 + v4 : Int) < 5) ∧ (xI (v4 + 1)) ∧ xq X d 37 Q 25 [(0, (2, 2)), (1, (0, v1)), (2, (2, 61)), (3, (0, v3)), (4, (0, v4 + 1))] [] (xup H 61 (v3 + v4) 0))
  refine ⟨fun k_ => ?_, fun k_ => ?_⟩
  · replace h := h.1 k_
    refine xc_in (s_32 (by omega) v1 H (h.1) (h.2.1) ?_)
    replace h := h.2.2
    show xq X d 37 Q 49 [(0, (2, 2)), (1, (0, v1)), (2, (2, 61)), (3, (0, v3)), (4, (0, v4))] [(0, srcS (H 2 2) (fun e => H 4 e) (fun e => H 5 e) 64 v1)] H
    refine xq_run [5, 25, 49, 57, 70, 97, 108, 152] 300 ?_
    show xWM (xE X) xMC d 35 [(2, 2), (0, srcS (H 2 2) (fun e => H 4 e) (fun e => H 5 e) 64 v1)] xKZ H _
    refine xc_in (s_35 (by omega) (srcS (H 2 2) (fun e => H 4 e) (fun e => H 5 e) 64 v1) H (h.1) (h.2.1) (h.2.2.1) ?_)
    replace h := h.2.2.2
    show xq X d 37 Q 57 [(4, (0, srcS (H 2 2) (fun e => H 4 e) (fun e => H 5 e) 64 v1)), (0, (2, 2)), (1, (0, v1)), (2, (2, 61)), (3, (0, v3))] [(0, nrS (H 2 0) (H 2 2) (fun e => H 4 e) (srcS (H 2 2) (fun e => H 4 e) (fun e => H 5 e) 64 v1))] H
    refine xq_run [5, 25, 49, 57, 70, 97, 108, 152] 300 ?_
    show ((¬ nrS (H 2 0) (H 2 2) (fun e => H 4 e) (srcS (H 2 2) (fun e => H 4 e) (fun e => H 5 e) 64 v1) = (-1)) → xq X d 37 Q 70 [(0, (2, 2)), (2, (2, 61)), (3, (0, v3)), (4, (0, srcS (H 2 2) (fun e => H 4 e) (fun e => H 5 e) 64 v1)), (5, (0, nrS (H 2 0) (H 2 2) (fun e => H 4 e) (srcS (H 2 2) (fun e => H 4 e) (fun e => H 5 e) 64 v1))), (6, (0, 0))] [] H) ∧ (¬ (¬ nrS (H 2 0) (H 2 2) (fun e => H 4 e) (srcS (H 2 2) (fun e => H 4 e) (fun e => H 5 e) 64 v1) = (-1)) → xfR 0 0 ∧ xKZ = xKZ ∧ Q 0 H)
    refine ⟨fun k_ => ?_, fun k_ => ?_⟩
    · replace h := h.1 k_
      exact h
    · replace h := h.2 k_
      exact ⟨trivial, rfl, h⟩
  · replace h := h.2 k_
    refine ⟨h.1, ?_⟩
    replace h := h.2
    refine ⟨h.1, ?_⟩
    replace h := h.2
    refine ⟨h.1, ?_⟩
    replace h := h.2
    exact h
theorem U_37_70_a61 {X : Int × (Int → Int)} {d : Nat} {Q : Int → XH → Prop} (hd : 2 ≤ d) (v3 v4 v5 v6 : Int) (H : XH) (h : ((H 2 2 ≤ v6) → (0 ≤ v3 ∧ v3 + 5 ≤ 5) ∧ ((5 : Int) ≤ 100000) ∧ (∀ s, 0 ≤ s → s < 5 → 0 ≤ H 61 (v3 + s) ∧ H 61 (v3 + s) ≤ 100000) ∧ (Q (sum5 (H 61) v3) H)) ∧ (¬ (H 2 2 ≤ v6) → ((0 : Int) ≤ v6 ∧ (v6 : Int) < 64) ∧ ((H 4 v6 = 0) → (xI (v6 + 1)) ∧ xq X d 37 Q 70 [(0, (2, 2)), (2, (2, 61)), (3, (0, v3)), (4, (0, v4)), (5, (0, v5)), (6, (0, v6 + 1))] [] H) ∧ (¬ (H 4 v6 = 0) → (1 ≤ H 2 0 ∧ H 2 0 ≤ 8) ∧ (0 ≤ v4 ∧ v4 < 64) ∧ (0 ≤ v6 ∧ v6 < 64) ∧ (((btw (H 2 0) v4 v6 = v5) → xq X d 37 Q 108 [(0, (2, 2)), (2, (2, 61)), (3, (0, v3)), (4, (0, v4)), (5, (0, v5)), (6, (0, v6)), (7, (0, 0))] [] H) ∧ (¬ (btw (H 2 0) v4 v6 = v5) → (xI (v6 + 1)) ∧ xq X d 37 Q 70 [(0, (2, 2)), (2, (2, 61)), (3, (0, v3)), (4, (0, v4)), (5, (0, v5)), (6, (0, v6 + 1))] [] H))))) : xq X d 37 Q 70 [(0, (2, 2)), (2, (2, 61)), (3, (0, v3)), (4, (0, v4)), (5, (0, v5)), (6, (0, v6))] [] H := by
  show xq X d 37 Q 70 [(0, (2, 2)), (2, (2, 61)), (3, (0, v3)), (4, (0, v4)), (5, (0, v5)), (6, (0, v6))] [] H
  refine xq_run [5, 25, 49, 57, 70, 97, 108, 152] 300 ?_
  show ((H 2 2 ≤ v6) → xWM (xE X) xMC d 36 [(2, 61), (0, v3)] xKZ H _) ∧ (¬ (H 2 2 ≤ v6) → ((0 : Int) ≤ v6 ∧ (v6 : Int) < 64) ∧ ((H 4 v6 = 0) → (xI (v6 + 1)) ∧ xq X d 37 Q 70 [(0, (2, 2)), (2, (2, 61)), (3, (0, v3)), (4, (0, v4)), (5, (0, v5)), (6, (0, v6 + 1))] [] H) ∧ (¬ (H 4 v6 = 0) → xWM (xE X) xMC d 34 [(2, 2), (0, v4), (0, v6)] xKZ H _))
  refine ⟨fun k_ => ?_, fun k_ => ?_⟩
  · replace h := h.1 k_
    refine xc_in (s_36 (by omega) 61 v3 H 5 rfl rfl (h.1) (h.2.1) (h.2.2.1) ?_)
    replace h := h.2.2.2
    show xq X d 37 Q 152 [(0, (2, 2)), (2, (2, 61)), (3, (0, v3)), (4, (0, v4)), (5, (0, v5)), (6, (0, v6))] [(0, sum5 (H 61) v3)] H
    refine xq_run [5, 25, 49, 57, 70, 97, 108, 152] 300 ?_
    show xfR 0 (sum5 (H 61) v3) ∧ xKZ = xKZ ∧ Q (sum5 (H 61) v3) H
    exact ⟨trivial, rfl, h⟩
  · replace h := h.2 k_
    refine ⟨h.1, ?_⟩
    replace h := h.2
    refine ⟨fun k_ => ?_, fun k_ => ?_⟩
    · replace h := h.1 k_
      refine ⟨h.1, ?_⟩
      replace h := h.2
      exact h
    · replace h := h.2 k_
      refine xc_in (s_34 (by omega) v4 v6 H (h.1) (h.2.1) (h.2.2.1) ?_)
      replace h := h.2.2.2
      show xq X d 37 Q 97 [(0, (2, 2)), (2, (2, 61)), (3, (0, v3)), (4, (0, v4)), (5, (0, v5)), (6, (0, v6))] [(0, btw (H 2 0) v4 v6)] H
      refine xq_run [5, 25, 49, 57, 70, 97, 108, 152] 300 ?_
      show ((btw (H 2 0) v4 v6 = v5) → xq X d 37 Q 108 [(0, (2, 2)), (2, (2, 61)), (3, (0, v3)), (4, (0, v4)), (5, (0, v5)), (6, (0, v6)), (7, (0, 0))] [] H) ∧ (¬ (btw (H 2 0) v4 v6 = v5) → (xI (v6 + 1)) ∧ xq X d 37 Q 70 [(0, (2, 2)), (2, (2, 61)), (3, (0, v3)), (4, (0, v4)), (5, (0, v5)), (6, (0, v6 + 1))] [] H)
      refine ⟨fun k_ => ?_, fun k_ => ?_⟩
      · replace h := h.1 k_
        exact h
      · replace h := h.2 k_
        refine ⟨h.1, ?_⟩
        replace h := h.2
        exact h
theorem U_37_108_a61 {X : Int × (Int → Int)} {d : Nat} {Q : Int → XH → Prop} (hd : 0 ≤ d) (v3 v4 v5 v6 v7 : Int) (H : XH) (h : ((5 ≤ v7) → (xI (v6 + 1)) ∧ xq X d 37 Q 70 [(0, (2, 2)), (2, (2, 61)), (3, (0, v3)), (4, (0, v4)), (5, (0, v5)), (6, (0, v6 + 1))] [] H) ∧ (¬ (5 ≤ v7) → (xI (v3 + v7)) ∧ ((0 : Int) ≤ v3 + v7 ∧ (v3 + v7 : Int) < 5) ∧ (xI (v6 * 5)) ∧ (xI ((v6 * 5) + v7)) ∧ ((0 : Int) ≤ (v6 * 5) + v7 ∧ ((v6 * 5) + v7 : Int) < 320) ∧ (xI ((H 61 (v3 + v7)) + (H 3 ((v6 * 5) + v7)))) ∧ ((0 : Int) ≤ v3 + v7 ∧ (v3 + v7 : Int) < 5) ∧ (xI (v7 + 1)) ∧ xq X d 37 Q 108 [(0, (2, 2)), (2, (2, 61)), (3, (0, v3)), (4, (0, v4)), (5, (0, v5)), (6, (0, v6)), (7, (0, v7 + 1))] [] (xup H 61 (v3 + v7) ((H 61 (v3 + v7)) + (H 3 ((v6 * 5) + v7)))))) : xq X d 37 Q 108 [(0, (2, 2)), (2, (2, 61)), (3, (0, v3)), (4, (0, v4)), (5, (0, v5)), (6, (0, v6)), (7, (0, v7))] [] H := by
  show xq X d 37 Q 108 [(0, (2, 2)), (2, (2, 61)), (3, (0, v3)), (4, (0, v4)), (5, (0, v5)), (6, (0, v6)), (7, (0, v7))] [] H
  refine xq_run [5, 25, 49, 57, 70, 97, 108, 152] 300 ?_
  show ((5 ≤ v7) → (xI (v6 + 1)) ∧ xq X d 37 Q 70 [(0, (2, 2)), (2, (2, 61)), (3, (0, v3)), (4, (0, v4)), (5, (0, v5)), (6, (0, v6 + 1))] [] H) ∧ (¬ (5 ≤ v7) → (xI (v3 + v7)) ∧ ((0 : Int) ≤ v3 + v7 ∧ (v3 + v7 : Int) < 5) ∧ (xI (v6 * 5)) ∧ (xI ((v6 * 5) + v7)) ∧ ((0 : Int) ≤ (v6 * 5) + v7 ∧ ((v6 * 5) + v7 : Int) < 320) ∧ (xI ((H 61 (v3 + v7)) + (H 3 ((v6 * 5) + v7)))) ∧ ((0 : Int) ≤ v3 + v7 ∧ (v3 + v7 : Int) < 5) ∧ (xI (v7 + 1)) ∧ xq X d 37 Q 108 [(0, (2, 2)), (2, (2, 61)), (3, (0, v3)), (4, (0, v4)), (5, (0, v5)), (6, (0, v6)), (7, (0, v7 + 1))] [] (xup H 61 (v3 + v7) ((H 61 (v3 + v7)) + (H 3 ((v6 * 5) + v7)))))
  refine ⟨fun k_ => ?_, fun k_ => ?_⟩
  · replace h := h.1 k_
    refine ⟨h.1, ?_⟩
    replace h := h.2
    exact h
  · replace h := h.2 k_
    refine ⟨h.1, ?_⟩
    replace h := h.2
    refine ⟨h.1, ?_⟩
    replace h := h.2
    refine ⟨h.1, ?_⟩
    replace h := h.2
    refine ⟨h.1, ?_⟩
    replace h := h.2
    refine ⟨h.1, ?_⟩
    replace h := h.2
    refine ⟨h.1, ?_⟩
    replace h := h.2
    refine ⟨h.1, ?_⟩
    replace h := h.2
    refine ⟨h.1, ?_⟩
    replace h := h.2
    exact h

theorem s_37_a61 {X : Int × (Int → Int)} {d : Nat} {Q : Int → XH → Prop} (hd : 4 ≤ d) (c t : Int) (H : XH) (pw : 1 ≤ H 2 0 ∧ H 2 0 ≤ 8) (pn : 0 ≤ H 2 2 ∧ H 2 2 ≤ 64) (pc : 0 ≤ c ∧ c < H 2 2) (pt : 0 ≤ t ∧ t + 5 ≤ 5) (pd : ∀ k, 0 ≤ k → k < 320 → 0 ≤ H 3 k ∧ H 3 k ≤ 9) (hQ : Q (soilT (H 2 0) (H 2 2) (fun e => H 4 e) (fun e => H 5 e) (fun k => H 3 k) c) (xset H 61 (fun k => if t ≤ k ∧ k < t + 5 then soilF (H 2 0) (H 2 2) (fun e => H 4 e) (fun e => H 5 e) (fun k => H 3 k) c (k - t) else H 61 k))) : xc X d 37 [(2, 2), (0, c), (2, 61), (0, t)] H Q := by
  cases d with
  | zero => omega
  | succ d =>
  refine U_37_a61 (by omega) c t H ⟨fun _ => ⟨fun q => absurd q (by omega), fun _ => ⟨by unfold xI; omega, fun _ => ?_, fun q => absurd (by omega) q⟩⟩, fun q => absurd pc q⟩
  unfold soilT soilF at hQ
  have hs := srcS_rng (dg := fun e => H 4 e) (og := fun e => H 5 e) 64 c pc
  generalize hsc : srcS (H 2 2) (fun e => H 4 e) (fun e => H 5 e) 64 c = sc at hQ hs
  generalize hnr : nrS (H 2 0) (H 2 2) (fun e => H 4 e) sc = nr at hQ
  have h70 : ∀ o g, (0 ≤ o ∧ o ≤ H 2 2 ∧ ∀ k, t ≤ k → k < t + 5 → 0 ≤ g k ∧ g k ≤ 9 * o) → Q (sum5 (xfor (slRow t (H 2 0) (H 2 2) (fun e => H 4 e) (fun k => H 3 k) sc nr) o (H 2 2) g) t) (xset H 61 (xfor (slRow t (H 2 0) (H 2 2) (fun e => H 4 e) (fun k => H 3 k) sc nr) o (H 2 2) g)) → xq X d 37 Q 70 [(0, (2, 2)), (2, (2, 61)), (3, (0, t)), (4, (0, sc)), (5, (0, nr)), (6, (0, o))] [] (xset H 61 g) := by
    intro o g hi hq
    refine xlQ (slRow t (H 2 0) (H 2 2) (fun e => H 4 e) (fun k => H 3 k) sc nr) (H 2 2) (fun o g => 0 ≤ o ∧ o ≤ H 2 2 ∧ ∀ k, t ≤ k → k < t + 5 → 0 ≤ g k ∧ g k ≤ 9 * o) (fun o g => xq X d 37 Q 70 [(0, (2, 2)), (2, (2, 61)), (3, (0, t)), (4, (0, sc)), (5, (0, nr)), (6, (0, o))] [] (xset H 61 g)) (fun g => Q (sum5 g t) (xset H 61 g)) ?_ ?_ o g hi hq
    · intro o g hb hi hp
      refine U_37_70_a61 (by omega) t sc nr o (xset H 61 g) ⟨fun _ => ⟨pt, by omega, ?_, ?_⟩, fun q => absurd hb q⟩
      · intro s a b
        rw [xset_at]
        have := hi.2.2 (t + s) (by omega) (by omega)
        omega
      · rw [xset_at]
        exact hp
    · intro o g hb hi
      refine ⟨⟨by omega, by omega, fun k a b => ?_⟩, fun hk => ?_⟩
      · have h1 := hi.2.2 k a b
        have h2 := pd (o * 5 + (k - t)) (by omega) (by omega)
        unfold slRow slF
        rw [if_pos ⟨a, b⟩]
        dsimp only
        split <;> omega
      · refine U_37_70_a61 (by omega) t sc nr o (xset H 61 g) ⟨fun q => absurd hb (Int.not_lt.mpr q), fun _ => ⟨⟨hi.1, by omega⟩, fun e => ⟨by unfold xI; omega, ?_⟩, fun e => ⟨pw, ⟨hs.1, by omega⟩, ⟨hi.1, by omega⟩, fun e2 => ?_, fun e2 => ⟨by unfold xI; omega, ?_⟩⟩⟩⟩
        · have e' : H 4 o = 0 := e
          rw [slRow_no (fun q => q.1 e')] at hk
          exact hk
        · have e' : ¬ H 4 o = 0 := e
          have e2' : btw (H 2 0) sc o = nr := e2
          rw [slRow_yes ⟨e', e2'⟩, ← fup5 g t (fun s v => v + H 3 (o * 5 + s))] at hk
          refine xlQ (fun s g => fup g (t + s) (g (t + s) + H 3 (o * 5 + s))) 5 (fun s g => 0 ≤ s ∧ ∀ k, t + s ≤ k → k < t + 5 → 0 ≤ g k ∧ g k ≤ 600) (fun s g => xq X d 37 Q 108 [(0, (2, 2)), (2, (2, 61)), (3, (0, t)), (4, (0, sc)), (5, (0, nr)), (6, (0, o)), (7, (0, s))] [] (xset H 61 g)) (fun g => xq X d 37 Q 70 [(0, (2, 2)), (2, (2, 61)), (3, (0, t)), (4, (0, sc)), (5, (0, nr)), (6, (0, o + 1))] [] (xset H 61 g)) ?_ ?_ 0 g ⟨Int.le_refl _, fun k a b => ?_⟩ hk
          · intro s g hb2 hi2 hp
            exact U_37_108_a61 (by omega) t sc nr o s (xset H 61 g) ⟨fun _ => ⟨by unfold xI; omega, hp⟩, fun q => absurd hb2 q⟩
          · intro s g hb2 hi2
            refine ⟨⟨by omega, fun k a b => ?_⟩, fun hk => ?_⟩
            · unfold fup
              rw [if_neg (by omega)]
              exact hi2.2 k (by omega) b
            · rw [← xset_up] at hk
              have g1 := hi2.2 (t + s) (by omega) (by omega)
              have g2 := pd (o * 5 + s) (by omega) (by omega)
              refine U_37_108_a61 (by omega) t sc nr o s (xset H 61 g) ⟨fun q => absurd q (by omega), fun _ => ⟨by unfold xI; omega, ⟨by omega, by omega⟩, by unfold xI; omega, by unfold xI; omega, ⟨by omega, by omega⟩, ?_, ⟨by omega, by omega⟩, by unfold xI; omega, ?_⟩⟩
              · show xI (g (t + s) + H 3 (o * 5 + s))
                unfold xI
                omega
              · exact hk
          · have := hi.2.2 k (by omega) b
            omega
        · have e2' : ¬ btw (H 2 0) sc o = nr := e2
          rw [slRow_no (fun q => e2' q.2)] at hk
          exact hk
  have h25 : (fun g => (¬ nr = -1 → xq X d 37 Q 70 [(0, (2, 2)), (2, (2, 61)), (3, (0, t)), (4, (0, sc)), (5, (0, nr)), (6, (0, 0))] [] (xset H 61 g)) ∧ (nr = -1 → Q 0 (xset H 61 g))) (xfor (fun s g => fup g (t + s) 0) 0 5 (H 61)) → (fun s g => xq X d 37 Q 25 [(0, (2, 2)), (1, (0, c)), (2, (2, 61)), (3, (0, t)), (4, (0, s))] [] (xset H 61 g)) 0 (H 61) := by
    intro hp
    refine xlQ (fun s g => fup g (t + s) 0) 5 (fun s _ => 0 ≤ s) (fun s g => xq X d 37 Q 25 [(0, (2, 2)), (1, (0, c)), (2, (2, 61)), (3, (0, t)), (4, (0, s))] [] (xset H 61 g)) (fun g => (¬ nr = -1 → xq X d 37 Q 70 [(0, (2, 2)), (2, (2, 61)), (3, (0, t)), (4, (0, sc)), (5, (0, nr)), (6, (0, 0))] [] (xset H 61 g)) ∧ (nr = -1 → Q 0 (xset H 61 g))) ?_ ?_ 0 (H 61) (Int.le_refl _) hp
    · intro s g hb hi hp
      refine U_37_25_a61 (by omega) c t s (xset H 61 g) ⟨fun _ => ⟨pn, pc, pw, pn, ?_, fun e => ?_, fun e => ?_⟩, fun q => absurd hb q⟩
      · show 0 ≤ srcS (H 2 2) (fun e => H 4 e) (fun e => H 5 e) 64 c ∧ srcS (H 2 2) (fun e => H 4 e) (fun e => H 5 e) 64 c < 64
        rw [hsc]
        omega
      · have e' : ¬ nrS (H 2 0) (H 2 2) (fun e => H 4 e) (srcS (H 2 2) (fun e => H 4 e) (fun e => H 5 e) 64 c) = -1 := e
        have hp := hp.1 (by rw [← hnr, ← hsc]; exact e')
        rw [← hnr, ← hsc] at hp
        exact hp
      · have e' : ¬ ¬ nrS (H 2 0) (H 2 2) (fun e => H 4 e) (srcS (H 2 2) (fun e => H 4 e) (fun e => H 5 e) 64 c) = -1 := e
        exact hp.2 (by rw [← hnr, ← hsc]; exact Classical.not_not.mp e')
    · intro s g hb hi
      refine ⟨by omega, fun hk => ?_⟩
      rw [← xset_up] at hk
      exact U_37_25_a61 (by omega) c t s (xset H 61 g) ⟨fun q => absurd q (by omega), fun _ => ⟨by unfold xI; omega, ⟨by omega, by omega⟩, by unfold xI; omega, hk⟩⟩
  have h25' := h25 (by
    rw [fup5 (H 61) t (fun _ _ => 0)]
    refine ⟨fun e => h70 0 _ ⟨Int.le_refl _, pn.1, fun k a b => ?_⟩ ?_, fun e => ?_⟩
    · rw [if_pos ⟨a, b⟩]
      omega
    · have hx : xfor (slRow t (H 2 0) (H 2 2) (fun e => H 4 e) (fun k => H 3 k) sc nr) 0 (H 2 2) (fun k => if t ≤ k ∧ k < t + 5 then 0 else H 61 k) = fun k => if t ≤ k ∧ k < t + 5 then slS (H 2 0) (H 2 2) (fun e => H 4 e) (fun k => H 3 k) sc nr (k - t) else H 61 k := by
        funext k
        rw [slRow_for]
        split
        · rfl
        · rfl
      rw [hx]
      refine xQr hQ ?_
      unfold sum5
      simp (disch := omega) only [if_pos, iacl, Int.zero_add, Int.sub_self]
    · rw [e] at hQ
      have hz : ∀ s, slS (H 2 0) (H 2 2) (fun e => H 4 e) (fun k => H 3 k) sc (-1) s = 0 := fun s => slS_none pw pn ⟨hs.1, by omega⟩
      simp only [hz] at hQ
      exact hQ)
  have h25'' : xq X d 37 Q 25 [(0, (2, 2)), (1, (0, c)), (2, (2, 61)), (3, (0, t)), (4, (0, 0))] [] (xset H 61 (H 61)) := h25'
  rw [xset_same] at h25''
  exact h25''

theorem U_43 {X : Int × (Int → Int)} {d : Nat} {Q : Int → XH → Prop} (hd : 0 ≤ d) (c : Int) (H : XH) (h : xq X d 43 Q 2 [(0, (2, 67)), (2, (0, c))] [] H) : xc X (d + 1) 43 [(2, 67), (0, c)] H Q := by
  refine ⟨rfl, ?_⟩
  show xq X d 43 Q 100000 [(0, (2, 67)), (1, (0, c))] [] H
  refine xq_run [2, 46, 55, 72, 111] 300 ?_
  show xq X d 43 Q 2 [(0, (2, 67)), (2, (0, c))] [] H
  exact h
theorem U_43_2 {X : Int × (Int → Int)} {d : Nat} {Q : Int → XH → Prop} (hd : 3 ≤ d) (v2 : Int) (H : XH) (h : (xI (160 + v2)) ∧ ((0 : Int) ≤ 160 + v2 ∧ (160 + v2 : Int) < 1180) ∧ ((¬ H 68 (160 + v2) = 0) → (1 ≤ H 67 0 ∧ H 67 0 ≤ 8) ∧ (0 ≤ H 67 1 ∧ H 67 1 ≤ 64) ∧ (∀ e, 0 ≤ e → e < 64 → H 68 (160 + e) = 0 ∨ H 68 (160 + e) = 1) ∧ (0 ≤ v2 ∧ v2 < 64) ∧ (xq X d 43 Q 55 [(0, (2, 67)), (2, (0, v2)), (3, (0, nrS (H 67 0) (H 67 1) (fun e => H 68 (160 + e)) v2)), (4, (0, 0))] [] (xup H 67 14 0))) ∧ (¬ (¬ H 68 (160 + v2) = 0) → (xI (90 + v2)) ∧ ((0 : Int) ≤ 90 + v2 ∧ (90 + v2 : Int) < 1180) ∧ ((H 68 (90 + v2) = (-1)) → (1 ≤ H 67 0 ∧ H 67 0 ≤ 8) ∧ (0 ≤ H 67 1 ∧ H 67 1 ≤ 64) ∧ (∀ e, 0 ≤ e → e < 64 → H 68 (160 + e) = 0 ∨ H 68 (160 + e) = 1) ∧ (0 ≤ v2 ∧ v2 < 64) ∧ (xq X d 43 Q 55 [(0, (2, 67)), (2, (0, v2)), (3, (0, nrS (H 67 0) (H 67 1) (fun e => H 68 (160 + e)) v2)), (4, (0, 0))] [] (xup H 67 14 0))) ∧ (¬ (H 68 (90 + v2) = (-1)) → (xI (90 + v2)) ∧ ((0 : Int) ≤ 90 + v2 ∧ (90 + v2 : Int) < 1180) ∧ xq X d 43 Q 2 [(0, (2, 67)), (2, (0, H 68 (90 + v2)))] [] H))) : xq X d 43 Q 2 [(0, (2, 67)), (2, (0, v2))] [] H := by
  show xq X d 43 Q 2 [(0, (2, 67)), (2, (0, v2))] [] H
  refine xq_run [2, 46, 55, 72, 111] 300 ?_
  show (xI (160 + v2)) ∧ ((0 : Int) ≤ 160 + v2 ∧ (160 + v2 : Int) < 1180) ∧ ((¬ H 68 (160 + v2) = 0) → xWM (xE X) xMC d 42 [(2, 67), (0, v2)] xKZ H _) ∧ (¬ (¬ H 68 (160 + v2) = 0) → (xI (90 + v2)) ∧ ((0 : Int) ≤ 90 + v2 ∧ (90 + v2 : Int) < 1180) ∧ ((H 68 (90 + v2) = (-1)) → xWM (xE X) xMC d 42 [(2, 67), (0, v2)] xKZ H _) ∧ (¬ (H 68 (90 + v2) = (-1)) → (xI (90 + v2)) ∧ ((0 : Int) ≤ 90 + v2 ∧ (90 + v2 : Int) < 1180) ∧ xq X d 43 Q 2 [(0, (2, 67)), (2, (0, H 68 (90 + v2)))] [] H))
  refine ⟨h.1, ?_⟩
  replace h := h.2
  refine ⟨h.1, ?_⟩
  replace h := h.2
  refine ⟨fun k_ => ?_, fun k_ => ?_⟩
  · replace h := h.1 k_
    refine xc_in (s_42 (by omega) v2 H (h.1) (h.2.1) (h.2.2.1) (h.2.2.2.1) ?_)
    replace h := h.2.2.2.2
    show xq X d 43 Q 46 [(0, (2, 67)), (2, (0, v2))] [(0, nrS (H 67 0) (H 67 1) (fun e => H 68 (160 + e)) v2)] H
    refine xq_run [2, 46, 55, 72, 111] 300 ?_
    show xq X d 43 Q 55 [(0, (2, 67)), (2, (0, v2)), (3, (0, nrS (H 67 0) (H 67 1) (fun e => H 68 (160 + e)) v2)), (4, (0, 0))] [] (xup H 67 14 0)
    exact h
  · replace h := h.2 k_
    refine ⟨h.1, ?_⟩
    replace h := h.2
    refine ⟨h.1, ?_⟩
    replace h := h.2
    refine ⟨fun k_ => ?_, fun k_ => ?_⟩
    · replace h := h.1 k_
      refine xc_in (s_42 (by omega) v2 H (h.1) (h.2.1) (h.2.2.1) (h.2.2.2.1) ?_)
      replace h := h.2.2.2.2
      show xq X d 43 Q 46 [(0, (2, 67)), (2, (0, v2))] [(0, nrS (H 67 0) (H 67 1) (fun e => H 68 (160 + e)) v2)] H
      refine xq_run [2, 46, 55, 72, 111] 300 ?_
      show xq X d 43 Q 55 [(0, (2, 67)), (2, (0, v2)), (3, (0, nrS (H 67 0) (H 67 1) (fun e => H 68 (160 + e)) v2)), (4, (0, 0))] [] (xup H 67 14 0)
      exact h
    · replace h := h.2 k_
      refine ⟨h.1, ?_⟩
      replace h := h.2
      refine ⟨h.1, ?_⟩
      replace h := h.2
      exact h
theorem U_43_55 {X : Int × (Int → Int)} {d : Nat} {Q : Int → XH → Prop} (hd : 0 ≤ d) (v2 v3 v4 : Int) (H : XH) (h : ((5 ≤ v4) → ((v3 = (-1)) → Q 0 H) ∧ (¬ (v3 = (-1)) → Q 1 H)) ∧ (¬ (5 ≤ v4) → ((0 : Int) ≤ v4 ∧ (v4 : Int) < 5) ∧ xq X d 43 Q 72 [(0, (2, 67)), (2, (0, v2)), (3, (0, v3)), (4, (0, v4)), (5, (0, 0))] [] (xup H 76 v4 0))) : xq X d 43 Q 55 [(0, (2, 67)), (2, (0, v2)), (3, (0, v3)), (4, (0, v4))] [] H := by
  show xq X d 43 Q 55 [(0, (2, 67)), (2, (0, v2)), (3, (0, v3)), (4, (0, v4))] [] H
  refine xq_run [2, 46, 55, 72, 111] 300 ?_
  show ((5 ≤ v4) → ((v3 = (-1)) → xfR 3 0 ∧ xKZ = xKZ ∧ Q 0 H) ∧ (¬ (v3 = (-1)) → xfR 3 1 ∧ xKZ = xKZ ∧ Q 1 H)) ∧ (¬ (5 ≤ v4) → ((0 : Int) ≤ v4 ∧ (v4 : Int) < 5) ∧ xq X d 43 Q 72 [(0, (2, 67)), (2, (0, v2)), (3, (0, v3)), (4, (0, v4)), (5, (0, 0))] [] (xup H 76 v4 0))
  refine ⟨fun k_ => ?_, fun k_ => ?_⟩
  · replace h := h.1 k_
    refine ⟨fun k_ => ?_, fun k_ => ?_⟩
    · replace h := h.1 k_
      exact ⟨xfR3_0, rfl, h⟩
    · replace h := h.2 k_
      exact ⟨xfR3_1, rfl, h⟩
  · replace h := h.2 k_
    refine ⟨h.1, ?_⟩
    replace h := h.2
    exact h
theorem U_43_72 {X : Int × (Int → Int)} {d : Nat} {Q : Int → XH → Prop} (hd : 2 ≤ d) (v2 v3 v4 v5 : Int) (H : XH) (h : ((H 67 1 ≤ v5) → ((0 : Int) ≤ v4 ∧ (v4 : Int) < 5) ∧ (xI ((H 67 14) + (H 76 v4))) ∧ (xI (v4 + 1)) ∧ xq X d 43 Q 55 [(0, (2, 67)), (2, (0, v2)), (3, (0, v3)), (4, (0, v4 + 1))] [] (xup H 67 14 ((H 67 14) + (H 76 v4)))) ∧ (¬ (H 67 1 ≤ v5) → ((0 : Int) ≤ v4 ∧ (v4 : Int) < 5) ∧ (xI (160 + v5)) ∧ ((0 : Int) ≤ 160 + v5 ∧ (160 + v5 : Int) < 1180) ∧ ((¬ H 68 (160 + v5) = 1) → (xI ((H 76 v4) + 0)) ∧ ((0 : Int) ≤ v4 ∧ (v4 : Int) < 5) ∧ (xI (v5 + 1)) ∧ xq X d 43 Q 72 [(0, (2, 67)), (2, (0, v2)), (3, (0, v3)), (4, (0, v4)), (5, (0, v5 + 1))] [] (xup H 76 v4 ((H 76 v4) + 0))) ∧ (¬ (¬ H 68 (160 + v5) = 1) → (1 ≤ H 67 0 ∧ H 67 0 ≤ 8) ∧ (0 ≤ v5 ∧ v5 < 64) ∧ (0 ≤ v2 ∧ v2 < 64) ∧ (((¬ btw (H 67 0) v5 v2 = v3) → (xI ((H 76 v4) + 0)) ∧ ((0 : Int) ≤ v4 ∧ (v4 : Int) < 5) ∧ (xI (v5 + 1)) ∧ xq X d 43 Q 72 [(0, (2, 67)), (2, (0, v2)), (3, (0, v3)), (4, (0, v4)), (5, (0, v5 + 1))] [] (xup H 76 v4 ((H 76 v4) + 0))) ∧ (¬ (¬ btw (H 67 0) v5 v2 = v3) → (xI (5 * v5)) ∧ (xI (230 + (5 * v5))) ∧ (xI ((230 + (5 * v5)) + v4)) ∧ ((0 : Int) ≤ (230 + (5 * v5)) + v4 ∧ ((230 + (5 * v5)) + v4 : Int) < 1180) ∧ (xI ((H 76 v4) + (H 68 ((230 + (5 * v5)) + v4)))) ∧ ((0 : Int) ≤ v4 ∧ (v4 : Int) < 5) ∧ (xI (v5 + 1)) ∧ xq X d 43 Q 72 [(0, (2, 67)), (2, (0, v2)), (3, (0, v3)), (4, (0, v4)), (5, (0, v5 + 1))] [] (xup H 76 v4 ((H 76 v4) + (H 68 ((230 + (5 * v5)) + v4))))))))) : xq X d 43 Q 72 [(0, (2, 67)), (2, (0, v2)), (3, (0, v3)), (4, (0, v4)), (5, (0, v5))] [] H := by
  show xq X d 43 Q 72 [(0, (2, 67)), (2, (0, v2)), (3, (0, v3)), (4, (0, v4)), (5, (0, v5))] [] H
  refine xq_run [2, 46, 55, 72, 111] 300 ?_
  show ((H 67 1 ≤ v5) → ((0 : Int) ≤ v4 ∧ (v4 : Int) < 5) ∧ (xI ((H 67 14) + (H 76 v4))) ∧ (xI (v4 + 1)) ∧ xq X d 43 Q 55 [(0, (2, 67)), (2, (0, v2)), (3, (0, v3)), (4, (0, v4 + 1))] [] (xup H 67 14 ((H 67 14) + (H 76 v4)))) ∧ (¬ (H 67 1 ≤ v5) → ((0 : Int) ≤ v4 ∧ (v4 : Int) < 5) ∧ (xI (160 + v5)) ∧ ((0 : Int) ≤ 160 + v5 ∧ (160 + v5 : Int) < 1180) ∧ ((¬ H 68 (160 + v5) = 1) → (xI ((H 76 v4) + 0)) ∧ ((0 : Int) ≤ v4 ∧ (v4 : Int) < 5) ∧ (xI (v5 + 1)) ∧ xq X d 43 Q 72 [(0, (2, 67)), (2, (0, v2)), (3, (0, v3)), (4, (0, v4)), (5, (0, v5 + 1))] [] (xup H 76 v4 ((H 76 v4) + 0))) ∧ (¬ (¬ H 68 (160 + v5) = 1) → xWM (xE X) xMC d 41 [(2, 67), (0, v5), (0, v2)] xKZ H _))
  refine ⟨fun k_ => ?_, fun k_ => ?_⟩
  · replace h := h.1 k_
    refine ⟨h.1, ?_⟩
    replace h := h.2
    refine ⟨h.1, ?_⟩
    replace h := h.2
    refine ⟨h.1, ?_⟩
    replace h := h.2
    exact h
  · replace h := h.2 k_
    refine ⟨h.1, ?_⟩
    replace h := h.2
    refine ⟨h.1, ?_⟩
    replace h := h.2
    refine ⟨h.1, ?_⟩
    replace h := h.2
    refine ⟨fun k_ => ?_, fun k_ => ?_⟩
    · replace h := h.1 k_
      refine ⟨h.1, ?_⟩
      replace h := h.2
      refine ⟨h.1, ?_⟩
      replace h := h.2
      refine ⟨h.1, ?_⟩
      replace h := h.2
      exact h
    · replace h := h.2 k_
      refine xc_in (s_41 (by omega) v5 v2 H (h.1) (h.2.1) (h.2.2.1) ?_)
      replace h := h.2.2.2
      show xq X d 43 Q 111 [(0, (2, 67)), (2, (0, v2)), (3, (0, v3)), (4, (0, v4)), (5, (0, v5))] [(0, btw (H 67 0) v5 v2), (0, H 76 v4), (0, v4), (2, 76)] H
      refine xq_run [2, 46, 55, 72, 111] 300 ?_
      show ((¬ btw (H 67 0) v5 v2 = v3) → (xI ((H 76 v4) + 0)) ∧ ((0 : Int) ≤ v4 ∧ (v4 : Int) < 5) ∧ (xI (v5 + 1)) ∧ xq X d 43 Q 72 [(0, (2, 67)), (2, (0, v2)), (3, (0, v3)), (4, (0, v4)), (5, (0, v5 + 1))] [] (xup H 76 v4 ((H 76 v4) + 0))) ∧ (¬ (¬ btw (H 67 0) v5 v2 = v3) → (xI (5 * v5)) ∧ (xI (230 + (5 * v5))) ∧ (xI ((230 + (5 * v5)) + v4)) ∧ ((0 : Int) ≤ (230 + (5 * v5)) + v4 ∧ ((230 + (5 * v5)) + v4 : Int) < 1180) ∧ (xI ((H 76 v4) + (H 68 ((230 + (5 * v5)) + v4)))) ∧ ((0 : Int) ≤ v4 ∧ (v4 : Int) < 5) ∧ (xI (v5 + 1)) ∧ xq X d 43 Q 72 [(0, (2, 67)), (2, (0, v2)), (3, (0, v3)), (4, (0, v4)), (5, (0, v5 + 1))] [] (xup H 76 v4 ((H 76 v4) + (H 68 ((230 + (5 * v5)) + v4)))))
      refine ⟨fun k_ => ?_, fun k_ => ?_⟩
      · replace h := h.1 k_
        refine ⟨h.1, ?_⟩
        replace h := h.2
        refine ⟨h.1, ?_⟩
        replace h := h.2
        refine ⟨h.1, ?_⟩
        replace h := h.2
        exact h
      · replace h := h.2 k_
        refine ⟨h.1, ?_⟩
        replace h := h.2
        refine ⟨h.1, ?_⟩
        replace h := h.2
        refine ⟨h.1, ?_⟩
        replace h := h.2
        refine ⟨h.1, ?_⟩
        replace h := h.2
        refine ⟨h.1, ?_⟩
        replace h := h.2
        refine ⟨h.1, ?_⟩
        replace h := h.2
        refine ⟨h.1, ?_⟩
        replace h := h.2
        exact h

theorem fup_fup (g : Int → Int) (i x y : Int) : fup (fup g i x) i y = fup g i y := by
  funext k
  unfold fup
  split <;> rfl
theorem fup_self (g : Int → Int) (i x : Int) : fup g i x i = x := if_pos rfl
theorem xset_upo {H : XH} {a : Int} {g : Int → Int} {o i x : Int} (h : ¬ o = a) : xup (xset H a g) o i x = xset (xup H o i x) a g := by
  funext o' k
  unfold xup xset
  by_cases h1 : o' = a
  · subst h1
    rw [if_neg (fun q => h q.1.symm), if_pos rfl, if_pos rfl]
  · rw [if_neg h1, if_neg h1]
theorem xup_xup (H : XH) (o i x y : Int) : xup (xup H o i x) o i y = xup H o i y := by
  funext o' k
  unfold xup
  split <;> rfl
/-- the model's soil: where the way of what was carried comes to an end -/
theorem s_43 {X : Int × (Int → Int)} {d : Nat} {Q : Int → XH → Prop} (hd : 4 ≤ d) (c : Int) (H : XH) (pw : 1 ≤ H 67 0 ∧ H 67 0 ≤ 8) (pn : 0 ≤ H 67 1 ∧ H 67 1 ≤ 64) (pg : ∀ e, 0 ≤ e → e < 64 → H 68 (160 + e) = 0 ∨ H 68 (160 + e) = 1) (po : ∀ e, 0 ≤ e → e < 64 → H 68 (90 + e) = -1 ∨ (0 ≤ H 68 (90 + e) ∧ H 68 (90 + e) < H 67 1)) (pd : ∀ k, 0 ≤ k → k < 320 → 0 ≤ H 68 (230 + k) ∧ H 68 (230 + k) ≤ 9) (pc : 0 ≤ c ∧ c < H 67 1) (pe : srcE (fun e => H 68 (160 + e)) (fun e => H 68 (90 + e)) 64 c)
    (hQ : Q (xb (¬ nrS (H 67 0) (H 67 1) (fun e => H 68 (160 + e)) (srcS (H 67 1) (fun e => H 68 (160 + e)) (fun e => H 68 (90 + e)) 64 c) = -1)) (xset (xup H 67 14 (soilT (H 67 0) (H 67 1) (fun e => H 68 (160 + e)) (fun e => H 68 (90 + e)) (fun k => H 68 (230 + k)) c)) 76 (fun k => if 0 ≤ k ∧ k < 5 then soilF (H 67 0) (H 67 1) (fun e => H 68 (160 + e)) (fun e => H 68 (90 + e)) (fun k => H 68 (230 + k)) c k else H 76 k))) : xc X d 43 [(2, 67), (0, c)] H Q := by
  cases d with
  | zero => omega
  | succ d =>
  refine U_43 (by omega) c H ?_
  unfold soilT soilF at hQ
  have hs := srcS_rng (dg := fun e => H 68 (160 + e)) (og := fun e => H 68 (90 + e)) 64 c pc
  -- the way of what was carried
  have hway : ∀ (k : Nat) (c : Int), srcE (fun e => H 68 (160 + e)) (fun e => H 68 (90 + e)) k c → 0 ≤ c ∧ c < H 67 1 → (xq X d 43 Q 55 [(0, (2, 67)), (2, (0, srcS (H 67 1) (fun e => H 68 (160 + e)) (fun e => H 68 (90 + e)) k c)), (3, (0, nrS (H 67 0) (H 67 1) (fun e => H 68 (160 + e)) (srcS (H 67 1) (fun e => H 68 (160 + e)) (fun e => H 68 (90 + e)) k c))), (4, (0, 0))] [] (xup H 67 14 0)) → xq X d 43 Q 2 [(0, (2, 67)), (2, (0, c))] [] H := by
    intro k
    induction k with
    | zero =>
      intro c he hc hk
      unfold srcS at hk
      unfold srcE at he
      refine U_43_2 (by omega) c H ⟨by unfold xI; omega, ⟨by omega, by omega⟩, fun q => ⟨pw, pn, pg, ⟨hc.1, by omega⟩, hk⟩, fun q => ⟨by unfold xI; omega, ⟨by omega, by omega⟩, fun q2 => ⟨pw, pn, pg, ⟨hc.1, by omega⟩, hk⟩, fun q2 => ?_⟩⟩
      exact absurd he (fun x => x.elim (fun y => y (Classical.not_not.mp q)) q2)
    | succ k ih =>
      intro c he hc hk
      have ho := po c hc.1 (by omega)
      refine U_43_2 (by omega) c H ⟨by unfold xI; omega, ⟨by omega, by omega⟩, fun q => ⟨pw, pn, pg, ⟨hc.1, by omega⟩, ?_⟩, fun q => ⟨by unfold xI; omega, ⟨by omega, by omega⟩, fun q2 => ⟨pw, pn, pg, ⟨hc.1, by omega⟩, ?_⟩, fun q2 => ⟨by unfold xI; omega, ⟨by omega, by omega⟩, ?_⟩⟩⟩
      · unfold srcS at hk
        rw [if_neg q] at hk
        exact hk
      · unfold srcS at hk
        rw [if_pos (Classical.not_not.mp q), if_neg (by omega)] at hk
        exact hk
      · unfold srcS at hk
        unfold srcE at he
        rw [if_pos (Classical.not_not.mp q), if_pos (by omega)] at hk
        refine ih _ ?_ (by omega) hk
        exact he.elim (fun x => absurd x (fun x => x.elim (fun y => y (Classical.not_not.mp q)) q2)) id
  refine hway 64 c pe pc ?_
  generalize srcS (H 67 1) (fun e => H 68 (160 + e)) (fun e => H 68 (90 + e)) 64 c = sc at hQ hs ⊢
  generalize nrS (H 67 0) (H 67 1) (fun e => H 68 (160 + e)) sc = nr at hQ ⊢
  -- one sort
  have hone : ∀ s acc g, 0 ≤ s → s < 5 → 0 ≤ acc → acc ≤ 600 * s → xq X d 43 Q 55 [(0, (2, 67)), (2, (0, sc)), (3, (0, nr)), (4, (0, s + 1))] [] (xset (xup H 67 14 (acc + slS (H 67 0) (H 67 1) (fun e => H 68 (160 + e)) (fun k => H 68 (230 + k)) sc nr s)) 76 (fup g s (slS (H 67 0) (H 67 1) (fun e => H 68 (160 + e)) (fun k => H 68 (230 + k)) sc nr s))) → xq X d 43 Q 55 [(0, (2, 67)), (2, (0, sc)), (3, (0, nr)), (4, (0, s))] [] (xset (xup H 67 14 acc) 76 g) := by
    intro s acc g h0 h5 ha0 ha hk
    refine U_43_55 (by omega) sc nr s (xset (xup H 67 14 acc) 76 g) ⟨fun q => absurd q (by omega), fun _ => ⟨⟨h0, h5⟩, ?_⟩⟩
    rw [xset_up]
    refine xlQ (slF (H 67 0) (fun e => H 68 (160 + e)) (fun k => H 68 (230 + k)) sc nr s) (H 67 1) (fun o v => 0 ≤ o ∧ o ≤ H 67 1 ∧ 0 ≤ v ∧ v ≤ 9 * o) (fun o v => xq X d 43 Q 72 [(0, (2, 67)), (2, (0, sc)), (3, (0, nr)), (4, (0, s)), (5, (0, o))] [] (xset (xup H 67 14 acc) 76 (fup g s v))) (fun v => 0 ≤ v ∧ v ≤ 600 → xq X d 43 Q 55 [(0, (2, 67)), (2, (0, sc)), (3, (0, nr)), (4, (0, s + 1))] [] (xset (xup H 67 14 (acc + v)) 76 (fup g s v))) ?_ ?_ 0 0 ⟨Int.le_refl _, pn.1, by omega, by omega⟩ (fun _ => hk)
    · intro o v hb hi hp
      have hp := hp ⟨hi.2.2.1, by omega⟩
      have e1 : xset (xup H 67 14 acc) 76 (fup g s v) 67 14 = acc := xup_self H 67 14 acc
      have e2 : xset (xup H 67 14 acc) 76 (fup g s v) 76 s = v := by rw [xset_at]; exact fup_self g s v
      refine U_43_72 (by omega) sc nr s o (xset (xup H 67 14 acc) 76 (fup g s v)) ⟨fun _ => ⟨⟨h0, h5⟩, ?_, by unfold xI; omega, ?_⟩, fun q => absurd hb q⟩
      · rw [e1, e2]
        unfold xI
        omega
      · rw [e1, e2, xset_upo (by decide), xup_xup]
        exact hp
    · intro o v hb hi
      have e2 : xset (xup H 67 14 acc) 76 (fup g s v) 76 s = v := by rw [xset_at]; exact fup_self g s v
      have e3 : ∀ x, xup (xset (xup H 67 14 acc) 76 (fup g s v)) 76 s x = xset (xup H 67 14 acc) 76 (fup g s x) := fun x => by rw [xset_up, fup_fup]
      have hd' := pd (o * 5 + s) (by omega) (by omega)
      have hix : (230 + 5 * o) + s = 230 + (o * 5 + s) := by omega
      have hgo := pg o hi.1 (by omega)
      have hbc := btw_comm (H 67 0) sc o
      refine ⟨⟨by omega, by omega, ?_⟩, fun hk => ?_⟩
      · unfold slF
        dsimp only
        split <;> omega
      · refine U_43_72 (by omega) sc nr s o (xset (xup H 67 14 acc) 76 (fup g s v)) ⟨fun q => absurd hb (Int.not_lt.mpr q), fun _ => ⟨⟨h0, h5⟩, by unfold xI; omega, ⟨by omega, by omega⟩, fun q => ⟨?_, ⟨h0, h5⟩, by unfold xI; omega, ?_⟩, fun q => ⟨pw, ⟨hi.1, by omega⟩, ⟨hs.1, by omega⟩, fun q2 => ⟨?_, ⟨h0, h5⟩, by unfold xI; omega, ?_⟩, fun q2 => ⟨by unfold xI; omega, by unfold xI; omega, by unfold xI; omega, ⟨by omega, by omega⟩, ?_, ⟨h0, h5⟩, by unfold xI; omega, ?_⟩⟩⟩⟩
        · rw [e2]
          unfold xI
          omega
        · have q' : ¬ H 68 (160 + o) = 1 := q
          unfold slF at hk
          rw [if_neg (by dsimp only; omega)] at hk
          rw [e2, e3, Int.add_zero]
          exact hk
        · rw [e2]
          unfold xI
          omega
        · have q' : ¬ btw (H 67 0) o sc = nr := q2
          unfold slF at hk
          rw [if_neg (by dsimp only; omega)] at hk
          rw [e2, e3, Int.add_zero]
          exact hk
        · rw [e2, hix]
          show xI (v + H 68 (230 + (o * 5 + s)))
          unfold xI
          omega
        · have q' : ¬ ¬ H 68 (160 + o) = 1 := q
          have q2' : ¬ ¬ btw (H 67 0) o sc = nr := q2
          unfold slF at hk
          rw [if_pos (by dsimp only; omega)] at hk
          rw [e2, e3, hix]
          exact hk
  have hsl : ∀ s, 0 ≤ s → s < 5 → 0 ≤ slS (H 67 0) (H 67 1) (fun e => H 68 (160 + e)) (fun k => H 68 (230 + k)) sc nr s ∧ slS (H 67 0) (H 67 1) (fun e => H 68 (160 + e)) (fun k => H 68 (230 + k)) sc nr s ≤ 600 := by
    intro s h0 h5
    have h := xfor_inv (f := slF (H 67 0) (fun e => H 68 (160 + e)) (fun k => H 68 (230 + k)) sc nr s) (b := H 67 1) (R := fun o v => 0 ≤ o ∧ 0 ≤ v ∧ v ≤ 9 * o) (fun o v hb hr => ?_) 0 0 pn.1 ⟨Int.le_refl _, by omega, by omega⟩
    · unfold slS
      omega
    · have hd' := pd (o * 5 + s) (by omega) (by omega)
      refine ⟨by omega, ?_⟩
      unfold slF
      dsimp only
      split <;> omega
  have s0 := hsl 0 (by omega) (by omega)
  have s1 := hsl 1 (by omega) (by omega)
  have s2 := hsl 2 (by omega) (by omega)
  have s3 := hsl 3 (by omega) (by omega)
  have s4 := hsl 4 (by omega) (by omega)
  rw [show xup H 67 14 0 = xset (xup H 67 14 0) 76 (H 76) from (xset_same (xup H 67 14 0) 76).symm]
  refine hone 0 0 _ (by omega) (by omega) (by omega) (by omega) (hone 1 _ _ (by omega) (by omega) (by omega) (by omega) (hone 2 _ _ (by omega) (by omega) (by omega) (by omega) (hone 3 _ _ (by omega) (by omega) (by omega) (by omega) (hone 4 _ _ (by omega) (by omega) (by omega) (by omega) ?_))))
  refine U_43_55 (by omega) sc nr (4 + 1) _ ⟨fun _ => ⟨fun q => ?_, fun q => ?_⟩, fun q => absurd (by omega) q⟩
  all_goals
    refine xQrh hQ ?_ ?_
    · simp [xb, q]
    · unfold sum5
      congr 1
      · congr 1
        simp
      · funext k
        by_cases h : 0 ≤ k ∧ k < 5
        · rw [if_pos h]
          have h5 : k = 0 ∨ k = 1 ∨ k = 2 ∨ k = 3 ∨ k = 4 := by omega
          rcases h5 with e | e | e | e | e <;> subst e <;> simp (disch := omega) only [fup, if_pos, if_neg, if_true]
        · rw [if_neg h]
          simp (disch := omega) only [fup, if_neg]
