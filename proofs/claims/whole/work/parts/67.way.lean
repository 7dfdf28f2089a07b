/-! THE PURE LAYER 37: the best way, the model -/
def saT (x : Int) : Int := if x ≤ 1000000 then x else 1000000
/-- sums that are told up to a million -/
def stR (t v : Int → Int) : Nat → Int
  | 0 => 0
  | j + 1 => if t j = -1 then stR t v j else saT (stR t v j + v j)
noncomputable def yW (w n : Int) (g : Int → Int) : Nat → Int → Int
  | 0, _ => 1
  | k + 1, f => stR (yT w n g k f) (yW w n g k) n.toNat
theorem stR_rng {t v : Int → Int} : ∀ j : Nat, (∀ e : Int, 0 ≤ e → e < j → 0 ≤ v e) → 0 ≤ stR t v j ∧ stR t v j ≤ 1000000
  | 0, _ => ⟨Int.le_refl _, by unfold stR; decide⟩
  | j + 1, h => by
    have ih := stR_rng (t := t) j (fun e a b => h e a (by omega))
    have hj := h j (by omega) (by omega)
    unfold stR saT
    split
    · exact ih
    · split <;> omega
theorem yW_rng (w n : Int) (g : Int → Int) : ∀ (k : Nat) (f : Int), 0 ≤ yW w n g k f ∧ yW w n g k f ≤ 1000000
  | 0, _ => ⟨by unfold yW; decide, by unfold yW; decide⟩
  | k + 1, f => stR_rng n.toNat (fun e _ _ => (yW_rng w n g k e).1)
theorem yT_no {w n : Int} {g : Int → Int} (hg : GOk w n g) (hy : yOk w n g) {k : Nat} (hk : (k : Int) + 1 ≤ g 1) {f c : Int} (f0 : 0 ≤ f) (f1 : f < n) (c0 : 0 ≤ c) (c1 : c < n) : (yT w n g k f c = -1 ↔ (wyD w n g f c = -1 ∨ alB w n g (g 1 - ((k + 1 : Nat) : Int)) c = 0 ∨ yR w n g k c = -1)) ∧ (¬ yT w n g k f c = -1 → yT w n g k f c = g 7 * wyD w n g f c + frV w n g (g 1 - ((k + 1 : Nat) : Int)) c + yR w n g k c) := by
  have lyb := hg.lyb
  have e : yR w n g k c = wyR (wyD w n g) (alB w n g) (frV w n g) (g 7) n.toNat (g 1) k c := rfl
  unfold yT wyT
  rw [← e]
  by_cases q : wyD w n g f c = -1 ∨ alB w n g (g 1 - ((k + 1 : Nat) : Int)) c = 0 ∨ yR w n g k c = -1
  · rw [if_pos (Or.inr q)]
    exact ⟨⟨fun _ => q, fun _ => rfl⟩, fun z => absurd rfl z⟩
  · rw [if_neg (fun z => z.elim (fun y => by omega) q)]
    have a := alB_fr hg (l := g 1 - ((k + 1 : Nat) : Int)) (c := c) (by omega) (fun z => q (Or.inr (Or.inl z)))
    have b := yR_rng hg hy k (by omega) (f := c) (by omega) c1
    have r := (hy f f0 f1).rg c c0 c1
    have m := mulB (x := wyD w n g f c) (y := g 7) (A := 64) (B := 99) (by omega) hg.pce
    have cm := Int.mul_comm (wyD w n g f c) (g 7)
    exact ⟨⟨fun z => by omega, fun z => absurd z q⟩, fun _ => by omega⟩

theorem U_101 {X : Int × (Int → Int)} {d : Nat} {Q : Int → XH → Prop} (hd : 0 ≤ d) (H : XH) (h : xq X d 101 Q 2 [(0, (2, 67)), (1, (0, 0))] [] H) : xc X (d + 1) 101 [(2, 67)] H Q := by
  refine ⟨rfl, ?_⟩
  show xq X d 101 Q 100000 [(0, (2, 67))] [] H
  refine xq_run [2, 15] 300 ?_
  show xq X d 101 Q 2 [(0, (2, 67)), (1, (0, 0))] [] H
  exact h
theorem U_101_2 {X : Int × (Int → Int)} {d : Nat} {Q : Int → XH → Prop} (hd : 4 ≤ d) (v1 : Int) (H : XH) (h : ((H 67 1 ≤ v1) → Q 0 H) ∧ (¬ (H 67 1 ≤ v1) → (GOk (H 67 0) (H 67 1) (H 68)) ∧ (0 ≤ v1 ∧ v1 < H 67 1) ∧ (∀ (h373 : XH), (lfH H h373 v1 ∧ DS (H 67 0) (H 67 1) (fun e => H 68 (20 + e)) v1 (fun c => h373 80 (64 * v1 + c))) → (xI (v1 + 1)) ∧ xq X d 101 Q 2 [(0, (2, 67)), (1, (0, v1 + 1))] [] h373))) : xq X d 101 Q 2 [(0, (2, 67)), (1, (0, v1))] [] H := by
  show xq X d 101 Q 2 [(0, (2, 67)), (1, (0, v1))] [] H
  refine xq_run [2, 15] 300 ?_
  show ((H 67 1 ≤ v1) → xfR 2 0 ∧ xKZ = xKZ ∧ Q 0 H) ∧ (¬ (H 67 1 ≤ v1) → xWM (xE X) xMC d 94 [(2, 67), (0, v1)] xKZ H _)
  refine ⟨fun k_ => ?_, fun k_ => ?_⟩
  · replace h := h.1 k_
    exact ⟨trivial, rfl, h⟩
  · replace h := h.2 k_
    refine xc_in (s_94 (by omega) v1 H (h.1) (h.2.1) ?_)
    intro h373 q_0
    replace h := h.2.2 h373 q_0
    show xq X d 101 Q 15 [(0, (2, 67)), (1, (0, v1))] [] h373
    refine xq_run [2, 15] 300 ?_
    show (xI (v1 + 1)) ∧ xq X d 101 Q 2 [(0, (2, 67)), (1, (0, v1 + 1))] [] h373
    refine ⟨h.1, ?_⟩
    replace h := h.2
    exact h

/-- but for the model's rows of paces -/
def mpD (w n : Int) (g : Int → Int) (R : Int → Int) : Prop := ∀ a b, 0 ≤ a → a < n → 0 ≤ b → b < n → R (64 * a + b) = wyD w n g a b
theorem s_101 {X : Int × (Int → Int)} {d : Nat} {Q : Int → XH → Prop} (hd : 5 ≤ d) (H : XH) (hg : GOk (H 67 0) (H 67 1) (H 68)) (hQ : ∀ h1 : XH, ((∀ o, ¬ o = 80 → h1 o = H o) ∧ yOk (H 67 0) (H 67 1) (H 68) ∧ mpD (H 67 0) (H 67 1) (H 68) (h1 80)) → Q 0 h1) : xc X d 101 [(2, 67)] H Q := by
  cases d with
  | zero => omega
  | succ d =>
  have nn := hg.nn
  have key : ∀ (k : Nat) (i : Int) (h : XH), i + k = H 67 1 → 0 ≤ i → (∀ o, ¬ o = 80 → h o = H o) → (∀ a, 0 ≤ a → a < i → DS (H 67 0) (H 67 1) (fun e => H 68 (20 + e)) a (wyD (H 67 0) (H 67 1) (H 68) a) ∧ ∀ b, 0 ≤ b → b < H 67 1 → h 80 (64 * a + b) = wyD (H 67 0) (H 67 1) (H 68) a b) → xq X d 101 Q 2 [(0, (2, 67)), (1, (0, i))] [] h := by
    intro k
    induction k with
    | zero =>
      intro i h hk i0 f ha
      have f67 := f 67 (by decide)
      refine U_101_2 (by omega) i h ?_
      rw [f67]
      refine ⟨fun c1 => ?_, fun c1 => ?_⟩
      · skip
        exact hQ h ⟨f, fun a a0 a1 => (ha a a0 (by omega)).1, fun a b a0 a1 b0 b1 => (ha a a0 (by omega)).2 b b0 b1⟩
      · skip
        refine ⟨?_, ?_⟩
        · first | omega | (unfold xI; omega) | (exfalso; omega)
        refine ⟨?_, ?_⟩
        · first | omega | (unfold xI; omega) | (exfalso; omega)
        intro h374 c2
        refine ⟨?_, ?_⟩
        · first | omega | (unfold xI; omega) | (exfalso; omega)
        exfalso
        omega
    | succ k ih =>
      intro i h hk i0 f ha
      have f67 := f 67 (by decide)
      have f68 := f 68 (by decide)
      refine U_101_2 (by omega) i h ?_
      rw [f67, f68]
      refine ⟨fun c1 => ?_, fun c1 => ?_⟩
      · skip
        exfalso
        omega
      · skip
        refine ⟨?_, ?_⟩
        · first | omega | exact hg | (unfold xI; omega) | (exfalso; omega)
        refine ⟨?_, ?_⟩
        · first | omega | exact hg | (unfold xI; omega) | (exfalso; omega)
        intro h375 c2
        have uu := c2
        refine ⟨?_, ?_⟩
        · first | omega | exact hg | (unfold xI; omega) | (exfalso; omega)
        obtain ⟨⟨u1, u2⟩, u3⟩ := uu
        refine ih (i + 1) _ (by omega) (by omega) (fun o q => by rw [u1 o q]; exact f o q) (fun a a0 a1 => ?_)
        by_cases q : a = i
        · rw [q]
          exact ⟨DS_e u3, fun b b0 b1 => DS_v u3 b0 b1⟩
        · refine ⟨(ha a a0 (by omega)).1, fun b b0 b1 => ?_⟩
          rw [u2 _ (by omega)]
          exact (ha a a0 (by omega)).2 b b0 b1
  refine U_101 (by omega) H ?_
  exact key (H 67 1).toNat 0 H (by omega) (by decide) (fun _ _ => rfl) (fun a a0 a1 => by omega)

theorem U_102 {X : Int × (Int → Int)} {d : Nat} {Q : Int → XH → Prop} (hd : 0 ≤ d) (l f c : Int) (H : XH) (h : (xI (64 * l)) ∧ (xI ((64 * l) + c)) ∧ ((0 : Int) ≤ (64 * l) + c ∧ ((64 * l) + c : Int) < 512) ∧ ((H 83 ((64 * l) + c) = (-1)) → Q 0 H) ∧ (¬ (H 83 ((64 * l) + c) = (-1)) → (xI (64 * f)) ∧ (xI ((64 * f) + c)) ∧ ((0 : Int) ≤ (64 * f) + c ∧ ((64 * f) + c : Int) < 4096) ∧ ((H 80 ((64 * f) + c) = (-1)) → Q 0 H) ∧ (¬ (H 80 ((64 * f) + c) = (-1)) → (xI (64 * l)) ∧ (xI ((64 * l) + 64)) ∧ (xI (((64 * l) + 64) + c)) ∧ ((0 : Int) ≤ ((64 * l) + 64) + c ∧ (((64 * l) + 64) + c : Int) < 576) ∧ ((1000000000 ≤ H 81 (((64 * l) + 64) + c)) → Q 0 H) ∧ (¬ (1000000000 ≤ H 81 (((64 * l) + 64) + c)) → Q 1 H)))) : xc X (d + 1) 102 [(2, 67), (0, l), (0, f), (0, c)] H Q := by
  refine ⟨rfl, ?_⟩
  show xq X d 102 Q 100000 [(0, (2, 67)), (1, (0, l)), (2, (0, f)), (3, (0, c))] [] H
  refine xq_run [] 300 ?_
  show (xI (64 * l)) ∧ (xI ((64 * l) + c)) ∧ ((0 : Int) ≤ (64 * l) + c ∧ ((64 * l) + c : Int) < 512) ∧ ((H 83 ((64 * l) + c) = (-1)) → xfR 3 0 ∧ xKZ = xKZ ∧ Q 0 H) ∧ (¬ (H 83 ((64 * l) + c) = (-1)) → (xI (64 * f)) ∧ (xI ((64 * f) + c)) ∧ ((0 : Int) ≤ (64 * f) + c ∧ ((64 * f) + c : Int) < 4096) ∧ ((H 80 ((64 * f) + c) = (-1)) → xfR 3 0 ∧ xKZ = xKZ ∧ Q 0 H) ∧ (¬ (H 80 ((64 * f) + c) = (-1)) → (xI (64 * l)) ∧ (xI ((64 * l) + 64)) ∧ (xI (((64 * l) + 64) + c)) ∧ ((0 : Int) ≤ ((64 * l) + 64) + c ∧ (((64 * l) + 64) + c : Int) < 576) ∧ ((1000000000 ≤ H 81 (((64 * l) + 64) + c)) → xfR 3 0 ∧ xKZ = xKZ ∧ Q 0 H) ∧ (¬ (1000000000 ≤ H 81 (((64 * l) + 64) + c)) → xfR 3 1 ∧ xKZ = xKZ ∧ Q 1 H)))
  refine ⟨h.1, ?_⟩
  replace h := h.2
  refine ⟨h.1, ?_⟩
  replace h := h.2
  refine ⟨h.1, ?_⟩
  replace h := h.2
  refine ⟨fun k_ => ?_, fun k_ => ?_⟩
  · replace h := h.1 k_
    exact ⟨xfR3_0, rfl, h⟩
  · replace h := h.2 k_
    refine ⟨h.1, ?_⟩
    replace h := h.2
    refine ⟨h.1, ?_⟩
    replace h := h.2
    refine ⟨h.1, ?_⟩
    replace h := h.2
    refine ⟨fun k_ => ?_, fun k_ => ?_⟩
    · replace h := h.1 k_
      exact ⟨xfR3_0, rfl, h⟩
    · replace h := h.2 k_
      refine ⟨h.1, ?_⟩
      replace h := h.2
      refine ⟨h.1, ?_⟩
      replace h := h.2
      refine ⟨h.1, ?_⟩
      replace h := h.2
      refine ⟨h.1, ?_⟩
      replace h := h.2
      refine ⟨fun k_ => ?_, fun k_ => ?_⟩
      · replace h := h.1 k_
        exact ⟨xfR3_0, rfl, h⟩
      · replace h := h.2 k_
        exact ⟨xfR3_1, rfl, h⟩

theorem s_102 {X : Int × (Int → Int)} {d : Nat} {Q : Int → XH → Prop} (hd : 1 ≤ d) (l f c : Int) (H : XH) (p0 : 0 ≤ l ∧ l ≤ 7) (p1 : 0 ≤ f ∧ f < 64) (p2 : 0 ≤ c ∧ c < 64) (hQ : Q (xb (¬ H 83 (64 * l + c) = -1 ∧ ¬ H 80 (64 * f + c) = -1 ∧ H 81 (64 * l + 64 + c) < 1000000000)) H) : xc X d 102 [(2, 67), (0, l), (0, f), (0, c)] H Q := by
  cases d with
  | zero => omega
  | succ d =>
  refine U_102 (by omega) l f c H ?_
  refine ⟨?_, ?_⟩
  · first | omega | (unfold xI; omega) | (unfold xJ; omega) | assumption | (exfalso; omega)
  refine ⟨?_, ?_⟩
  · first | omega | (unfold xI; omega) | (unfold xJ; omega) | assumption | (exfalso; omega)
  refine ⟨?_, ?_⟩
  · first | omega | (unfold xI; omega) | (unfold xJ; omega) | assumption | (exfalso; omega)
  refine ⟨fun c1 => ?_, fun c1 => ?_⟩
  · skip
    first | (rw [xb_t (by omega)] at hQ; exact hQ) | (rw [xb_f (by omega)] at hQ; exact hQ)
  · skip
    refine ⟨?_, ?_⟩
    · first | omega | (unfold xI; omega) | (unfold xJ; omega) | assumption | (exfalso; omega)
    refine ⟨?_, ?_⟩
    · first | omega | (unfold xI; omega) | (unfold xJ; omega) | assumption | (exfalso; omega)
    refine ⟨?_, ?_⟩
    · first | omega | (unfold xI; omega) | (unfold xJ; omega) | assumption | (exfalso; omega)
    refine ⟨fun c2 => ?_, fun c2 => ?_⟩
    · skip
      first | (rw [xb_t (by omega)] at hQ; exact hQ) | (rw [xb_f (by omega)] at hQ; exact hQ)
    · skip
      refine ⟨?_, ?_⟩
      · first | omega | (unfold xI; omega) | (unfold xJ; omega) | assumption | (exfalso; omega)
      refine ⟨?_, ?_⟩
      · first | omega | (unfold xI; omega) | (unfold xJ; omega) | assumption | (exfalso; omega)
      refine ⟨?_, ?_⟩
      · first | omega | (unfold xI; omega) | (unfold xJ; omega) | assumption | (exfalso; omega)
      refine ⟨?_, ?_⟩
      · first | omega | (unfold xI; omega) | (unfold xJ; omega) | assumption | (exfalso; omega)
      refine ⟨fun c3 => ?_, fun c3 => ?_⟩
      · skip
        first | (rw [xb_t (by omega)] at hQ; exact hQ) | (rw [xb_f (by omega)] at hQ; exact hQ)
      · skip
        first | (rw [xb_t (by omega)] at hQ; exact hQ) | (rw [xb_f (by omega)] at hQ; exact hQ)

theorem U_103 {X : Int × (Int → Int)} {d : Nat} {Q : Int → XH → Prop} (hd : 0 ≤ d) (l f c : Int) (H : XH) (h : (xI (64 * f)) ∧ (xI ((64 * f) + c)) ∧ ((0 : Int) ≤ (64 * f) + c ∧ ((64 * f) + c : Int) < 4096) ∧ (xI ((H 68 7) * (H 80 ((64 * f) + c)))) ∧ (xI (64 * l)) ∧ (xI ((64 * l) + c)) ∧ ((0 : Int) ≤ (64 * l) + c ∧ ((64 * l) + c : Int) < 512) ∧ (xI (((H 68 7) * (H 80 ((64 * f) + c))) + (H 83 ((64 * l) + c)))) ∧ (xI (64 * l)) ∧ (xI ((64 * l) + 64)) ∧ (xI (((64 * l) + 64) + c)) ∧ ((0 : Int) ≤ ((64 * l) + 64) + c ∧ (((64 * l) + 64) + c : Int) < 576) ∧ (xI ((((H 68 7) * (H 80 ((64 * f) + c))) + (H 83 ((64 * l) + c))) + (H 81 (((64 * l) + 64) + c)))) ∧ Q ((((H 68 7) * (H 80 ((64 * f) + c))) + (H 83 ((64 * l) + c))) + (H 81 (((64 * l) + 64) + c))) H) : xc X (d + 1) 103 [(2, 67), (0, l), (0, f), (0, c)] H Q := by
  refine ⟨rfl, ?_⟩
  show xq X d 103 Q 100000 [(0, (2, 67)), (1, (0, l)), (2, (0, f)), (3, (0, c))] [] H
  refine xq_run [] 300 ?_
  show ((0 : Int) ≤ 7 ∧ (7 : Int) < 1180) ∧ (xI (64 * f)) ∧ (xI ((64 * f) + c)) ∧ ((0 : Int) ≤ (64 * f) + c ∧ ((64 * f) + c : Int) < 4096) ∧ (xI ((H 68 7) * (H 80 ((64 * f) + c)))) ∧ (xI (64 * l)) ∧ (xI ((64 * l) + c)) ∧ ((0 : Int) ≤ (64 * l) + c ∧ ((64 * l) + c : Int) < 512) ∧ (xI (((H 68 7) * (H 80 ((64 * f) + c))) + (H 83 ((64 * l) + c)))) ∧ (xI (64 * l)) ∧ (xI ((64 * l) + 64)) ∧ (xI (((64 * l) + 64) + c)) ∧ ((0 : Int) ≤ ((64 * l) + 64) + c ∧ (((64 * l) + 64) + c : Int) < 576) ∧ (xI ((((H 68 7) * (H 80 ((64 * f) + c))) + (H 83 ((64 * l) + c))) + (H 81 (((64 * l) + 64) + c)))) ∧ xfR 0 ((((H 68 7) * (H 80 ((64 * f) + c))) + (H 83 ((64 * l) + c))) + (H 81 (((64 * l) + 64) + c))) ∧ xKZ = xKZ ∧ Q ((((H 68 7) * (H 80 ((64 * f) + c))) + (H 83 ((64 * l) + c))) + (H 81 (((64 * l) + 64) + c))) H
  refine ⟨⟨by decide, by decide⟩, ?_⟩
  refine ⟨h.1, ?_⟩
  replace h := h.2
  refine ⟨h.1, ?_⟩
  replace h := h.2
  refine ⟨h.1, ?_⟩
  replace h := h.2
  refine ⟨h.1, ?_⟩
  replace h := h.2
  refine ⟨h.1, ?_⟩
  replace h := h.2
  refine ⟨h.1, ?_⟩
  replace h := h.2
  refine ⟨h.1, ?_⟩
  replace h := h.2
  refine ⟨h.1, ?_⟩
  replace h := h.2
  refine ⟨h.1, ?_⟩
  replace h := h.2
  refine ⟨h.1, ?_⟩
  replace h := h.2
  refine ⟨h.1, ?_⟩
  replace h := h.2
  refine ⟨h.1, ?_⟩
  replace h := h.2
  refine ⟨h.1, ?_⟩
  replace h := h.2
  exact ⟨trivial, rfl, h⟩

theorem s_103 {X : Int × (Int → Int)} {d : Nat} {Q : Int → XH → Prop} (hd : 1 ≤ d) (l f c : Int) (H : XH) (p0 : 0 ≤ l ∧ l ≤ 7) (p1 : 0 ≤ f ∧ f < 64) (p2 : 0 ≤ c ∧ c < 64) (p3 : 0 ≤ H 68 7 * H 80 (64 * f + c) ∧ H 68 7 * H 80 (64 * f + c) ≤ 10000) (p4 : -1 ≤ H 83 (64 * l + c) ∧ H 83 (64 * l + c) ≤ 1000) (p5 : 0 ≤ H 81 (64 * l + 64 + c) ∧ H 81 (64 * l + 64 + c) ≤ 1000000000) (hQ : Q (H 68 7 * H 80 (64 * f + c) + H 83 (64 * l + c) + H 81 (64 * l + 64 + c)) H) : xc X d 103 [(2, 67), (0, l), (0, f), (0, c)] H Q := by
  cases d with
  | zero => omega
  | succ d =>
  refine U_103 (by omega) l f c H ?_
  refine ⟨?_, ?_⟩
  · first | omega | (unfold xI; omega) | (unfold xJ; omega) | assumption | (exfalso; omega)
  refine ⟨?_, ?_⟩
  · first | omega | (unfold xI; omega) | (unfold xJ; omega) | assumption | (exfalso; omega)
  refine ⟨?_, ?_⟩
  · first | omega | (unfold xI; omega) | (unfold xJ; omega) | assumption | (exfalso; omega)
  refine ⟨?_, ?_⟩
  · first | omega | (unfold xI; omega) | (unfold xJ; omega) | assumption | (exfalso; omega)
  refine ⟨?_, ?_⟩
  · first | omega | (unfold xI; omega) | (unfold xJ; omega) | assumption | (exfalso; omega)
  refine ⟨?_, ?_⟩
  · first | omega | (unfold xI; omega) | (unfold xJ; omega) | assumption | (exfalso; omega)
  refine ⟨?_, ?_⟩
  · first | omega | (unfold xI; omega) | (unfold xJ; omega) | assumption | (exfalso; omega)
  refine ⟨?_, ?_⟩
  · first | omega | (unfold xI; omega) | (unfold xJ; omega) | assumption | (exfalso; omega)
  refine ⟨?_, ?_⟩
  · first | omega | (unfold xI; omega) | (unfold xJ; omega) | assumption | (exfalso; omega)
  refine ⟨?_, ?_⟩
  · first | omega | (unfold xI; omega) | (unfold xJ; omega) | assumption | (exfalso; omega)
  refine ⟨?_, ?_⟩
  · first | omega | (unfold xI; omega) | (unfold xJ; omega) | assumption | (exfalso; omega)
  refine ⟨?_, ?_⟩
  · first | omega | (unfold xI; omega) | (unfold xJ; omega) | assumption | (exfalso; omega)
  refine ⟨?_, ?_⟩
  · first | omega | (unfold xI; omega) | (unfold xJ; omega) | assumption | (exfalso; omega)
  exact hQ

theorem U_104 {X : Int × (Int → Int)} {d : Nat} {Q : Int → XH → Prop} (hd : 0 ≤ d) (a b : Int) (H : XH) (h : ((b ≤ a) → Q b H) ∧ (¬ (b ≤ a) → Q a H)) : xc X (d + 1) 104 [(0, a), (0, b)] H Q := by
  refine ⟨rfl, ?_⟩
  show xq X d 104 Q 100000 [(0, (0, a)), (1, (0, b))] [] H
  refine xq_run [] 300 ?_
  show ((b ≤ a) → xfR 0 b ∧ xKZ = xKZ ∧ Q b H) ∧ (¬ (b ≤ a) → xfR 0 a ∧ xKZ = xKZ ∧ Q a H)
  refine ⟨fun k_ => ?_, fun k_ => ?_⟩
  · replace h := h.1 k_
    exact ⟨trivial, rfl, h⟩
  · replace h := h.2 k_
    exact ⟨trivial, rfl, h⟩

theorem s_104 {X : Int × (Int → Int)} {d : Nat} {Q : Int → XH → Prop} (hd : 1 ≤ d) (a b : Int) (H : XH) (hQ : Q (if b ≤ a then b else a) H) : xc X d 104 [(0, a), (0, b)] H Q := by
  cases d with
  | zero => omega
  | succ d =>
  refine U_104 (by omega) a b H ?_
  refine ⟨fun c1 => ?_, fun c1 => ?_⟩
  · skip
    first | (rw [if_pos (by omega)] at hQ; exact hQ) | (rw [if_neg (by omega)] at hQ; exact hQ)
  · skip
    first | (rw [if_pos (by omega)] at hQ; exact hQ) | (rw [if_neg (by omega)] at hQ; exact hQ)

set_option maxRecDepth 4000 in
theorem U_105 {X : Int × (Int → Int)} {d : Nat} {Q : Int → XH → Prop} (hd : 5 ≤ d) (H : XH) (h : ((¬ H 68 1 = 0) → (GOk (H 67 0) (H 67 1) (H 68)) ∧ (∀ (h376 : XH), ((∀ o, ¬ o = 80 → h376 o = H o) ∧ yOk (H 67 0) (H 67 1) (H 68) ∧ mpD (H 67 0) (H 67 1) (H 68) (h376 80)) → xq X d 105 Q 19 [(0, (2, 67)), (1, (0, H 68 1)), (2, (0, 0))] [] h376)) ∧ (¬ (¬ H 68 1 = 0) → Q 0 H)) : xc X (d + 1) 105 [(2, 67)] H Q := by
  refine ⟨rfl, ?_⟩
  show xq X d 105 Q 100000 [(0, (2, 67))] [] H
  refine xq_run [17, 19, 53, 64, 129, 135, 171, 188, 220, 223, 266] 300 ?_
  show ((0 : Int) ≤ 1 ∧ (1 : Int) < 1180) ∧ ((¬ H 68 1 = 0) → xWM (xE X) xMC d 101 [(2, 67)] xKZ H _) ∧ (¬ (¬ H 68 1 = 0) → xfR 3 0 ∧ xKZ = xKZ ∧ Q 0 H)
  refine ⟨⟨by decide, by decide⟩, ?_⟩
  refine ⟨fun k_ => ?_, fun k_ => ?_⟩
  · replace h := h.1 k_
    refine xc_in (s_101 (by omega) H (h.1) ?_)
    intro h376 q_0
    replace h := h.2 h376 q_0
    show xq X d 105 Q 17 [(1, (0, H 68 1)), (0, (2, 67))] [] h376
    refine xq_run [17, 19, 53, 64, 129, 135, 171, 188, 220, 223, 266] 300 ?_
    show xq X d 105 Q 19 [(0, (2, 67)), (1, (0, H 68 1)), (2, (0, 0))] [] h376
    exact h
  · replace h := h.2 k_
    exact ⟨xfR3_0, rfl, h⟩
theorem U_105_19 {X : Int × (Int → Int)} {d : Nat} {Q : Int → XH → Prop} (hd : 0 ≤ d) (v1 v2 : Int) (H : XH) (h : ((H 67 1 ≤ v2) → (xI (v1 - 1)) ∧ xq X d 105 Q 129 [(0, (2, 67)), (2, (0, v1 - 1))] [] H) ∧ (¬ (H 67 1 ≤ v2) → (xI (64 * v1)) ∧ (xI ((64 * v1) + v2)) ∧ ((0 : Int) ≤ (64 * v1) + v2 ∧ ((64 * v1) + v2 : Int) < 576) ∧ (xI (64 * v1)) ∧ (xI ((64 * v1) + v2)) ∧ ((0 : Int) ≤ (64 * v1) + v2 ∧ ((64 * v1) + v2 : Int) < 576) ∧ xq X d 105 Q 53 [(0, (2, 67)), (1, (0, v1)), (2, (0, v2)), (3, (0, 0))] [] (xup (xup H 81 ((64 * v1) + v2) 0) 82 ((64 * v1) + v2) 1))) : xq X d 105 Q 19 [(0, (2, 67)), (1, (0, v1)), (2, (0, v2))] [] H := by
  show xq X d 105 Q 19 [(0, (2, 67)), (1, (0, v1)), (2, (0, v2))] [] H
  refine xq_run [17, 19, 53, 64, 129, 135, 171, 188, 220, 223, 266] 300 ?_
  show ((H 67 1 ≤ v2) → (xI (v1 - 1)) ∧ xq X d 105 Q 129 [(0, (2, 67)), (2, (0, v1 - 1))] [] H) ∧ (¬ (H 67 1 ≤ v2) → (xI (64 * v1)) ∧ (xI ((64 * v1) + v2)) ∧ ((0 : Int) ≤ (64 * v1) + v2 ∧ ((64 * v1) + v2 : Int) < 576) ∧ (xI (64 * v1)) ∧ (xI ((64 * v1) + v2)) ∧ ((0 : Int) ≤ (64 * v1) + v2 ∧ ((64 * v1) + v2 : Int) < 576) ∧ xq X d 105 Q 53 [(0, (2, 67)), (1, (0, v1)), (2, (0, v2)), (3, (0, 0))] [] (xup (xup H 81 ((64 * v1) + v2) 0) 82 ((64 * v1) + v2) 1))
  refine ⟨fun k_ => ?_, fun k_ => ?_⟩
  · replace h := h.1 k_
    refine ⟨h.1, ?_⟩
    replace h := h.2
    exact h
  · replace h := h.2 k_
    refine ⟨h.1, ?_⟩
    replace h := h.2
    refine ⟨h.1, ?_⟩
    replace h := h.2
    refine ⟨h.1, ?_⟩
    replace h := h.2
    refine ⟨h.1, ?_⟩
    replace h := h.2
    refine ⟨h.1, ?_⟩
    replace h := h.2
    refine ⟨h.1, ?_⟩
    replace h := h.2
    exact h
theorem U_105_129 {X : Int × (Int → Int)} {d : Nat} {Q : Int → XH → Prop} (hd : 0 ≤ d) (v2 : Int) (H : XH) (h : ((v2 < 0) → ((0 : Int) ≤ H 68 5 ∧ (H 68 5 : Int) < 576) ∧ ((1000000000 ≤ H 81 (H 68 5)) → Q 0 H) ∧ (¬ (1000000000 ≤ H 81 (H 68 5)) → Q 1 H)) ∧ (¬ (v2 < 0) → xq X d 105 Q 135 [(0, (2, 67)), (2, (0, v2)), (3, (0, 0))] [] H)) : xq X d 105 Q 129 [(0, (2, 67)), (2, (0, v2))] [] H := by
  show xq X d 105 Q 129 [(0, (2, 67)), (2, (0, v2))] [] H
  refine xq_run [17, 19, 53, 64, 129, 135, 171, 188, 220, 223, 266] 300 ?_
  show ((v2 < 0) → ((0 : Int) ≤ 5 ∧ (5 : Int) < 1180) ∧ ((0 : Int) ≤ H 68 5 ∧ (H 68 5 : Int) < 576) ∧ ((1000000000 ≤ H 81 (H 68 5)) → xfR 3 0 ∧ xKZ = xKZ ∧ Q 0 H) ∧ (¬ (1000000000 ≤ H 81 (H 68 5)) → xfR 3 1 ∧ xKZ = xKZ ∧ Q 1 H)) ∧ (¬ (v2 < 0) → xq X d 105 Q 135 [(0, (2, 67)), (2, (0, v2)), (3, (0, 0))] [] H)
  refine ⟨fun k_ => ?_, fun k_ => ?_⟩
  · replace h := h.1 k_
    refine ⟨⟨by decide, by decide⟩, ?_⟩
    refine ⟨h.1, ?_⟩
    replace h := h.2
    refine ⟨fun k_ => ?_, fun k_ => ?_⟩
    · replace h := h.1 k_
      exact ⟨xfR3_0, rfl, h⟩
    · replace h := h.2 k_
      exact ⟨xfR3_1, rfl, h⟩
  · replace h := h.2 k_
    exact h
theorem U_105_53 {X : Int × (Int → Int)} {d : Nat} {Q : Int → XH → Prop} (hd : 5 ≤ d) (v1 v2 v3 : Int) (H : XH) (h : ((v1 ≤ v3) → (xI (v2 + 1)) ∧ xq X d 105 Q 19 [(0, (2, 67)), (1, (0, v1)), (2, (0, v2 + 1))] [] H) ∧ (¬ (v1 ≤ v3) → (GOk (H 67 0) (H 67 1) (H 68)) ∧ (0 ≤ v3 ∧ v3 < H 68 1) ∧ (0 ≤ v2 ∧ v2 < H 67 1) ∧ (∀ (h377 : XH), (frF H h377) → (xI (64 * v3)) ∧ (xI ((64 * v3) + v2)) ∧ ((frV (H 67 0) (H 67 1) (H 68) v3 v2 = (-1)) → ((0 : Int) ≤ (64 * v3) + v2 ∧ ((64 * v3) + v2 : Int) < 512) ∧ (xI (v3 + 1)) ∧ xq X d 105 Q 53 [(0, (2, 67)), (1, (0, v1)), (2, (0, v2)), (3, (0, v3 + 1))] [] (xup h377 83 ((64 * v3) + v2) (-1))) ∧ (¬ (frV (H 67 0) (H 67 1) (H 68) v3 v2 = (-1)) → ((h377 68 6 < frV (H 67 0) (H 67 1) (H 68) v3 v2) → ((0 : Int) ≤ (64 * v3) + v2 ∧ ((64 * v3) + v2 : Int) < 512) ∧ (xI (v3 + 1)) ∧ xq X d 105 Q 53 [(0, (2, 67)), (1, (0, v1)), (2, (0, v2)), (3, (0, v3 + 1))] [] (xup h377 83 ((64 * v3) + v2) (-1))) ∧ (¬ (h377 68 6 < frV (H 67 0) (H 67 1) (H 68) v3 v2) → (xI (20 + v2)) ∧ ((0 : Int) ≤ 20 + v2 ∧ (20 + v2 : Int) < 1180) ∧ ((¬ h377 68 (20 + v2) = 0) → ((0 : Int) ≤ (64 * v3) + v2 ∧ ((64 * v3) + v2 : Int) < 512) ∧ (xI (v3 + 1)) ∧ xq X d 105 Q 53 [(0, (2, 67)), (1, (0, v1)), (2, (0, v2)), (3, (0, v3 + 1))] [] (xup h377 83 ((64 * v3) + v2) (-1))) ∧ (¬ (¬ h377 68 (20 + v2) = 0) → ((0 : Int) ≤ (64 * v3) + v2 ∧ ((64 * v3) + v2 : Int) < 512) ∧ (xI (v3 + 1)) ∧ xq X d 105 Q 53 [(0, (2, 67)), (1, (0, v1)), (2, (0, v2)), (3, (0, v3 + 1))] [] (xup h377 83 ((64 * v3) + v2) (frV (H 67 0) (H 67 1) (H 68) v3 v2)))))))) : xq X d 105 Q 53 [(0, (2, 67)), (1, (0, v1)), (2, (0, v2)), (3, (0, v3))] [] H := by
  show xq X d 105 Q 53 [(0, (2, 67)), (1, (0, v1)), (2, (0, v2)), (3, (0, v3))] [] H
  refine xq_run [17, 19, 53, 64, 129, 135, 171, 188, 220, 223, 266] 300 ?_
  show ((v1 ≤ v3) → (xI (v2 + 1)) ∧ xq X d 105 Q 19 [(0, (2, 67)), (1, (0, v1)), (2, (0, v2 + 1))] [] H) ∧ (¬ (v1 ≤ v3) → xWM (xE X) xMC d 66 [(2, 67), (0, v3), (0, v2)] xKZ H _)
  refine ⟨fun k_ => ?_, fun k_ => ?_⟩
  · replace h := h.1 k_
    refine ⟨h.1, ?_⟩
    replace h := h.2
    exact h
  · replace h := h.2 k_
    refine xc_in (s_66h (by omega) v3 v2 H (h.1) (h.2.1) (h.2.2.1) ?_)
    intro h377 q_0
    replace h := h.2.2.2 h377 q_0
    show xq X d 105 Q 64 [(0, (2, 67)), (1, (0, v1)), (2, (0, v2)), (3, (0, v3))] [(0, frV (H 67 0) (H 67 1) (H 68) v3 v2)] h377
    refine xq_run [17, 19, 53, 64, 129, 135, 171, 188, 220, 223, 266] 300 ?_
    show (xI (64 * v3)) ∧ (xI ((64 * v3) + v2)) ∧ ((frV (H 67 0) (H 67 1) (H 68) v3 v2 = (-1)) → ((0 : Int) ≤ (64 * v3) + v2 ∧ ((64 * v3) + v2 : Int) < 512) ∧ (xI (v3 + 1)) ∧ xq X d 105 Q 53 [(0, (2, 67)), (1, (0, v1)), (2, (0, v2)), (3, (0, v3 + 1))] [] (xup h377 83 ((64 * v3) + v2) (-1))) ∧ (¬ (frV (H 67 0) (H 67 1) (H 68) v3 v2 = (-1)) → ((0 : Int) ≤ 6 ∧ (6 : Int) < 1180) ∧ ((h377 68 6 < frV (H 67 0) (H 67 1) (H 68) v3 v2) → ((0 : Int) ≤ (64 * v3) + v2 ∧ ((64 * v3) + v2 : Int) < 512) ∧ (xI (v3 + 1)) ∧ xq X d 105 Q 53 [(0, (2, 67)), (1, (0, v1)), (2, (0, v2)), (3, (0, v3 + 1))] [] (xup h377 83 ((64 * v3) + v2) (-1))) ∧ (¬ (h377 68 6 < frV (H 67 0) (H 67 1) (H 68) v3 v2) → (xI (20 + v2)) ∧ ((0 : Int) ≤ 20 + v2 ∧ (20 + v2 : Int) < 1180) ∧ ((¬ h377 68 (20 + v2) = 0) → ((0 : Int) ≤ (64 * v3) + v2 ∧ ((64 * v3) + v2 : Int) < 512) ∧ (xI (v3 + 1)) ∧ xq X d 105 Q 53 [(0, (2, 67)), (1, (0, v1)), (2, (0, v2)), (3, (0, v3 + 1))] [] (xup h377 83 ((64 * v3) + v2) (-1))) ∧ (¬ (¬ h377 68 (20 + v2) = 0) → ((0 : Int) ≤ (64 * v3) + v2 ∧ ((64 * v3) + v2 : Int) < 512) ∧ (xI (v3 + 1)) ∧ xq X d 105 Q 53 [(0, (2, 67)), (1, (0, v1)), (2, (0, v2)), (3, (0, v3 + 1))] [] (xup h377 83 ((64 * v3) + v2) (frV (H 67 0) (H 67 1) (H 68) v3 v2)))))
    refine ⟨h.1, ?_⟩
    replace h := h.2
    refine ⟨h.1, ?_⟩
    replace h := h.2
    refine ⟨fun k_ => ?_, fun k_ => ?_⟩
    · replace h := h.1 k_
      refine ⟨h.1, ?_⟩
      replace h := h.2
      refine ⟨h.1, ?_⟩
      replace h := h.2
      exact h
    · replace h := h.2 k_
      refine ⟨⟨by decide, by decide⟩, ?_⟩
      refine ⟨fun k_ => ?_, fun k_ => ?_⟩
      · replace h := h.1 k_
        refine ⟨h.1, ?_⟩
        replace h := h.2
        refine ⟨h.1, ?_⟩
        replace h := h.2
        exact h
      · replace h := h.2 k_
        refine ⟨h.1, ?_⟩
        replace h := h.2
        refine ⟨h.1, ?_⟩
        replace h := h.2
        refine ⟨fun k_ => ?_, fun k_ => ?_⟩
        · replace h := h.1 k_
          refine ⟨h.1, ?_⟩
          replace h := h.2
          refine ⟨h.1, ?_⟩
          replace h := h.2
          exact h
        · replace h := h.2 k_
          refine ⟨h.1, ?_⟩
          replace h := h.2
          refine ⟨h.1, ?_⟩
          replace h := h.2
          exact h
theorem U_105_135 {X : Int × (Int → Int)} {d : Nat} {Q : Int → XH → Prop} (hd : 0 ≤ d) (v2 v3 : Int) (H : XH) (h : ((H 67 1 ≤ v3) → (xI (v2 + (-1))) ∧ xq X d 105 Q 129 [(0, (2, 67)), (2, (0, v2 + (-1)))] [] H) ∧ (¬ (H 67 1 ≤ v3) → (xI (64 * v2)) ∧ (xI ((64 * v2) + v3)) ∧ ((0 : Int) ≤ (64 * v2) + v3 ∧ ((64 * v2) + v3 : Int) < 576) ∧ (xI (64 * v2)) ∧ (xI ((64 * v2) + v3)) ∧ ((0 : Int) ≤ (64 * v2) + v3 ∧ ((64 * v2) + v3 : Int) < 576) ∧ xq X d 105 Q 171 [(0, (2, 67)), (2, (0, v2)), (3, (0, v3)), (4, (0, 0))] [] (xup (xup H 81 ((64 * v2) + v3) 1000000000) 82 ((64 * v2) + v3) 0))) : xq X d 105 Q 135 [(0, (2, 67)), (2, (0, v2)), (3, (0, v3))] [] H := by
  show xq X d 105 Q 135 [(0, (2, 67)), (2, (0, v2)), (3, (0, v3))] [] H
  refine xq_run [17, 19, 53, 64, 129, 135, 171, 188, 220, 223, 266] 300 ?_
  show ((H 67 1 ≤ v3) → (xI (v2 + (-1))) ∧ xq X d 105 Q 129 [(0, (2, 67)), (2, (0, v2 + (-1)))] [] H) ∧ (¬ (H 67 1 ≤ v3) → (xI (64 * v2)) ∧ (xI ((64 * v2) + v3)) ∧ ((0 : Int) ≤ (64 * v2) + v3 ∧ ((64 * v2) + v3 : Int) < 576) ∧ (xI (64 * v2)) ∧ (xI ((64 * v2) + v3)) ∧ ((0 : Int) ≤ (64 * v2) + v3 ∧ ((64 * v2) + v3 : Int) < 576) ∧ xq X d 105 Q 171 [(0, (2, 67)), (2, (0, v2)), (3, (0, v3)), (4, (0, 0))] [] (xup (xup H 81 ((64 * v2) + v3) 1000000000) 82 ((64 * v2) + v3) 0))
  refine ⟨fun k_ => ?_, fun k_ => ?_⟩
  · replace h := h.1 k_
    refine ⟨h.1, ?_⟩
    replace h := h.2
    exact h
  · replace h := h.2 k_
    refine ⟨h.1, ?_⟩
    replace h := h.2
    refine ⟨h.1, ?_⟩
    replace h := h.2
    refine ⟨h.1, ?_⟩
    replace h := h.2
    refine ⟨h.1, ?_⟩
    replace h := h.2
    refine ⟨h.1, ?_⟩
    replace h := h.2
    refine ⟨h.1, ?_⟩
    replace h := h.2
    exact h
theorem U_105_171 {X : Int × (Int → Int)} {d : Nat} {Q : Int → XH → Prop} (hd : 1 ≤ d) (v2 v3 v4 : Int) (H : XH) (h : ((H 67 1 ≤ v4) → (xI (v3 + 1)) ∧ xq X d 105 Q 135 [(0, (2, 67)), (2, (0, v2)), (3, (0, v3 + 1))] [] H) ∧ (¬ (H 67 1 ≤ v4) → (0 ≤ v2 ∧ v2 ≤ 7) ∧ (0 ≤ v3 ∧ v3 < 64) ∧ (0 ≤ v4 ∧ v4 < 64) ∧ ((((¬ H 83 (64 * v2 + v4) = -1 ∧ ¬ H 80 (64 * v3 + v4) = -1 ∧ H 81 (64 * v2 + 64 + v4) < 1000000000)) → (xI (64 * v2)) ∧ (xI ((64 * v2) + v3)) ∧ (xI (64 * v2)) ∧ (xI ((64 * v2) + v3)) ∧ ((0 : Int) ≤ (64 * v2) + v3 ∧ ((64 * v2) + v3 : Int) < 576) ∧ (0 ≤ v2 ∧ v2 ≤ 7) ∧ (0 ≤ v3 ∧ v3 < 64) ∧ (0 ≤ v4 ∧ v4 < 64) ∧ (0 ≤ H 68 7 * H 80 (64 * v3 + v4) ∧ H 68 7 * H 80 (64 * v3 + v4) ≤ 10000) ∧ (-1 ≤ H 83 (64 * v2 + v4) ∧ H 83 (64 * v2 + v4) ≤ 1000) ∧ (0 ≤ H 81 (64 * v2 + 64 + v4) ∧ H 81 (64 * v2 + 64 + v4) ≤ 1000000000) ∧ ((((0 : Int) ≤ (64 * v2) + v3 ∧ ((64 * v2) + v3 : Int) < 576) ∧ (xI (64 * v2)) ∧ (xI ((64 * v2) + v3)) ∧ (xI (64 * v2)) ∧ (xI ((64 * v2) + v3)) ∧ ((0 : Int) ≤ (64 * v2) + v3 ∧ ((64 * v2) + v3 : Int) < 576) ∧ (xI (64 * v2)) ∧ (xI ((64 * v2) + 64)) ∧ (xI (((64 * v2) + 64) + v4)) ∧ ((0 : Int) ≤ ((64 * v2) + 64) + v4 ∧ (((64 * v2) + 64) + v4 : Int) < 576) ∧ (xI ((H 82 ((64 * v2) + v3)) + (H 82 (((64 * v2) + 64) + v4)))) ∧ (((0 : Int) ≤ (64 * v2) + v3 ∧ ((64 * v2) + v3 : Int) < 576) ∧ (xI (v4 + 1)) ∧ xq X d 105 Q 171 [(0, (2, 67)), (2, (0, v2)), (3, (0, v3)), (4, (0, v4 + 1))] [] (xup (xup H 81 ((64 * v2) + v3) ((if (H 68 7 * H 80 (64 * v3 + v4) + H 83 (64 * v2 + v4) + H 81 (64 * v2 + 64 + v4)) ≤ (H 81 ((64 * v2) + v3)) then (H 68 7 * H 80 (64 * v3 + v4) + H 83 (64 * v2 + v4) + H 81 (64 * v2 + 64 + v4)) else (H 81 ((64 * v2) + v3))))) 82 ((64 * v2) + v3) ((if ((H 82 ((64 * v2) + v3)) + (H 82 (((64 * v2) + 64) + v4))) ≤ 1000000 then ((H 82 ((64 * v2) + v3)) + (H 82 (((64 * v2) + 64) + v4))) else 1000000))))))) ∧ (¬ ((¬ H 83 (64 * v2 + v4) = -1 ∧ ¬ H 80 (64 * v3 + v4) = -1 ∧ H 81 (64 * v2 + 64 + v4) < 1000000000)) → (xI (v4 + 1)) ∧ xq X d 105 Q 171 [(0, (2, 67)), (2, (0, v2)), (3, (0, v3)), (4, (0, v4 + 1))] [] H)))) : xq X d 105 Q 171 [(0, (2, 67)), (2, (0, v2)), (3, (0, v3)), (4, (0, v4))] [] H := by
  show xq X d 105 Q 171 [(0, (2, 67)), (2, (0, v2)), (3, (0, v3)), (4, (0, v4))] [] H
  refine xq_run [17, 19, 53, 64, 129, 135, 171, 188, 220, 223, 266] 300 ?_
  show ((H 67 1 ≤ v4) → (xI (v3 + 1)) ∧ xq X d 105 Q 135 [(0, (2, 67)), (2, (0, v2)), (3, (0, v3 + 1))] [] H) ∧ (¬ (H 67 1 ≤ v4) → xWM (xE X) xMC d 102 [(2, 67), (0, v2), (0, v3), (0, v4)] xKZ H _)
  refine ⟨fun k_ => ?_, fun k_ => ?_⟩
  · replace h := h.1 k_
    refine ⟨h.1, ?_⟩
    replace h := h.2
    exact h
  · replace h := h.2 k_
    refine xc_in (s_102 (by omega) v2 v3 v4 H (h.1) (h.2.1) (h.2.2.1) ?_)
    replace h := h.2.2.2
    show xq X d 105 Q 188 [(0, (2, 67)), (2, (0, v2)), (3, (0, v3)), (4, (0, v4))] [(0, xb (¬ H 83 (64 * v2 + v4) = -1 ∧ ¬ H 80 (64 * v3 + v4) = -1 ∧ H 81 (64 * v2 + 64 + v4) < 1000000000))] H
    refine xq_run [17, 19, 53, 64, 129, 135, 171, 188, 220, 223, 266] 300 ?_
    show ((xb (¬ H 83 (64 * v2 + v4) = -1 ∧ ¬ H 80 (64 * v3 + v4) = -1 ∧ H 81 (64 * v2 + 64 + v4) < 1000000000) = 0) → (xI (v4 + 1)) ∧ xq X d 105 Q 171 [(0, (2, 67)), (2, (0, v2)), (3, (0, v3)), (4, (0, v4 + 1))] [] H) ∧ (¬ (xb (¬ H 83 (64 * v2 + v4) = -1 ∧ ¬ H 80 (64 * v3 + v4) = -1 ∧ H 81 (64 * v2 + 64 + v4) < 1000000000) = 0) → (xI (64 * v2)) ∧ (xI ((64 * v2) + v3)) ∧ (xI (64 * v2)) ∧ (xI ((64 * v2) + v3)) ∧ ((0 : Int) ≤ (64 * v2) + v3 ∧ ((64 * v2) + v3 : Int) < 576) ∧ xWM (xE X) xMC d 103 [(2, 67), (0, v2), (0, v3), (0, v4)] xKZ H _)
    refine ⟨fun k_ => ?_, fun k_ => ?_⟩
    · replace h := h.2 (xbe_0.mp k_)
      refine ⟨h.1, ?_⟩
      replace h := h.2
      exact h
    · replace h := h.1 (xbe_1.mp k_)
      refine ⟨h.1, ?_⟩
      replace h := h.2
      refine ⟨h.1, ?_⟩
      replace h := h.2
      refine ⟨h.1, ?_⟩
      replace h := h.2
      refine ⟨h.1, ?_⟩
      replace h := h.2
      refine ⟨h.1, ?_⟩
      replace h := h.2
      refine xc_in (s_103 (by omega) v2 v3 v4 H (h.1) (h.2.1) (h.2.2.1) (h.2.2.2.1) (h.2.2.2.2.1) (h.2.2.2.2.2.1) ?_)
      replace h := h.2.2.2.2.2.2
      show xq X d 105 Q 220 [(0, (2, 67)), (2, (0, v2)), (3, (0, v3)), (4, (0, v4))] [(0, H 68 7 * H 80 (64 * v3 + v4) + H 83 (64 * v2 + v4) + H 81 (64 * v2 + 64 + v4)), (0, H 81 ((64 * v2) + v3)), (0, (64 * v2) + v3), (2, 81)] H
      refine xq_run [17, 19, 53, 64, 129, 135, 171, 188, 220, 223, 266] 300 ?_
      show xWM (xE X) xMC d 104 [(0, H 81 ((64 * v2) + v3)), (0, H 68 7 * H 80 (64 * v3 + v4) + H 83 (64 * v2 + v4) + H 81 (64 * v2 + 64 + v4))] xKZ H _
      refine xc_in (s_104 (by omega) (H 81 ((64 * v2) + v3)) (H 68 7 * H 80 (64 * v3 + v4) + H 83 (64 * v2 + v4) + H 81 (64 * v2 + 64 + v4)) H  ?_)
      replace h := h
      show xq X d 105 Q 223 [(0, (2, 67)), (2, (0, v2)), (3, (0, v3)), (4, (0, v4))] [(0, ((if (H 68 7 * H 80 (64 * v3 + v4) + H 83 (64 * v2 + v4) + H 81 (64 * v2 + 64 + v4)) ≤ (H 81 ((64 * v2) + v3)) then (H 68 7 * H 80 (64 * v3 + v4) + H 83 (64 * v2 + v4) + H 81 (64 * v2 + 64 + v4)) else (H 81 ((64 * v2) + v3))))), (0, (64 * v2) + v3), (2, 81)] H
      refine xq_run [17, 19, 53, 64, 129, 135, 171, 188, 220, 223, 266] 300 ?_
      show ((0 : Int) ≤ (64 * v2) + v3 ∧ ((64 * v2) + v3 : Int) < 576) ∧ (xI (64 * v2)) ∧ (xI ((64 * v2) + v3)) ∧ (xI (64 * v2)) ∧ (xI ((64 * v2) + v3)) ∧ ((0 : Int) ≤ (64 * v2) + v3 ∧ ((64 * v2) + v3 : Int) < 576) ∧ (xI (64 * v2)) ∧ (xI ((64 * v2) + 64)) ∧ (xI (((64 * v2) + 64) + v4)) ∧ ((0 : Int) ≤ ((64 * v2) + 64) + v4 ∧ (((64 * v2) + 64) + v4 : Int) < 576) ∧ (xI ((H 82 ((64 * v2) + v3)) + (H 82 (((64 * v2) + 64) + v4)))) ∧ xWM (xE X) xMC d 104 [(0, 1000000), (0, (H 82 ((64 * v2) + v3)) + (H 82 (((64 * v2) + 64) + v4)))] xKZ (xup H 81 ((64 * v2) + v3) ((if (H 68 7 * H 80 (64 * v3 + v4) + H 83 (64 * v2 + v4) + H 81 (64 * v2 + 64 + v4)) ≤ (H 81 ((64 * v2) + v3)) then (H 68 7 * H 80 (64 * v3 + v4) + H 83 (64 * v2 + v4) + H 81 (64 * v2 + 64 + v4)) else (H 81 ((64 * v2) + v3))))) _
      refine ⟨h.1, ?_⟩
      replace h := h.2
      refine ⟨h.1, ?_⟩
      replace h := h.2
      refine ⟨h.1, ?_⟩
      replace h := h.2
      refine ⟨h.1, ?_⟩
      replace h := h.2
      refine ⟨h.1, ?_⟩
      replace h := h.2
      refine ⟨h.1, ?_⟩
      replace h := h.2
      refine ⟨h.1, ?_⟩
      replace h := h.2
      refine ⟨h.1, ?_⟩
      replace h := h.2
      refine ⟨h.1, ?_⟩
      replace h := h.2
      refine ⟨h.1, ?_⟩
      replace h := h.2
      refine ⟨h.1, ?_⟩
      replace h := h.2
      refine xc_in (s_104 (by omega) 1000000 ((H 82 ((64 * v2) + v3)) + (H 82 (((64 * v2) + 64) + v4))) (xup H 81 ((64 * v2) + v3) ((if (H 68 7 * H 80 (64 * v3 + v4) + H 83 (64 * v2 + v4) + H 81 (64 * v2 + 64 + v4)) ≤ (H 81 ((64 * v2) + v3)) then (H 68 7 * H 80 (64 * v3 + v4) + H 83 (64 * v2 + v4) + H 81 (64 * v2 + 64 + v4)) else (H 81 ((64 * v2) + v3)))))  ?_)
      replace h := h
      show xq X d 105 Q 266 [(0, (2, 67)), (2, (0, v2)), (3, (0, v3)), (4, (0, v4))] [(0, ((if ((H 82 ((64 * v2) + v3)) + (H 82 (((64 * v2) + 64) + v4))) ≤ 1000000 then ((H 82 ((64 * v2) + v3)) + (H 82 (((64 * v2) + 64) + v4))) else 1000000))), (0, (64 * v2) + v3), (2, 82)] (xup H 81 ((64 * v2) + v3) ((if (H 68 7 * H 80 (64 * v3 + v4) + H 83 (64 * v2 + v4) + H 81 (64 * v2 + 64 + v4)) ≤ (H 81 ((64 * v2) + v3)) then (H 68 7 * H 80 (64 * v3 + v4) + H 83 (64 * v2 + v4) + H 81 (64 * v2 + 64 + v4)) else (H 81 ((64 * v2) + v3)))))
      refine xq_run [17, 19, 53, 64, 129, 135, 171, 188, 220, 223, 266] 300 ?_
      show ((0 : Int) ≤ (64 * v2) + v3 ∧ ((64 * v2) + v3 : Int) < 576) ∧ (xI (v4 + 1)) ∧ xq X d 105 Q 171 [(0, (2, 67)), (2, (0, v2)), (3, (0, v3)), (4, (0, v4 + 1))] [] (xup (xup H 81 ((64 * v2) + v3) ((if (H 68 7 * H 80 (64 * v3 + v4) + H 83 (64 * v2 + v4) + H 81 (64 * v2 + 64 + v4)) ≤ (H 81 ((64 * v2) + v3)) then (H 68 7 * H 80 (64 * v3 + v4) + H 83 (64 * v2 + v4) + H 81 (64 * v2 + 64 + v4)) else (H 81 ((64 * v2) + v3))))) 82 ((64 * v2) + v3) ((if ((H 82 ((64 * v2) + v3)) + (H 82 (((64 * v2) + 64) + v4))) ≤ 1000000 then ((H 82 ((64 * v2) + v3)) + (H 82 (((64 * v2) + 64) + v4))) else 1000000)))
      refine ⟨h.1, ?_⟩
      replace h := h.2
      refine ⟨h.1, ?_⟩
      replace h := h.2
      exact h

def mpF (w n : Int) (g : Int → Int) (l c : Int) : Int := if ¬ alB w n g l c = 0 ∧ g (20 + c) = 0 then frV w n g l c else -1
def mpL (x : Int) : Int := if x = -1 then 1000000000 else x
/-- the model's rows, all layers, k of them done -/
def mpK (w n : Int) (g : Int → Int) (k : Nat) (h : XH) : Prop := mpD w n g (h 80) ∧ (∀ l c, 0 ≤ l → l < g 1 → 0 ≤ c → c < n → h 83 (64 * l + c) = mpF w n g l c) ∧ ∀ j : Nat, j ≤ k → ∀ f, 0 ≤ f → f < n → h 81 (64 * (g 1 - (j : Int)) + f) = mpL (yR w n g j f) ∧ h 82 (64 * (g 1 - (j : Int)) + f) = yW w n g j f
/-- what can be gone, out of the rows -/
theorem mp_go {w n : Int} {g : Int → Int} {h : XH} {k : Nat} (hg : GOk w n g) (hy : yOk w n g) (hk : (k : Int) + 1 ≤ g 1) (hm : mpD w n g (h 80) ∧ (∀ l c, 0 ≤ l → l < g 1 → 0 ≤ c → c < n → h 83 (64 * l + c) = mpF w n g l c) ∧ ∀ f, 0 ≤ f → f < n → h 81 (64 * (g 1 - (k : Int)) + f) = mpL (yR w n g k f)) {l f c : Int} (hl : l = g 1 - ((k + 1 : Nat) : Int)) (f0 : 0 ≤ f) (f1 : f < n) (c0 : 0 ≤ c) (c1 : c < n) (h7 : h 68 7 = g 7) :
    ((¬ h 83 (64 * l + c) = -1 ∧ ¬ h 80 (64 * f + c) = -1 ∧ h 81 (64 * l + 64 + c) < 1000000000) ↔ ¬ yT w n g k f c = -1) ∧ (¬ yT w n g k f c = -1 → (0 ≤ h 68 7 * h 80 (64 * f + c) ∧ h 68 7 * h 80 (64 * f + c) ≤ 10000) ∧ (-1 ≤ h 83 (64 * l + c) ∧ h 83 (64 * l + c) ≤ 1000) ∧ (0 ≤ h 81 (64 * l + 64 + c) ∧ h 81 (64 * l + 64 + c) ≤ 1000000000) ∧ h 68 7 * h 80 (64 * f + c) + h 83 (64 * l + c) + h 81 (64 * l + 64 + c) = yT w n g k f c) := by
  obtain ⟨m1, m2, m3⟩ := hm
  have lyb := hg.lyb
  have e80 := m1 f c f0 f1 c0 c1
  have e83 := m2 l c (by omega) (by omega) c0 c1
  have e81 := m3 c c0 c1
  rw [show 64 * (g 1 - (k : Int)) + c = 64 * l + 64 + c by omega] at e81
  have yt := yT_no hg hy hk f0 f1 c0 c1
  rw [← hl] at yt
  have bl := (hy f f0 f1).bl c c0 c1
  have rg := (hy f f0 f1).rg c c0 c1
  have yr := yR_rng hg hy k (by omega) (f := c) (by omega) c1
  have fr := frV_rng hg (l := l) (c := c) (by omega)
  have a01 := alB_01 w n g l c
  have af := fun q => alB_fr hg (l := l) (c := c) (by omega) q
  rw [e80, e81, e83, h7]
  unfold mpF mpL
  have go : ((¬ (if ¬ alB w n g l c = 0 ∧ g (20 + c) = 0 then frV w n g l c else -1) = -1 ∧ ¬ wyD w n g f c = -1 ∧ (if yR w n g k c = -1 then 1000000000 else yR w n g k c) < 1000000000) ↔ ¬ yT w n g k f c = -1) := by
    rw [not_congr yt.1]
    constructor
    · rintro ⟨q1, q2, q3⟩
      split at q1
      · split at q3
        · exact absurd q3 (by decide)
        · intro z
          omega
      · exact absurd rfl q1
    · intro z
      have z1 : ¬ wyD w n g f c = -1 := fun q => z (Or.inl q)
      have z2 : ¬ alB w n g l c = 0 := fun q => z (Or.inr (Or.inl q))
      have z3 : ¬ yR w n g k c = -1 := fun q => z (Or.inr (Or.inr q))
      have z4 : g (20 + c) = 0 := by
        by_cases q : g (20 + c) = 0
        · exact q
        · exact absurd (bl q) z1
      rw [if_pos ⟨z2, z4⟩, if_neg z3]
      have := af z2
      exact ⟨by omega, z1, by omega⟩
  refine ⟨go, fun q => ?_⟩
  have g2 := go.mpr q
  have z : ¬ (wyD w n g f c = -1 ∨ alB w n g l c = 0 ∨ yR w n g k c = -1) := fun y => q (yt.1.mpr y)
  have z1 : ¬ wyD w n g f c = -1 := fun q => z (Or.inl q)
  have z2 : ¬ alB w n g l c = 0 := fun q => z (Or.inr (Or.inl q))
  have z3 : ¬ yR w n g k c = -1 := fun q => z (Or.inr (Or.inr q))
  have z4 : g (20 + c) = 0 := by
    by_cases q : g (20 + c) = 0
    · exact q
    · exact absurd (bl q) z1
  rw [if_pos ⟨z2, z4⟩, if_neg z3]
  have m := mulB (x := g 7) (y := wyD w n g f c) (A := 99) (B := 64) hg.pce (by omega)
  exact ⟨by omega, by omega, by omega, (yt.2 q).symm⟩

theorem s_105 {X : Int × (Int → Int)} {d : Nat} {Q : Int → XH → Prop} (hd : 8 ≤ d) (H : XH) (hg : GOk (H 67 0) (H 67 1) (H 68)) (hQ : ∀ (b : Int) (h1 : XH), (frM H h1 ∧ ((H 68 1 = 0 ∧ b = 0) ∨ (¬ H 68 1 = 0 ∧ yOk (H 67 0) (H 67 1) (H 68) ∧ mpK (H 67 0) (H 67 1) (H 68) (H 68 1).toNat h1 ∧ b = (if yR (H 67 0) (H 67 1) (H 68) (H 68 1).toNat (H 68 5) = -1 then 0 else 1)))) ∧ (b = 0 ∨ b = 1) → Q b h1) : xc X d 105 [(2, 67)] H Q := by
  cases d with
  | zero => omega
  | succ d =>
  have nn := hg.nn
  have ww := hg.ww
  have lyb := hg.lyb
  have bnd := hg.bnd
  have stc := hg.stc
  obtain ⟨M, hM⟩ : ∃ M : Nat, (H 68 1).toNat = M := ⟨_, rfl⟩
  have hM1 : (M : Int) = H 68 1 := by omega
  rw [hM] at hQ
  -- layers, from the last on
  have keyL : yOk (H 67 0) (H 67 1) (H 68) → ¬ H 68 1 = 0 → ∀ (j : Nat) (h : XH), j ≤ M → frM H h → mpK (H 67 0) (H 67 1) (H 68) (M - j) h → xq X d 105 Q 129 [(0, (2, 67)), (2, (0, (j : Int) - 1))] [] h := by
    intro hy m0 j
    induction j with
    | zero =>
      intro h hj f hk
      have a8 := frM_o f 68 (by decide) (by decide)
      rw [Nat.sub_zero] at hk
      have e81 := (hk.2.2 M (Nat.le_refl _) (H 68 5) stc.1 stc.2).1
      rw [show 64 * (H 68 1 - (M : Int)) + H 68 5 = H 68 5 by omega] at e81
      have yr := yR_rng hg hy M (by omega) (f := H 68 5) (by omega) stc.2
      unfold mpL at e81
      refine U_105_129 (by omega) _ h ?_
      rw [a8, e81]
      refine ⟨fun c1 => ?_, fun c1 => ?_⟩
      · skip
        refine ⟨?_, ?_⟩
        · first | omega | (unfold xI; omega) | (exfalso; omega)
        refine ⟨fun c2 => ?_, fun c2 => ?_⟩
        · skip
          split at c2
          · next q => exact hQ 0 h ⟨⟨f, Or.inr ⟨m0, hy, hk, by rw [if_pos q]⟩⟩, Or.inl rfl⟩
          · exfalso
            omega
        · skip
          split at c2
          · exact absurd (by decide) c2
          · next q => exact hQ 1 h ⟨⟨f, Or.inr ⟨m0, hy, hk, by rw [if_neg q]⟩⟩, Or.inr rfl⟩
      · skip
        exfalso
        omega
    | succ j ih =>
      intro h hj f hk
      obtain ⟨K, hK⟩ : ∃ K : Nat, M - (j + 1) = K := ⟨_, rfl⟩
      rw [hK] at hk
      have hl : (j : Int) = H 68 1 - ((K + 1 : Nat) : Int) := by omega
      have keyF : ∀ (k : Nat) (x : Int) (h' : XH), x + k = H 67 1 → 0 ≤ x → frM H h' → mpK (H 67 0) (H 67 1) (H 68) K h' → (∀ e, 0 ≤ e → e < x → h' 81 (64 * (j : Int) + e) = mpL (yR (H 67 0) (H 67 1) (H 68) (K + 1) e) ∧ h' 82 (64 * (j : Int) + e) = yW (H 67 0) (H 67 1) (H 68) (K + 1) e) → xq X d 105 Q 135 [(0, (2, 67)), (2, (0, (j : Int))), (3, (0, x))] [] h' := by
        intro k
        induction k with
        | zero =>
          intro x h' hx x0 f' hk' he
          have a1 := f'.2 1 (by decide)
          refine U_105_135 (by omega) (j : Int) x h' ?_
          rw [a1]
          refine ⟨fun c1 => ?_, fun c1 => ?_⟩
          · skip
            refine ⟨?_, ?_⟩
            · first | omega | (unfold xI; omega) | (exfalso; omega)
            refine ih h' (by omega) f' ⟨hk'.1, hk'.2.1, fun i hi2 e e0 e1 => ?_⟩
            by_cases q : i = K + 1
            · rw [q, ← hl]
              exact he e e0 (by omega)
            · exact hk'.2.2 i (by omega) e e0 e1
          · skip
            refine ⟨?_, ?_⟩
            · first | omega | (unfold xI; omega) | (exfalso; omega)
            refine ⟨?_, ?_⟩
            · first | omega | (unfold xI; omega) | (exfalso; omega)
            refine ⟨?_, ?_⟩
            · first | omega | (unfold xI; omega) | (exfalso; omega)
            refine ⟨?_, ?_⟩
            · first | omega | (unfold xI; omega) | (exfalso; omega)
            refine ⟨?_, ?_⟩
            · first | omega | (unfold xI; omega) | (exfalso; omega)
            refine ⟨?_, ?_⟩
            · first | omega | (unfold xI; omega) | (exfalso; omega)
            exfalso
            omega
        | succ k ihk =>
          intro x h' hx x0 f' hk' he
          have a1 := f'.2 1 (by decide)
          have keyC : ∀ (k' : Nat) (c : Nat) (h2 : XH), (c : Int) + k' = H 67 1 → frM H h2 → mpK (H 67 0) (H 67 1) (H 68) K h2 → (∀ e, 0 ≤ e → e < x → h2 81 (64 * (j : Int) + e) = mpL (yR (H 67 0) (H 67 1) (H 68) (K + 1) e) ∧ h2 82 (64 * (j : Int) + e) = yW (H 67 0) (H 67 1) (H 68) (K + 1) e) → h2 81 (64 * (j : Int) + x) = mpL (mnR (yT (H 67 0) (H 67 1) (H 68) K x) c) → h2 82 (64 * (j : Int) + x) = stR (yT (H 67 0) (H 67 1) (H 68) K x) (yW (H 67 0) (H 67 1) (H 68) K) c → xq X d 105 Q 171 [(0, (2, 67)), (2, (0, (j : Int))), (3, (0, x)), (4, (0, (c : Int)))] [] h2 := by
            intro k'
            induction k' with
            | zero =>
              intro c h2 hc f2 hk2 he2 h81 h82
              have b1 := f2.2 1 (by decide)
              have ec : c = (H 67 1).toNat := by omega
              rw [ec] at h81 h82
              refine U_105_171 (by omega) (j : Int) x (c : Int) h2 ?_
              rw [b1]
              refine ⟨fun c1 => ?_, fun c1 => ?_⟩
              · skip
                refine ⟨?_, ?_⟩
                · first | omega | (unfold xI; omega) | (exfalso; omega)
                refine ihk (x + 1) h2 (by omega) (by omega) f2 hk2 (fun e e0 e1 => ?_)
                by_cases q : e = x
                · rw [q]
                  exact ⟨h81, h82⟩
                · exact he2 e e0 (by omega)
              · skip
                refine ⟨?_, ?_⟩
                · first | omega | (unfold xI; omega) | (exfalso; omega)
                refine ⟨?_, ?_⟩
                · first | omega | (unfold xI; omega) | (exfalso; omega)
                refine ⟨?_, ?_⟩
                · first | omega | (unfold xI; omega) | (exfalso; omega)
                refine ⟨fun c2 => ?_, fun c2 => ?_⟩
                · skip
                  refine ⟨?_, ?_⟩
                  · first | omega | (unfold xI; omega) | (exfalso; omega)
                  refine ⟨?_, ?_⟩
                  · first | omega | (unfold xI; omega) | (exfalso; omega)
                  refine ⟨?_, ?_⟩
                  · first | omega | (unfold xI; omega) | (exfalso; omega)
                  refine ⟨?_, ?_⟩
                  · first | omega | (unfold xI; omega) | (exfalso; omega)
                  refine ⟨?_, ?_⟩
                  · first | omega | (unfold xI; omega) | (exfalso; omega)
                  refine ⟨?_, ?_⟩
                  · first | omega | (unfold xI; omega) | (exfalso; omega)
                  refine ⟨?_, ?_⟩
                  · first | omega | (unfold xI; omega) | (exfalso; omega)
                  refine ⟨?_, ?_⟩
                  · first | omega | (unfold xI; omega) | (exfalso; omega)
                  refine ⟨?_, ?_⟩
                  · first | omega | (unfold xI; omega) | (exfalso; omega)
                  refine ⟨?_, ?_⟩
                  · first | omega | (unfold xI; omega) | (exfalso; omega)
                  refine ⟨?_, ?_⟩
                  · first | omega | (unfold xI; omega) | (exfalso; omega)
                  refine ⟨?_, ?_⟩
                  · first | omega | (unfold xI; omega) | (exfalso; omega)
                  refine ⟨?_, ?_⟩
                  · first | omega | (unfold xI; omega) | (exfalso; omega)
                  refine ⟨?_, ?_⟩
                  · first | omega | (unfold xI; omega) | (exfalso; omega)
                  refine ⟨?_, ?_⟩
                  · first | omega | (unfold xI; omega) | (exfalso; omega)
                  refine ⟨?_, ?_⟩
                  · first | omega | (unfold xI; omega) | (exfalso; omega)
                  refine ⟨?_, ?_⟩
                  · first | omega | (unfold xI; omega) | (exfalso; omega)
                  refine ⟨?_, ?_⟩
                  · first | omega | (unfold xI; omega) | (exfalso; omega)
                  refine ⟨?_, ?_⟩
                  · first | omega | (unfold xI; omega) | (exfalso; omega)
                  refine ⟨?_, ?_⟩
                  · first | omega | (unfold xI; omega) | (exfalso; omega)
                  refine ⟨?_, ?_⟩
                  · first | omega | (unfold xI; omega) | (exfalso; omega)
                  refine ⟨?_, ?_⟩
                  · first | omega | (unfold xI; omega) | (exfalso; omega)
                  refine ⟨?_, ?_⟩
                  · first | omega | (unfold xI; omega) | (exfalso; omega)
                  refine ⟨?_, ?_⟩
                  · first | omega | (unfold xI; omega) | (exfalso; omega)
                  exfalso
                  omega
                · skip
                  refine ⟨?_, ?_⟩
                  · first | omega | (unfold xI; omega) | (exfalso; omega)
                  exfalso
                  omega
            | succ k' ihc =>
              intro c h2 hc f2 hk2 he2 h81 h82
              have b1 := f2.2 1 (by decide)
              have b8 := frM_o f2 68 (by decide) (by decide)
              have b87 := congrFun b8 7
              have gg := mp_go (k := K) hg hy (by omega) ⟨hk2.1, hk2.2.1, fun e e0 e1 => (hk2.2.2 K (Nat.le_refl _) e e0 e1).1⟩ hl (f := x) (c := (c : Int)) x0 (by omega) (by omega) (by omega) b87
              have e82 := (hk2.2.2 K (Nat.le_refl _) (c : Int) (by omega) (by omega)).2
              rw [show 64 * (H 68 1 - (K : Int)) + (c : Int) = 64 * (j : Int) + 64 + (c : Int) by omega] at e82
              have wr := yW_rng (H 67 0) (H 67 1) (H 68) K (c : Int)
              have sr := stR_rng (t := yT (H 67 0) (H 67 1) (H 68) K x) (v := yW (H 67 0) (H 67 1) (H 68) K) c (fun e _ _ => (yW_rng (H 67 0) (H 67 1) (H 68) K e).1)
              have tr := yT_rng hg hy K (by omega) x (by omega) (by omega)
              have mr := mnR_rng (ct := yT (H 67 0) (H 67 1) (H 68) K x) (M := 7400 * ((K : Int) + 1)) (by omega) (j := c) (fun e e0 e1 => tr.1 e e0 (by omega))
              have tc := tr.1 (c : Int) (by omega) (by omega)
              have sB : mnR (yT (H 67 0) (H 67 1) (H 68) K x) (c + 1) = if yT (H 67 0) (H 67 1) (H 68) K x (c : Int) = -1 then mnR (yT (H 67 0) (H 67 1) (H 68) K x) c else if mnR (yT (H 67 0) (H 67 1) (H 68) K x) c = -1 ∨ yT (H 67 0) (H 67 1) (H 68) K x (c : Int) < mnR (yT (H 67 0) (H 67 1) (H 68) K x) c then yT (H 67 0) (H 67 1) (H 68) K x (c : Int) else mnR (yT (H 67 0) (H 67 1) (H 68) K x) c := rfl
              have sS : stR (yT (H 67 0) (H 67 1) (H 68) K x) (yW (H 67 0) (H 67 1) (H 68) K) (c + 1) = if yT (H 67 0) (H 67 1) (H 68) K x (c : Int) = -1 then stR (yT (H 67 0) (H 67 1) (H 68) K x) (yW (H 67 0) (H 67 1) (H 68) K) c else saT (stR (yT (H 67 0) (H 67 1) (H 68) K x) (yW (H 67 0) (H 67 1) (H 68) K) c + yW (H 67 0) (H 67 1) (H 68) K (c : Int)) := rfl
              have nx := ihc (c + 1)
              rw [sB, sS] at nx
              generalize mnR (yT (H 67 0) (H 67 1) (H 68) K x) c = R at *
              generalize stR (yT (H 67 0) (H 67 1) (H 68) K x) (yW (H 67 0) (H 67 1) (H 68) K) c = S at *
              generalize yT (H 67 0) (H 67 1) (H 68) K x (c : Int) = T at *
              generalize yW (H 67 0) (H 67 1) (H 68) K (c : Int) = V at *
              refine U_105_171 (by omega) (j : Int) x (c : Int) h2 ?_
              rw [b1]
              refine ⟨fun c1 => ?_, fun c1 => ?_⟩
              · skip
                refine ⟨?_, ?_⟩
                · first | omega | (exact (gg.2 (gg.1.mp (by assumption))).1) | (exact (gg.2 (gg.1.mp (by assumption))).2.1) | (exact (gg.2 (gg.1.mp (by assumption))).2.2.1) | (rw [h82, e82]; unfold xI; omega) | (unfold xI; omega) | (exfalso; omega)
                exfalso
                omega
              · skip
                refine ⟨?_, ?_⟩
                · first | omega | (exact (gg.2 (gg.1.mp (by assumption))).1) | (exact (gg.2 (gg.1.mp (by assumption))).2.1) | (exact (gg.2 (gg.1.mp (by assumption))).2.2.1) | (rw [h82, e82]; unfold xI; omega) | (unfold xI; omega) | (exfalso; omega)
                refine ⟨?_, ?_⟩
                · first | omega | (exact (gg.2 (gg.1.mp (by assumption))).1) | (exact (gg.2 (gg.1.mp (by assumption))).2.1) | (exact (gg.2 (gg.1.mp (by assumption))).2.2.1) | (rw [h82, e82]; unfold xI; omega) | (unfold xI; omega) | (exfalso; omega)
                refine ⟨?_, ?_⟩
                · first | omega | (exact (gg.2 (gg.1.mp (by assumption))).1) | (exact (gg.2 (gg.1.mp (by assumption))).2.1) | (exact (gg.2 (gg.1.mp (by assumption))).2.2.1) | (rw [h82, e82]; unfold xI; omega) | (unfold xI; omega) | (exfalso; omega)
                refine ⟨fun c2 => ?_, fun c2 => ?_⟩
                · skip
                  refine ⟨?_, ?_⟩
                  · first | omega | (exact (gg.2 (gg.1.mp (by assumption))).1) | (exact (gg.2 (gg.1.mp (by assumption))).2.1) | (exact (gg.2 (gg.1.mp (by assumption))).2.2.1) | (rw [h82, e82]; unfold xI; omega) | (unfold xI; omega) | (exfalso; omega)
                  refine ⟨?_, ?_⟩
                  · first | omega | (exact (gg.2 (gg.1.mp (by assumption))).1) | (exact (gg.2 (gg.1.mp (by assumption))).2.1) | (exact (gg.2 (gg.1.mp (by assumption))).2.2.1) | (rw [h82, e82]; unfold xI; omega) | (unfold xI; omega) | (exfalso; omega)
                  refine ⟨?_, ?_⟩
                  · first | omega | (exact (gg.2 (gg.1.mp (by assumption))).1) | (exact (gg.2 (gg.1.mp (by assumption))).2.1) | (exact (gg.2 (gg.1.mp (by assumption))).2.2.1) | (rw [h82, e82]; unfold xI; omega) | (unfold xI; omega) | (exfalso; omega)
                  refine ⟨?_, ?_⟩
                  · first | omega | (exact (gg.2 (gg.1.mp (by assumption))).1) | (exact (gg.2 (gg.1.mp (by assumption))).2.1) | (exact (gg.2 (gg.1.mp (by assumption))).2.2.1) | (rw [h82, e82]; unfold xI; omega) | (unfold xI; omega) | (exfalso; omega)
                  refine ⟨?_, ?_⟩
                  · first | omega | (exact (gg.2 (gg.1.mp (by assumption))).1) | (exact (gg.2 (gg.1.mp (by assumption))).2.1) | (exact (gg.2 (gg.1.mp (by assumption))).2.2.1) | (rw [h82, e82]; unfold xI; omega) | (unfold xI; omega) | (exfalso; omega)
                  refine ⟨?_, ?_⟩
                  · first | omega | (exact (gg.2 (gg.1.mp (by assumption))).1) | (exact (gg.2 (gg.1.mp (by assumption))).2.1) | (exact (gg.2 (gg.1.mp (by assumption))).2.2.1) | (rw [h82, e82]; unfold xI; omega) | (unfold xI; omega) | (exfalso; omega)
                  refine ⟨?_, ?_⟩
                  · first | omega | (exact (gg.2 (gg.1.mp (by assumption))).1) | (exact (gg.2 (gg.1.mp (by assumption))).2.1) | (exact (gg.2 (gg.1.mp (by assumption))).2.2.1) | (rw [h82, e82]; unfold xI; omega) | (unfold xI; omega) | (exfalso; omega)
                  refine ⟨?_, ?_⟩
                  · first | omega | (exact (gg.2 (gg.1.mp (by assumption))).1) | (exact (gg.2 (gg.1.mp (by assumption))).2.1) | (exact (gg.2 (gg.1.mp (by assumption))).2.2.1) | (rw [h82, e82]; unfold xI; omega) | (unfold xI; omega) | (exfalso; omega)
                  refine ⟨?_, ?_⟩
                  · first | omega | (exact (gg.2 (gg.1.mp (by assumption))).1) | (exact (gg.2 (gg.1.mp (by assumption))).2.1) | (exact (gg.2 (gg.1.mp (by assumption))).2.2.1) | (rw [h82, e82]; unfold xI; omega) | (unfold xI; omega) | (exfalso; omega)
                  refine ⟨?_, ?_⟩
                  · first | omega | (exact (gg.2 (gg.1.mp (by assumption))).1) | (exact (gg.2 (gg.1.mp (by assumption))).2.1) | (exact (gg.2 (gg.1.mp (by assumption))).2.2.1) | (rw [h82, e82]; unfold xI; omega) | (unfold xI; omega) | (exfalso; omega)
                  refine ⟨?_, ?_⟩
                  · first | omega | (exact (gg.2 (gg.1.mp (by assumption))).1) | (exact (gg.2 (gg.1.mp (by assumption))).2.1) | (exact (gg.2 (gg.1.mp (by assumption))).2.2.1) | (rw [h82, e82]; unfold xI; omega) | (unfold xI; omega) | (exfalso; omega)
                  refine ⟨?_, ?_⟩
                  · first | omega | (exact (gg.2 (gg.1.mp (by assumption))).1) | (exact (gg.2 (gg.1.mp (by assumption))).2.1) | (exact (gg.2 (gg.1.mp (by assumption))).2.2.1) | (rw [h82, e82]; unfold xI; omega) | (unfold xI; omega) | (exfalso; omega)
                  refine ⟨?_, ?_⟩
                  · first | omega | (exact (gg.2 (gg.1.mp (by assumption))).1) | (exact (gg.2 (gg.1.mp (by assumption))).2.1) | (exact (gg.2 (gg.1.mp (by assumption))).2.2.1) | (rw [h82, e82]; unfold xI; omega) | (unfold xI; omega) | (exfalso; omega)
                  refine ⟨?_, ?_⟩
                  · first | omega | (exact (gg.2 (gg.1.mp (by assumption))).1) | (exact (gg.2 (gg.1.mp (by assumption))).2.1) | (exact (gg.2 (gg.1.mp (by assumption))).2.2.1) | (rw [h82, e82]; unfold xI; omega) | (unfold xI; omega) | (exfalso; omega)
                  refine ⟨?_, ?_⟩
                  · first | omega | (exact (gg.2 (gg.1.mp (by assumption))).1) | (exact (gg.2 (gg.1.mp (by assumption))).2.1) | (exact (gg.2 (gg.1.mp (by assumption))).2.2.1) | (rw [h82, e82]; unfold xI; omega) | (unfold xI; omega) | (exfalso; omega)
                  refine ⟨?_, ?_⟩
                  · first | omega | (exact (gg.2 (gg.1.mp (by assumption))).1) | (exact (gg.2 (gg.1.mp (by assumption))).2.1) | (exact (gg.2 (gg.1.mp (by assumption))).2.2.1) | (rw [h82, e82]; unfold xI; omega) | (unfold xI; omega) | (exfalso; omega)
                  refine ⟨?_, ?_⟩
                  · first | omega | (exact (gg.2 (gg.1.mp (by assumption))).1) | (exact (gg.2 (gg.1.mp (by assumption))).2.1) | (exact (gg.2 (gg.1.mp (by assumption))).2.2.1) | (rw [h82, e82]; unfold xI; omega) | (unfold xI; omega) | (exfalso; omega)
                  refine ⟨?_, ?_⟩
                  · first | omega | (exact (gg.2 (gg.1.mp (by assumption))).1) | (exact (gg.2 (gg.1.mp (by assumption))).2.1) | (exact (gg.2 (gg.1.mp (by assumption))).2.2.1) | (rw [h82, e82]; unfold xI; omega) | (unfold xI; omega) | (exfalso; omega)
                  refine ⟨?_, ?_⟩
                  · first | omega | (exact (gg.2 (gg.1.mp (by assumption))).1) | (exact (gg.2 (gg.1.mp (by assumption))).2.1) | (exact (gg.2 (gg.1.mp (by assumption))).2.2.1) | (rw [h82, e82]; unfold xI; omega) | (unfold xI; omega) | (exfalso; omega)
                  refine ⟨?_, ?_⟩
                  · first | omega | (exact (gg.2 (gg.1.mp (by assumption))).1) | (exact (gg.2 (gg.1.mp (by assumption))).2.1) | (exact (gg.2 (gg.1.mp (by assumption))).2.2.1) | (rw [h82, e82]; unfold xI; omega) | (unfold xI; omega) | (exfalso; omega)
                  refine ⟨?_, ?_⟩
                  · first | omega | (exact (gg.2 (gg.1.mp (by assumption))).1) | (exact (gg.2 (gg.1.mp (by assumption))).2.1) | (exact (gg.2 (gg.1.mp (by assumption))).2.2.1) | (rw [h82, e82]; unfold xI; omega) | (unfold xI; omega) | (exfalso; omega)
                  refine ⟨?_, ?_⟩
                  · first | omega | (exact (gg.2 (gg.1.mp (by assumption))).1) | (exact (gg.2 (gg.1.mp (by assumption))).2.1) | (exact (gg.2 (gg.1.mp (by assumption))).2.2.1) | (rw [h82, e82]; unfold xI; omega) | (unfold xI; omega) | (exfalso; omega)
                  refine ⟨?_, ?_⟩
                  · first | omega | (exact (gg.2 (gg.1.mp (by assumption))).1) | (exact (gg.2 (gg.1.mp (by assumption))).2.1) | (exact (gg.2 (gg.1.mp (by assumption))).2.2.1) | (rw [h82, e82]; unfold xI; omega) | (unfold xI; omega) | (exfalso; omega)
                  refine ⟨?_, ?_⟩
                  · first | omega | (exact (gg.2 (gg.1.mp (by assumption))).1) | (exact (gg.2 (gg.1.mp (by assumption))).2.1) | (exact (gg.2 (gg.1.mp (by assumption))).2.2.1) | (rw [h82, e82]; unfold xI; omega) | (unfold xI; omega) | (exfalso; omega)
                  have t1 : ¬ T = -1 := gg.1.mp (by assumption)
                  have t2 := (gg.2 t1).2.2.2
                  rw [t2, h81, h82, e82]
                  have v1 : (if T ≤ mpL R then T else mpL R) = mpL (if R = -1 ∨ T < R then T else R) := by
                    unfold mpL
                    repeat' split
                    all_goals omega
                  have v2 : (if S + V ≤ 1000000 then S + V else 1000000) = saT (S + V) := rfl
                  rw [v1, v2]
                  rw [if_neg t1, if_neg t1] at nx
                  refine nx _ (by omega) (frM_up (frM_up f2 (by decide)) (by decide)) ⟨hk2.1, hk2.2.1, fun i hi2 e e0 e1 => ?_⟩ (fun e e0 e1 => ?_) ?_ ?_
                  · rw [xup_ne (by decide), xup_k (by omega), xup_k (by omega), xup_ne (by decide)]
                    exact hk2.2.2 i hi2 e e0 e1
                  · rw [xup_ne (by decide), xup_k (by omega), xup_k (by omega), xup_ne (by decide)]
                    exact he2 e e0 e1
                  · rw [xup_ne (by decide), xup_self]
                  · rw [xup_self]
                · skip
                  refine ⟨?_, ?_⟩
                  · first | omega | (exact (gg.2 (gg.1.mp (by assumption))).1) | (exact (gg.2 (gg.1.mp (by assumption))).2.1) | (exact (gg.2 (gg.1.mp (by assumption))).2.2.1) | (rw [h82, e82]; unfold xI; omega) | (unfold xI; omega) | (exfalso; omega)
                  have t1 : T = -1 := Decidable.byContradiction (fun q => absurd (gg.1.mpr q) (by assumption))
                  rw [if_pos t1, if_pos t1] at nx
                  exact nx h2 (by omega) f2 hk2 he2 h81 h82
          have z := keyC (H 67 1).toNat 0 (xup (xup h' 81 (64 * (j : Int) + x) 1000000000) 82 (64 * (j : Int) + x) 0) (by omega) (frM_up (frM_up f' (by decide)) (by decide)) ⟨hk'.1, hk'.2.1, fun i hi2 e e0 e1 => by
            rw [xup_ne (by decide), xup_k (by omega), xup_k (by omega), xup_ne (by decide)]
            exact hk'.2.2 i hi2 e e0 e1⟩ (fun e e0 e1 => by
            rw [xup_ne (by decide), xup_k (by omega), xup_k (by omega), xup_ne (by decide)]
            exact he e e0 e1) (by rw [xup_ne (by decide), xup_self]; rfl) (by rw [xup_self]; rfl)
          refine U_105_135 (by omega) (j : Int) x h' ?_
          rw [a1]
          refine ⟨fun c1 => ?_, fun c1 => ?_⟩
          · skip
            refine ⟨?_, ?_⟩
            · first | omega | (unfold xI; omega) | (exfalso; omega)
            exfalso
            omega
          · skip
            refine ⟨?_, ?_⟩
            · first | omega | (unfold xI; omega) | (exfalso; omega)
            refine ⟨?_, ?_⟩
            · first | omega | (unfold xI; omega) | (exfalso; omega)
            refine ⟨?_, ?_⟩
            · first | omega | (unfold xI; omega) | (exfalso; omega)
            refine ⟨?_, ?_⟩
            · first | omega | (unfold xI; omega) | (exfalso; omega)
            refine ⟨?_, ?_⟩
            · first | omega | (unfold xI; omega) | (exfalso; omega)
            refine ⟨?_, ?_⟩
            · first | omega | (unfold xI; omega) | (exfalso; omega)
            exact z
      have z := keyF (H 67 1).toNat 0 h (by omega) (by decide) f hk (fun e e0 e1 => by omega)
      rw [show ((j + 1 : Nat) : Int) - 1 = (j : Int) by omega]
      refine U_105_129 (by omega) (j : Int) h ?_
      refine ⟨fun c1 => ?_, fun c1 => ?_⟩
      · skip
        refine ⟨?_, ?_⟩
        · first | omega | (unfold xI; omega) | (exfalso; omega)
        refine ⟨fun c2 => ?_, fun c2 => ?_⟩
        · skip
          exfalso
          omega
        · skip
          exfalso
          omega
      · skip
        exact z
  -- the row behind the last layer, and how far all are
  have keyA : yOk (H 67 0) (H 67 1) (H 68) → ¬ H 68 1 = 0 → ∀ (k : Nat) (c : Int) (h : XH), c + k = H 67 1 → 0 ≤ c → frM H h → mpD (H 67 0) (H 67 1) (H 68) (h 80) → (∀ e, 0 ≤ e → e < c → (h 81 (64 * H 68 1 + e) = 0 ∧ h 82 (64 * H 68 1 + e) = 1) ∧ ∀ l, 0 ≤ l → l < H 68 1 → h 83 (64 * l + e) = mpF (H 67 0) (H 67 1) (H 68) l e) → xq X d 105 Q 19 [(0, (2, 67)), (1, (0, H 68 1)), (2, (0, c))] [] h := by
    intro hy m0 k
    induction k with
    | zero =>
      intro c h hc c0 f hD he
      have a1 := f.2 1 (by decide)
      have z := keyL hy m0 M h (Nat.le_refl _) f ⟨hD, fun l e l0 l1 e0 e1 => (he e e0 (by omega)).2 l l0 l1, fun i hi2 e e0 e1 => by
        have i0 : i = 0 := by omega
        rw [i0, show H 68 1 - ((0 : Nat) : Int) = H 68 1 by omega]
        exact (he e e0 (by omega)).1⟩
      rw [hM1] at z
      refine U_105_19 (by omega) (H 68 1) c h ?_
      rw [a1]
      refine ⟨fun c1 => ?_, fun c1 => ?_⟩
      · skip
        refine ⟨?_, ?_⟩
        · first | omega | (unfold xI; omega) | (exfalso; omega)
        exact z
      · skip
        refine ⟨?_, ?_⟩
        · first | omega | (unfold xI; omega) | (exfalso; omega)
        refine ⟨?_, ?_⟩
        · first | omega | (unfold xI; omega) | (exfalso; omega)
        refine ⟨?_, ?_⟩
        · first | omega | (unfold xI; omega) | (exfalso; omega)
        refine ⟨?_, ?_⟩
        · first | omega | (unfold xI; omega) | (exfalso; omega)
        refine ⟨?_, ?_⟩
        · first | omega | (unfold xI; omega) | (exfalso; omega)
        refine ⟨?_, ?_⟩
        · first | omega | (unfold xI; omega) | (exfalso; omega)
        exfalso
        omega
    | succ k ih =>
      intro c h hc c0 f hD he
      have a1 := f.2 1 (by decide)
      have keyI : ∀ (k' : Nat) (l : Int) (h' : XH), l + k' = H 68 1 → 0 ≤ l → frM H h' → mpD (H 67 0) (H 67 1) (H 68) (h' 80) → (∀ e, 0 ≤ e → e < c → (h' 81 (64 * H 68 1 + e) = 0 ∧ h' 82 (64 * H 68 1 + e) = 1) ∧ ∀ l, 0 ≤ l → l < H 68 1 → h' 83 (64 * l + e) = mpF (H 67 0) (H 67 1) (H 68) l e) → h' 81 (64 * H 68 1 + c) = 0 → h' 82 (64 * H 68 1 + c) = 1 → (∀ l', 0 ≤ l' → l' < l → h' 83 (64 * l' + c) = mpF (H 67 0) (H 67 1) (H 68) l' c) → xq X d 105 Q 53 [(0, (2, 67)), (1, (0, H 68 1)), (2, (0, c)), (3, (0, l))] [] h' := by
        intro k'
        induction k' with
        | zero =>
          intro l h' hl l0 f' hD' he' h81 h82 hj
          refine U_105_53 (by omega) (H 68 1) c l h' ?_
          refine ⟨fun c1 => ?_, fun c1 => ?_⟩
          · skip
            refine ⟨?_, ?_⟩
            · first | omega | (unfold xI; omega) | (exfalso; omega)
            refine ih (c + 1) h' (by omega) (by omega) f' hD' (fun e e0 e1 => ?_)
            by_cases q : e = c
            · rw [q]
              exact ⟨⟨h81, h82⟩, fun l' x y => hj l' x (by omega)⟩
            · exact he' e e0 (by omega)
          · skip
            refine ⟨?_, ?_⟩
            · first | omega | (unfold xI; omega) | (exfalso; omega)
            refine ⟨?_, ?_⟩
            · first | omega | (unfold xI; omega) | (exfalso; omega)
            refine ⟨?_, ?_⟩
            · first | omega | (unfold xI; omega) | (exfalso; omega)
            intro h390 c2
            refine ⟨?_, ?_⟩
            · first | omega | (unfold xI; omega) | (exfalso; omega)
            refine ⟨?_, ?_⟩
            · first | omega | (unfold xI; omega) | (exfalso; omega)
            refine ⟨fun c3 => ?_, fun c3 => ?_⟩
            · skip
              refine ⟨?_, ?_⟩
              · first | omega | (unfold xI; omega) | (exfalso; omega)
              refine ⟨?_, ?_⟩
              · first | omega | (unfold xI; omega) | (exfalso; omega)
              exfalso
              omega
            · skip
              refine ⟨fun c4 => ?_, fun c4 => ?_⟩
              · skip
                refine ⟨?_, ?_⟩
                · first | omega | (unfold xI; omega) | (exfalso; omega)
                refine ⟨?_, ?_⟩
                · first | omega | (unfold xI; omega) | (exfalso; omega)
                exfalso
                omega
              · skip
                refine ⟨?_, ?_⟩
                · first | omega | (unfold xI; omega) | (exfalso; omega)
                refine ⟨?_, ?_⟩
                · first | omega | (unfold xI; omega) | (exfalso; omega)
                refine ⟨fun c5 => ?_, fun c5 => ?_⟩
                · skip
                  refine ⟨?_, ?_⟩
                  · first | omega | (unfold xI; omega) | (exfalso; omega)
                  refine ⟨?_, ?_⟩
                  · first | omega | (unfold xI; omega) | (exfalso; omega)
                  exfalso
                  omega
                · skip
                  refine ⟨?_, ?_⟩
                  · first | omega | (unfold xI; omega) | (exfalso; omega)
                  refine ⟨?_, ?_⟩
                  · first | omega | (unfold xI; omega) | (exfalso; omega)
                  exfalso
                  omega
        | succ k' ihk =>
          intro l h' hl l0 f' hD' he' h81 h82 hj
          have b0 := f'.2 0 (by decide)
          have b1 := f'.2 1 (by decide)
          have b8 := frM_o f' 68 (by decide) (by decide)
          have nx : ∀ (x : Int) (h2 : XH), frF h' h2 → x = mpF (H 67 0) (H 67 1) (H 68) l c → xq X d 105 Q 53 [(0, (2, 67)), (1, (0, H 68 1)), (2, (0, c)), (3, (0, l + 1))] [] (xup h2 83 (64 * l + c) x) := fun x h2 f2 hx => by
            have g80 := f2.1 80 (by decide) (by decide)
            have g81 := f2.1 81 (by decide) (by decide)
            have g82 := f2.1 82 (by decide) (by decide)
            have g83 := f2.1 83 (by decide) (by decide)
            refine ihk (l + 1) _ (by omega) (by omega) (frM_up (frM_trans f' (frF_M f2)) (by decide)) ?_ (fun e e0 e1 => ⟨?_, fun l' x0 y0 => ?_⟩) ?_ ?_ (fun l' x0 y0 => ?_)
            · rw [xup_ne (by decide), g80]
              exact hD'
            · rw [xup_ne (by decide), xup_ne (by decide), g81, g82]
              exact (he' e e0 e1).1
            · rw [xup_k (by omega), g83]
              exact (he' e e0 e1).2 l' x0 y0
            · rw [xup_ne (by decide), g81]
              exact h81
            · rw [xup_ne (by decide), g82]
              exact h82
            · by_cases q : l' = l
              · rw [q, xup_self]
                exact hx
              · rw [xup_k (by omega), g83]
                exact hj l' x0 (by omega)
          have fr := frV_rng hg (l := l) (c := c) (by omega)
          have al : alB (H 67 0) (H 67 1) (H 68) l c = if ¬ frV (H 67 0) (H 67 1) (H 68) l c = -1 ∧ frV (H 67 0) (H 67 1) (H 68) l c ≤ H 68 6 then 1 else 0 := rfl
          have no : (frV (H 67 0) (H 67 1) (H 68) l c = -1 ∨ H 68 6 < frV (H 67 0) (H 67 1) (H 68) l c ∨ ¬ H 68 (20 + c) = 0) → -1 = mpF (H 67 0) (H 67 1) (H 68) l c := fun q => by
            unfold mpF
            by_cases z : ¬ frV (H 67 0) (H 67 1) (H 68) l c = -1 ∧ frV (H 67 0) (H 67 1) (H 68) l c ≤ H 68 6
            · rw [al, if_pos z, if_neg (by omega)]
            · rw [al, if_neg z, if_neg (fun y => y.1 rfl)]
          have yes : ¬ (frV (H 67 0) (H 67 1) (H 68) l c = -1 ∨ H 68 6 < frV (H 67 0) (H 67 1) (H 68) l c ∨ ¬ H 68 (20 + c) = 0) → frV (H 67 0) (H 67 1) (H 68) l c = mpF (H 67 0) (H 67 1) (H 68) l c := fun q => by
            unfold mpF
            rw [al, if_pos (show ¬ frV (H 67 0) (H 67 1) (H 68) l c = -1 ∧ frV (H 67 0) (H 67 1) (H 68) l c ≤ H 68 6 by omega), if_pos (by omega)]
          refine U_105_53 (by omega) (H 68 1) c l h' ?_
          rw [b0, b1, b8]
          refine ⟨fun c1 => ?_, fun c1 => ?_⟩
          · skip
            refine ⟨?_, ?_⟩
            · first | omega | exact hg | (unfold xI; omega) | (exfalso; omega)
            exfalso
            omega
          · skip
            refine ⟨?_, ?_⟩
            · first | omega | exact hg | (unfold xI; omega) | (exfalso; omega)
            refine ⟨?_, ?_⟩
            · first | omega | exact hg | (unfold xI; omega) | (exfalso; omega)
            refine ⟨?_, ?_⟩
            · first | omega | exact hg | (unfold xI; omega) | (exfalso; omega)
            intro h392 c2
            have ff := c2
            have f68 := (ff.1 68 (by decide) (by decide)).trans b8
            refine ⟨?_, ?_⟩
            · first | omega | exact hg | (unfold xI; omega) | (exfalso; omega)
            refine ⟨?_, ?_⟩
            · first | omega | exact hg | (unfold xI; omega) | (exfalso; omega)
            refine ⟨fun c3 => ?_, fun c3 => ?_⟩
            · skip
              refine ⟨?_, ?_⟩
              · first | omega | exact hg | (unfold xI; omega) | (exfalso; omega)
              refine ⟨?_, ?_⟩
              · first | omega | exact hg | (unfold xI; omega) | (exfalso; omega)
              exact nx _ _ ff (no (Or.inl (by assumption)))
            · skip
              refine ⟨fun c4 => ?_, fun c4 => ?_⟩
              · skip
                refine ⟨?_, ?_⟩
                · first | omega | exact hg | (unfold xI; omega) | (exfalso; omega)
                refine ⟨?_, ?_⟩
                · first | omega | exact hg | (unfold xI; omega) | (exfalso; omega)
                rw [f68] at *
                exact nx _ _ ff (no (by omega))
              · skip
                refine ⟨?_, ?_⟩
                · first | omega | exact hg | (unfold xI; omega) | (exfalso; omega)
                refine ⟨?_, ?_⟩
                · first | omega | exact hg | (unfold xI; omega) | (exfalso; omega)
                refine ⟨fun c5 => ?_, fun c5 => ?_⟩
                · skip
                  refine ⟨?_, ?_⟩
                  · first | omega | exact hg | (unfold xI; omega) | (exfalso; omega)
                  refine ⟨?_, ?_⟩
                  · first | omega | exact hg | (unfold xI; omega) | (exfalso; omega)
                  rw [f68] at *
                  exact nx _ _ ff (no (by omega))
                · skip
                  refine ⟨?_, ?_⟩
                  · first | omega | exact hg | (unfold xI; omega) | (exfalso; omega)
                  refine ⟨?_, ?_⟩
                  · first | omega | exact hg | (unfold xI; omega) | (exfalso; omega)
                  rw [f68] at *
                  exact nx _ _ ff (yes (by omega))
      have z := keyI (H 68 1).toNat 0 (xup (xup h 81 (64 * H 68 1 + c) 0) 82 (64 * H 68 1 + c) 1) (by omega) (by decide) (frM_up (frM_up f (by decide)) (by decide)) hD (fun e e0 e1 => ⟨by
        rw [xup_ne (by decide), xup_k (by omega), xup_k (by omega), xup_ne (by decide)]
        exact (he e e0 e1).1, (he e e0 e1).2⟩) (by rw [xup_ne (by decide), xup_self]) (xup_self _ _ _ _) (fun l' x y => by omega)
      refine U_105_19 (by omega) (H 68 1) c h ?_
      rw [a1]
      refine ⟨fun c1 => ?_, fun c1 => ?_⟩
      · skip
        refine ⟨?_, ?_⟩
        · first | omega | (unfold xI; omega) | (exfalso; omega)
        exfalso
        omega
      · skip
        refine ⟨?_, ?_⟩
        · first | omega | (unfold xI; omega) | (exfalso; omega)
        refine ⟨?_, ?_⟩
        · first | omega | (unfold xI; omega) | (exfalso; omega)
        refine ⟨?_, ?_⟩
        · first | omega | (unfold xI; omega) | (exfalso; omega)
        refine ⟨?_, ?_⟩
        · first | omega | (unfold xI; omega) | (exfalso; omega)
        refine ⟨?_, ?_⟩
        · first | omega | (unfold xI; omega) | (exfalso; omega)
        refine ⟨?_, ?_⟩
        · first | omega | (unfold xI; omega) | (exfalso; omega)
        exact z
  refine U_105 (by omega) H ?_
  refine ⟨fun c1 => ?_, fun c1 => ?_⟩
  · skip
    refine ⟨?_, ?_⟩
    · first | omega | exact hg | (unfold xI; omega)
    intro h394 c2
    have uu := c2
    obtain ⟨u1, u2, u3⟩ := uu
    exact keyA u2 (by assumption) (H 67 1).toNat 0 _ (by omega) (by decide) ⟨fun o x y => u1 o (by omega), fun k _ => by rw [u1 67 (by decide)]⟩ u3 (fun e x y => by omega)
  · skip
    exact hQ 0 H ⟨⟨frM_refl H, Or.inl ⟨by omega, rfl⟩⟩, Or.inl rfl⟩
