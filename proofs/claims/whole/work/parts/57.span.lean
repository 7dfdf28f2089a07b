/-! THE PURE LAYER 27: span, trowel -/
def shV (am : Int → Int) (o s : Int) : Int := (1000 * am (o * 5 + s)).tdiv (sum5 am (o * 5))
def spR (P sh : Int → Int) (b : Int) : Nat → Int → Int → Int
  | 0, _, a => a
  | k + 1, o, a => spR P sh b k (o + 1) (if P o = 0 then a else if a = -1 ∨ (b = 0 ∧ sh o < a) ∨ (¬ b = 0 ∧ a < sh o) then sh o else a)
theorem spR_none {P sh : Int → Int} {b n : Int} (h : ∀ o, 0 ≤ o → o < n → P o = 0) : ∀ (k : Nat) (o a : Int), 0 ≤ o → o + k ≤ n → spR P sh b k o a = a
  | 0, _, _, _, _ => rfl
  | k + 1, o, a, h0, h1 => by
    unfold spR
    rw [if_pos (h o h0 (by omega))]
    exact spR_none h k (o + 1) a (by omega) (by omega)
theorem dug_none {w n : Int} {g : Int → Int} (hg : GOk w n g) (h : g 0 = 0) : ∀ e, 0 ≤ e → e < 64 → g (160 + e) = 0 := fun e a b => by
  have d := hg.dgs
  have k := sumTo_ge (f := fun e => g (160 + e)) (n := 64) (c := e) ⟨a, b⟩ (fun e a b => by have := hg.dgb e a b; omega)
  have := hg.dgb e a b
  omega
def spP (w n : Int) (g : Int → Int) (c o : Int) : Int := if ¬ g (160 + o) = 0 ∧ btw w c o = nrS w n (fun e => g (160 + e)) c then 1 else 0
def vSpan (w n : Int) (g : Int → Int) (c s b : Int) : Int := if (0 ≤ c ∧ c < n) ∧ (0 ≤ s ∧ s ≤ 4) then spR (spP w n g c) (fun o => shV (fun k => g (230 + k)) o s) b n.toNat 0 (-1) else -1
theorem shV_rng {w n : Int} {g : Int → Int} (hg : GOk w n g) {o s : Int} (ho : 0 ≤ o ∧ o < n) (hs : 0 ≤ s ∧ s < 5) (h : ¬ g (160 + o) = 0) : (1 ≤ sum5 (fun k => g (230 + k)) (o * 5) ∧ sum5 (fun k => g (230 + k)) (o * 5) ≤ 45) ∧ 0 ≤ shV (fun k => g (230 + k)) o s ∧ shV (fun k => g (230 + k)) o s ≤ 1000 := by
  have nn := hg.nn
  have d := hg.dgb o ho.1 (by omega)
  have a := hg.ams o ho.1 (by omega) (by omega)
  rw [Int.mul_comm] at a
  have r := sum5_rng (f := fun k => g (230 + k)) (i := o * 5) (M := 9) (fun s p q => hg.amb (o * 5 + s) (by omega) (by omega))
  have ge := sum5_ge (f := fun k => g (230 + k)) (i := o * 5) (s := s) (fun s p q => (hg.amb (o * 5 + s) (by omega) (by omega)).1) hs
  have b := hg.amb (o * 5 + s) (by omega) (by omega)
  refine ⟨⟨a, r.2⟩, ?_⟩
  unfold shV
  dsimp only
  exact tdivB (by omega) (by omega) (by omega)

theorem U_45 {X : Int × (Int → Int)} {d : Nat} {Q : Int → XH → Prop} (hd : 1 ≤ d) (c s : Int) (H : XH) (h : (xI (c * 5)) ∧ (0 ≤ c * 5 ∧ (c * 5) + 5 ≤ 320) ∧ ((320 : Int) ≤ 100000) ∧ (∀ s, 0 ≤ s → s < 5 → 0 ≤ H 3 ((c * 5) + s) ∧ H 3 ((c * 5) + s) ≤ 100000) ∧ (((1 ≤ sum5 (H 3) (c * 5)) → (xI (c * 5)) ∧ (xI ((c * 5) + s)) ∧ ((0 : Int) ≤ (c * 5) + s ∧ ((c * 5) + s : Int) < 320) ∧ (xI (1000 * (H 3 ((c * 5) + s)))) ∧ (¬ sum5 (H 3) (c * 5) = 0 ∧ xI (Int.tdiv (1000 * (H 3 ((c * 5) + s))) (sum5 (H 3) (c * 5)))) ∧ Q (Int.tdiv (1000 * (H 3 ((c * 5) + s))) (sum5 (H 3) (c * 5))) H) ∧ (¬ (1 ≤ sum5 (H 3) (c * 5)) → Q 0 H))) : xc X (d + 1) 45 [(2, 2), (0, c), (0, s)] H Q := by
  refine ⟨rfl, ?_⟩
  show xq X d 45 Q 100000 [(0, (2, 2)), (1, (0, c)), (2, (0, s))] [] H
  refine xq_run [10] 300 ?_
  show (xI (c * 5)) ∧ xWM (xE X) xMC d 36 [(2, 3), (0, c * 5)] xKZ H _
  refine ⟨h.1, ?_⟩
  replace h := h.2
  refine xc_in (s_36 (by omega) 3 (c * 5) H 320 rfl rfl (h.1) (h.2.1) (h.2.2.1) ?_)
  replace h := h.2.2.2
  show xq X d 45 Q 10 [(0, (2, 2)), (1, (0, c)), (2, (0, s))] [(0, sum5 (H 3) (c * 5))] H
  refine xq_run [10] 300 ?_
  show ((1 ≤ sum5 (H 3) (c * 5)) → (xI (c * 5)) ∧ (xI ((c * 5) + s)) ∧ ((0 : Int) ≤ (c * 5) + s ∧ ((c * 5) + s : Int) < 320) ∧ (xI (1000 * (H 3 ((c * 5) + s)))) ∧ (¬ sum5 (H 3) (c * 5) = 0 ∧ xI (Int.tdiv (1000 * (H 3 ((c * 5) + s))) (sum5 (H 3) (c * 5)))) ∧ xfR 0 (Int.tdiv (1000 * (H 3 ((c * 5) + s))) (sum5 (H 3) (c * 5))) ∧ xKZ = xKZ ∧ Q (Int.tdiv (1000 * (H 3 ((c * 5) + s))) (sum5 (H 3) (c * 5))) H) ∧ (¬ (1 ≤ sum5 (H 3) (c * 5)) → xfR 0 0 ∧ xKZ = xKZ ∧ Q 0 H)
  refine ⟨fun k_ => ?_, fun k_ => ?_⟩
  · replace h := h.1 k_
    refine ⟨h.1, ?_⟩
    replace h := h.2
    refine ⟨h.1, ?_⟩
    replace h := h.2
    refine ⟨h.1, ?_⟩
    replace h := h.2
    refine ⟨h.1, ?_⟩
    replace h := h.2
    refine ⟨h.1, ?_⟩
    replace h := h.2
    exact ⟨trivial, rfl, h⟩
  · replace h := h.2 k_
    exact ⟨trivial, rfl, h⟩

theorem s_45 {X : Int × (Int → Int)} {d : Nat} {Q : Int → XH → Prop} (hd : 2 ≤ d) (c s : Int) (H : XH) (hi : InvS H) (pc : 0 ≤ c ∧ c < H 67 1) (ps : 0 ≤ s ∧ s < 5) (pd : ¬ H 68 (160 + c) = 0) (hQ : Q (shV (fun k => H 68 (230 + k)) c s) H) : xc X d 45 [(2, 2), (0, c), (0, s)] H Q := by
  cases d with
  | zero => omega
  | succ d =>
  have hg := hi.1
  have hs := hi.2
  have nn := hg.nn
  have r := shV_rng hg pc ps pd
  have e : sum5 (H 3) (c * 5) = sum5 (fun k => H 68 (230 + k)) (c * 5) := sum5_congr (fun k a b => hs.d k (by omega) (by omega))
  have e2 := hs.d (c * 5 + s) (by omega) (by omega)
  have b := hg.amb (c * 5 + s) (by omega) (by omega)
  have hs2 := tdivB (x := 1000 * H 68 (230 + (c * 5 + s))) (y := sum5 (fun k => H 68 (230 + k)) (c * 5)) (A := 9000) (by omega) r.1.1 (by omega)
  unfold shV at hQ
  refine U_45 (by omega) c s H ?_
  rw [e, e2]
  refine ⟨?_, ?_⟩
  · first | omega | (intro s a b; rw [hs.d _ (by omega) (by omega)]; have := hg.amb (c * 5 + s) (by omega) (by omega); omega) | (unfold xI; omega) | exact ⟨by omega, by unfold xI; omega⟩
  refine ⟨?_, ?_⟩
  · first | omega | (intro s a b; rw [hs.d _ (by omega) (by omega)]; have := hg.amb (c * 5 + s) (by omega) (by omega); omega) | (unfold xI; omega) | exact ⟨by omega, by unfold xI; omega⟩
  refine ⟨?_, ?_⟩
  · first | omega | (intro s a b; rw [hs.d _ (by omega) (by omega)]; have := hg.amb (c * 5 + s) (by omega) (by omega); omega) | (unfold xI; omega) | exact ⟨by omega, by unfold xI; omega⟩
  refine ⟨?_, ?_⟩
  · first | omega | (intro s a b; rw [hs.d _ (by omega) (by omega)]; have := hg.amb (c * 5 + s) (by omega) (by omega); omega) | (unfold xI; omega) | exact ⟨by omega, by unfold xI; omega⟩
  refine ⟨fun c1 => ?_, fun c1 => ?_⟩
  · skip
    refine ⟨?_, ?_⟩
    · first | omega | (intro s a b; rw [hs.d _ (by omega) (by omega)]; have := hg.amb (c * 5 + s) (by omega) (by omega); omega) | (unfold xI; omega) | exact ⟨by omega, by unfold xI; omega⟩
    refine ⟨?_, ?_⟩
    · first | omega | (intro s a b; rw [hs.d _ (by omega) (by omega)]; have := hg.amb (c * 5 + s) (by omega) (by omega); omega) | (unfold xI; omega) | exact ⟨by omega, by unfold xI; omega⟩
    refine ⟨?_, ?_⟩
    · first | omega | (intro s a b; rw [hs.d _ (by omega) (by omega)]; have := hg.amb (c * 5 + s) (by omega) (by omega); omega) | (unfold xI; omega) | exact ⟨by omega, by unfold xI; omega⟩
    refine ⟨?_, ?_⟩
    · first | omega | (intro s a b; rw [hs.d _ (by omega) (by omega)]; have := hg.amb (c * 5 + s) (by omega) (by omega); omega) | (unfold xI; omega) | exact ⟨by omega, by unfold xI; omega⟩
    refine ⟨?_, ?_⟩
    · first | omega | (intro s a b; rw [hs.d _ (by omega) (by omega)]; have := hg.amb (c * 5 + s) (by omega) (by omega); omega) | (unfold xI; omega) | exact ⟨by omega, by unfold xI; omega⟩
    first | exact hQ | (exfalso; omega)
  · skip
    first | exact hQ | (exfalso; omega)

theorem U_46 {X : Int × (Int → Int)} {d : Nat} {Q : Int → XH → Prop} (hd : 3 ≤ d) (c s b : Int) (H : XH) (h : (1 ≤ H 2 0 ∧ H 2 0 ≤ 8) ∧ (0 ≤ H 2 2 ∧ H 2 2 ≤ 64) ∧ (0 ≤ c ∧ c < 64) ∧ (xq X d 46 Q 13 [(0, (2, 2)), (1, (0, c)), (2, (0, s)), (3, (0, b)), (4, (0, nrS (H 2 0) (H 2 2) (fun e => H 4 e) c)), (5, (0, (-1))), (6, (0, 0))] [] H)) : xc X (d + 1) 46 [(2, 2), (0, c), (0, s), (0, b)] H Q := by
  refine ⟨rfl, ?_⟩
  show xq X d 46 Q 100000 [(0, (2, 2)), (1, (0, c)), (2, (0, s)), (3, (0, b))] [] H
  refine xq_run [5, 13, 39, 54] 300 ?_
  show xWM (xE X) xMC d 35 [(2, 2), (0, c)] xKZ H _
  refine xc_in (s_35 (by omega) c H (h.1) (h.2.1) (h.2.2.1) ?_)
  replace h := h.2.2.2
  show xq X d 46 Q 5 [(0, (2, 2)), (1, (0, c)), (2, (0, s)), (3, (0, b))] [(0, nrS (H 2 0) (H 2 2) (fun e => H 4 e) c)] H
  refine xq_run [5, 13, 39, 54] 300 ?_
  show xq X d 46 Q 13 [(0, (2, 2)), (1, (0, c)), (2, (0, s)), (3, (0, b)), (4, (0, nrS (H 2 0) (H 2 2) (fun e => H 4 e) c)), (5, (0, (-1))), (6, (0, 0))] [] H
  exact h
theorem U_46_13 {X : Int × (Int → Int)} {d : Nat} {Q : Int → XH → Prop} (hd : 2 ≤ d) (v1 v2 v3 v4 v5 v6 : Int) (H : XH) (h : ((H 2 2 ≤ v6) → Q v5 H) ∧ (¬ (H 2 2 ≤ v6) → ((0 : Int) ≤ v6 ∧ (v6 : Int) < 64) ∧ ((H 4 v6 = 0) → (xI (v6 + 1)) ∧ xq X d 46 Q 13 [(0, (2, 2)), (1, (0, v1)), (2, (0, v2)), (3, (0, v3)), (4, (0, v4)), (5, (0, v5)), (6, (0, v6 + 1))] [] H) ∧ (¬ (H 4 v6 = 0) → (1 ≤ H 2 0 ∧ H 2 0 ≤ 8) ∧ (0 ≤ v1 ∧ v1 < 64) ∧ (0 ≤ v6 ∧ v6 < 64) ∧ (((btw (H 2 0) v1 v6 = v4) → (InvS H) ∧ (0 ≤ v6 ∧ v6 < H 67 1) ∧ (0 ≤ v2 ∧ v2 < 5) ∧ (¬ H 68 (160 + v6) = 0) ∧ (((v3 = 0) → ((v5 ≤ shV (fun k => H 68 (230 + k)) v6 v2) → ((v5 = (-1)) → (xI (v6 + 1)) ∧ xq X d 46 Q 13 [(0, (2, 2)), (1, (0, v1)), (2, (0, v2)), (3, (0, v3)), (4, (0, v4)), (5, (0, shV (fun k => H 68 (230 + k)) v6 v2)), (6, (0, v6 + 1))] [] H) ∧ (¬ (v5 = (-1)) → (xI (v6 + 1)) ∧ xq X d 46 Q 13 [(0, (2, 2)), (1, (0, v1)), (2, (0, v2)), (3, (0, v3)), (4, (0, v4)), (5, (0, v5)), (6, (0, v6 + 1))] [] H)) ∧ (¬ (v5 ≤ shV (fun k => H 68 (230 + k)) v6 v2) → ((v5 = (-1)) → (xI (v6 + 1)) ∧ xq X d 46 Q 13 [(0, (2, 2)), (1, (0, v1)), (2, (0, v2)), (3, (0, v3)), (4, (0, v4)), (5, (0, shV (fun k => H 68 (230 + k)) v6 v2)), (6, (0, v6 + 1))] [] H) ∧ (¬ (v5 = (-1)) → (xI (v6 + 1)) ∧ xq X d 46 Q 13 [(0, (2, 2)), (1, (0, v1)), (2, (0, v2)), (3, (0, v3)), (4, (0, v4)), (5, (0, shV (fun k => H 68 (230 + k)) v6 v2)), (6, (0, v6 + 1))] [] H))) ∧ (¬ (v3 = 0) → ((shV (fun k => H 68 (230 + k)) v6 v2 ≤ v5) → ((v5 = (-1)) → (xI (v6 + 1)) ∧ xq X d 46 Q 13 [(0, (2, 2)), (1, (0, v1)), (2, (0, v2)), (3, (0, v3)), (4, (0, v4)), (5, (0, shV (fun k => H 68 (230 + k)) v6 v2)), (6, (0, v6 + 1))] [] H) ∧ (¬ (v5 = (-1)) → (xI (v6 + 1)) ∧ xq X d 46 Q 13 [(0, (2, 2)), (1, (0, v1)), (2, (0, v2)), (3, (0, v3)), (4, (0, v4)), (5, (0, v5)), (6, (0, v6 + 1))] [] H)) ∧ (¬ (shV (fun k => H 68 (230 + k)) v6 v2 ≤ v5) → ((v5 = (-1)) → (xI (v6 + 1)) ∧ xq X d 46 Q 13 [(0, (2, 2)), (1, (0, v1)), (2, (0, v2)), (3, (0, v3)), (4, (0, v4)), (5, (0, shV (fun k => H 68 (230 + k)) v6 v2)), (6, (0, v6 + 1))] [] H) ∧ (¬ (v5 = (-1)) → (xI (v6 + 1)) ∧ xq X d 46 Q 13 [(0, (2, 2)), (1, (0, v1)), (2, (0, v2)), (3, (0, v3)), (4, (0, v4)), (5, (0, shV (fun k => H 68 (230 + k)) v6 v2)), (6, (0, v6 + 1))] [] H))))) ∧ (¬ (btw (H 2 0) v1 v6 = v4) → (xI (v6 + 1)) ∧ xq X d 46 Q 13 [(0, (2, 2)), (1, (0, v1)), (2, (0, v2)), (3, (0, v3)), (4, (0, v4)), (5, (0, v5)), (6, (0, v6 + 1))] [] H))))) : xq X d 46 Q 13 [(0, (2, 2)), (1, (0, v1)), (2, (0, v2)), (3, (0, v3)), (4, (0, v4)), (5, (0, v5)), (6, (0, v6))] [] H := by
  show xq X d 46 Q 13 [(0, (2, 2)), (1, (0, v1)), (2, (0, v2)), (3, (0, v3)), (4, (0, v4)), (5, (0, v5)), (6, (0, v6))] [] H
  refine xq_run [5, 13, 39, 54] 300 ?_
  show ((H 2 2 ≤ v6) → xfR 0 v5 ∧ xKZ = xKZ ∧ Q v5 H) ∧ (¬ (H 2 2 ≤ v6) → ((0 : Int) ≤ v6 ∧ (v6 : Int) < 64) ∧ ((H 4 v6 = 0) → (xI (v6 + 1)) ∧ xq X d 46 Q 13 [(0, (2, 2)), (1, (0, v1)), (2, (0, v2)), (3, (0, v3)), (4, (0, v4)), (5, (0, v5)), (6, (0, v6 + 1))] [] H) ∧ (¬ (H 4 v6 = 0) → xWM (xE X) xMC d 34 [(2, 2), (0, v1), (0, v6)] xKZ H _))
  refine ⟨fun k_ => ?_, fun k_ => ?_⟩
  · replace h := h.1 k_
    exact ⟨trivial, rfl, h⟩
  · replace h := h.2 k_
    refine ⟨h.1, ?_⟩
    replace h := h.2
    refine ⟨fun k_ => ?_, fun k_ => ?_⟩
    · replace h := h.1 k_
      refine ⟨h.1, ?_⟩
      replace h := h.2
      exact h
    · replace h := h.2 k_
      refine xc_in (s_34 (by omega) v1 v6 H (h.1) (h.2.1) (h.2.2.1) ?_)
      replace h := h.2.2.2
      show xq X d 46 Q 39 [(0, (2, 2)), (1, (0, v1)), (2, (0, v2)), (3, (0, v3)), (4, (0, v4)), (5, (0, v5)), (6, (0, v6))] [(0, btw (H 2 0) v1 v6)] H
      refine xq_run [5, 13, 39, 54] 300 ?_
      show ((btw (H 2 0) v1 v6 = v4) → xWM (xE X) xMC d 45 [(2, 2), (0, v6), (0, v2)] xKZ H _) ∧ (¬ (btw (H 2 0) v1 v6 = v4) → (xI (v6 + 1)) ∧ xq X d 46 Q 13 [(0, (2, 2)), (1, (0, v1)), (2, (0, v2)), (3, (0, v3)), (4, (0, v4)), (5, (0, v5)), (6, (0, v6 + 1))] [] H)
      refine ⟨fun k_ => ?_, fun k_ => ?_⟩
      · replace h := h.1 k_
        refine xc_in (s_45 (by omega) v6 v2 H (h.1) (h.2.1) (h.2.2.1) (h.2.2.2.1) ?_)
        replace h := h.2.2.2.2
        show xq X d 46 Q 54 [(0, (2, 2)), (1, (0, v1)), (2, (0, v2)), (3, (0, v3)), (4, (0, v4)), (5, (0, v5)), (6, (0, v6))] [(0, shV (fun k => H 68 (230 + k)) v6 v2)] H
        refine xq_run [5, 13, 39, 54] 300 ?_
        show ((v3 = 0) → ((v5 ≤ shV (fun k => H 68 (230 + k)) v6 v2) → ((v5 = (-1)) → (xI (v6 + 1)) ∧ xq X d 46 Q 13 [(0, (2, 2)), (1, (0, v1)), (2, (0, v2)), (3, (0, v3)), (4, (0, v4)), (5, (0, shV (fun k => H 68 (230 + k)) v6 v2)), (6, (0, v6 + 1))] [] H) ∧ (¬ (v5 = (-1)) → ((0 = 0) → (xI (v6 + 1)) ∧ xq X d 46 Q 13 [(0, (2, 2)), (1, (0, v1)), (2, (0, v2)), (3, (0, v3)), (4, (0, v4)), (5, (0, v5)), (6, (0, v6 + 1))] [] H) ∧ (¬ (0 = 0) → _))) ∧ (¬ (v5 ≤ shV (fun k => H 68 (230 + k)) v6 v2) → ((v5 = (-1)) → (xI (v6 + 1)) ∧ xq X d 46 Q 13 [(0, (2, 2)), (1, (0, v1)), (2, (0, v2)), (3, (0, v3)), (4, (0, v4)), (5, (0, shV (fun k => H 68 (230 + k)) v6 v2)), (6, (0, v6 + 1))] [] H) ∧ (¬ (v5 = (-1)) → ((1 = 0) → _) ∧ (¬ (1 = 0) → (xI (v6 + 1)) ∧ xq X d 46 Q 13 [(0, (2, 2)), (1, (0, v1)), (2, (0, v2)), (3, (0, v3)), (4, (0, v4)), (5, (0, shV (fun k => H 68 (230 + k)) v6 v2)), (6, (0, v6 + 1))] [] H)))) ∧ (¬ (v3 = 0) → ((shV (fun k => H 68 (230 + k)) v6 v2 ≤ v5) → ((v5 = (-1)) → (xI (v6 + 1)) ∧ xq X d 46 Q 13 [(0, (2, 2)), (1, (0, v1)), (2, (0, v2)), (3, (0, v3)), (4, (0, v4)), (5, (0, shV (fun k => H 68 (230 + k)) v6 v2)), (6, (0, v6 + 1))] [] H) ∧ (¬ (v5 = (-1)) → ((0 = 0) → (xI (v6 + 1)) ∧ xq X d 46 Q 13 [(0, (2, 2)), (1, (0, v1)), (2, (0, v2)), (3, (0, v3)), (4, (0, v4)), (5, (0, v5)), (6, (0, v6 + 1))] [] H) ∧ (¬ (0 = 0) → _))) ∧ (¬ (shV (fun k => H 68 (230 + k)) v6 v2 ≤ v5) → ((v5 = (-1)) → (xI (v6 + 1)) ∧ xq X d 46 Q 13 [(0, (2, 2)), (1, (0, v1)), (2, (0, v2)), (3, (0, v3)), (4, (0, v4)), (5, (0, shV (fun k => H 68 (230 + k)) v6 v2)), (6, (0, v6 + 1))] [] H) ∧ (¬ (v5 = (-1)) → ((1 = 0) → _) ∧ (¬ (1 = 0) → (xI (v6 + 1)) ∧ xq X d 46 Q 13 [(0, (2, 2)), (1, (0, v1)), (2, (0, v2)), (3, (0, v3)), (4, (0, v4)), (5, (0, shV (fun k => H 68 (230 + k)) v6 v2)), (6, (0, v6 + 1))] [] H))))
        refine ⟨fun k_ => ?_, fun k_ => ?_⟩
        · replace h := h.1 k_
          refine ⟨fun k_ => ?_, fun k_ => ?_⟩
          · replace h := h.1 k_
            refine ⟨fun k_ => ?_, fun k_ => ?_⟩
            · replace h := h.1 k_
              refine ⟨h.1, ?_⟩
              replace h := h.2
              exact h
            · replace h := h.2 k_
              refine ⟨fun k_ => ?_, fun k_ => absurd (by decide) k_⟩
              refine ⟨h.1, ?_⟩
              replace h := h.2
              exact h
          · replace h := h.2 k_
            refine ⟨fun k_ => ?_, fun k_ => ?_⟩
            · replace h := h.1 k_
              refine ⟨h.1, ?_⟩
              replace h := h.2
              exact h
            · replace h := h.2 k_
              refine ⟨fun k_ => absurd k_ (by decide), fun k_ => ?_⟩
              refine ⟨h.1, ?_⟩
              replace h := h.2
              exact h
        · replace h := h.2 k_
          refine ⟨fun k_ => ?_, fun k_ => ?_⟩
          · replace h := h.1 k_
            refine ⟨fun k_ => ?_, fun k_ => ?_⟩
            · replace h := h.1 k_
              refine ⟨h.1, ?_⟩
              replace h := h.2
              exact h
            · replace h := h.2 k_
              refine ⟨fun k_ => ?_, fun k_ => absurd (by decide) k_⟩
              refine ⟨h.1, ?_⟩
              replace h := h.2
              exact h
          · replace h := h.2 k_
            refine ⟨fun k_ => ?_, fun k_ => ?_⟩
            · replace h := h.1 k_
              refine ⟨h.1, ?_⟩
              replace h := h.2
              exact h
            · replace h := h.2 k_
              refine ⟨fun k_ => absurd k_ (by decide), fun k_ => ?_⟩
              refine ⟨h.1, ?_⟩
              replace h := h.2
              exact h
      · replace h := h.2 k_
        refine ⟨h.1, ?_⟩
        replace h := h.2
        exact h

theorem s_46 {X : Int × (Int → Int)} {d : Nat} {Q : Int → XH → Prop} (hd : 4 ≤ d) (c s b : Int) (H : XH) (hi : InvS H) (pc : 0 ≤ c ∧ c < H 67 1) (ps : 0 ≤ s ∧ s < 5) (hQ : Q (vSpan (H 67 0) (H 67 1) (H 68) c s b) H) : xc X d 46 [(2, 2), (0, c), (0, s), (0, b)] H Q := by
  cases d with
  | zero => omega
  | succ d =>
  have hg := hi.1
  have hs := hi.2
  have nn := hg.nn
  have ww := hg.ww
  have l0 := hs.l0
  have l2 := hs.l2
  have en : nrS (H 2 0) (H 2 2) (fun e => H 4 e) c = nrS (H 67 0) (H 67 1) (fun e => H 68 (160 + e)) c := by
    rw [l0, l2]
    exact nrS_congr (fun e a b => hs.i e a (by omega)) c
  unfold vSpan at hQ
  rw [if_pos ⟨pc, by omega⟩] at hQ
  obtain ⟨V, hV⟩ : ∃ V, spR (spP (H 67 0) (H 67 1) (H 68) c) (fun o => shV (fun k => H 68 (230 + k)) o s) b (H 67 1).toNat 0 (-1) = V := ⟨_, rfl⟩
  rw [hV] at hQ
  have key : ∀ (k : Nat) (o a : Int), 0 ≤ o → o + k = H 67 1 → spR (spP (H 67 0) (H 67 1) (H 68) c) (fun o => shV (fun k => H 68 (230 + k)) o s) b k o a = V → xq X d 46 Q 13 [(0, (2, 2)), (1, (0, c)), (2, (0, s)), (3, (0, b)), (4, (0, nrS (H 67 0) (H 67 1) (fun e => H 68 (160 + e)) c)), (5, (0, a)), (6, (0, o))] [] H := by
    intro k
    induction k with
    | zero =>
      intro o a h0 hn hq
      unfold spR at hq
      rw [← hq] at hQ
      refine U_46_13 (by omega) c s b (nrS (H 67 0) (H 67 1) (fun e => H 68 (160 + e)) c) a o H ?_
      refine ⟨fun c1 => ?_, fun c1 => ?_⟩
      · skip
        first | exact hQ | (exfalso; omega)
      · skip
        refine ⟨?_, ?_⟩
        · first | omega | (unfold xI; omega) | (unfold xJ; omega) | assumption | (exfalso; omega) | exact hi
        refine ⟨fun c2 => ?_, fun c2 => ?_⟩
        · skip
          refine ⟨?_, ?_⟩
          · first | omega | (unfold xI; omega) | (unfold xJ; omega) | assumption | (exfalso; omega) | exact hi
          first | exact hQ | (exfalso; omega)
        · skip
          refine ⟨?_, ?_⟩
          · first | omega | (unfold xI; omega) | (unfold xJ; omega) | assumption | (exfalso; omega) | exact hi
          refine ⟨?_, ?_⟩
          · first | omega | (unfold xI; omega) | (unfold xJ; omega) | assumption | (exfalso; omega) | exact hi
          refine ⟨?_, ?_⟩
          · first | omega | (unfold xI; omega) | (unfold xJ; omega) | assumption | (exfalso; omega) | exact hi
          refine ⟨fun c3 => ?_, fun c3 => ?_⟩
          · skip
            refine ⟨?_, ?_⟩
            · first | omega | (unfold xI; omega) | (unfold xJ; omega) | assumption | (exfalso; omega) | exact hi
            refine ⟨?_, ?_⟩
            · first | omega | (unfold xI; omega) | (unfold xJ; omega) | assumption | (exfalso; omega) | exact hi
            refine ⟨?_, ?_⟩
            · first | omega | (unfold xI; omega) | (unfold xJ; omega) | assumption | (exfalso; omega) | exact hi
            refine ⟨?_, ?_⟩
            · first | omega | (unfold xI; omega) | (unfold xJ; omega) | assumption | (exfalso; omega) | exact hi
            refine ⟨fun c4 => ?_, fun c4 => ?_⟩
            · skip
              refine ⟨fun c5 => ?_, fun c5 => ?_⟩
              · skip
                refine ⟨fun c6 => ?_, fun c6 => ?_⟩
                · skip
                  refine ⟨?_, ?_⟩
                  · first | omega | (unfold xI; omega) | (unfold xJ; omega) | assumption | (exfalso; omega) | exact hi
                  first | exact hQ | (exfalso; omega)
                · skip
                  refine ⟨?_, ?_⟩
                  · first | omega | (unfold xI; omega) | (unfold xJ; omega) | assumption | (exfalso; omega) | exact hi
                  first | exact hQ | (exfalso; omega)
              · skip
                refine ⟨fun c7 => ?_, fun c7 => ?_⟩
                · skip
                  refine ⟨?_, ?_⟩
                  · first | omega | (unfold xI; omega) | (unfold xJ; omega) | assumption | (exfalso; omega) | exact hi
                  first | exact hQ | (exfalso; omega)
                · skip
                  refine ⟨?_, ?_⟩
                  · first | omega | (unfold xI; omega) | (unfold xJ; omega) | assumption | (exfalso; omega) | exact hi
                  first | exact hQ | (exfalso; omega)
            · skip
              refine ⟨fun c8 => ?_, fun c8 => ?_⟩
              · skip
                refine ⟨fun c9 => ?_, fun c9 => ?_⟩
                · skip
                  refine ⟨?_, ?_⟩
                  · first | omega | (unfold xI; omega) | (unfold xJ; omega) | assumption | (exfalso; omega) | exact hi
                  first | exact hQ | (exfalso; omega)
                · skip
                  refine ⟨?_, ?_⟩
                  · first | omega | (unfold xI; omega) | (unfold xJ; omega) | assumption | (exfalso; omega) | exact hi
                  first | exact hQ | (exfalso; omega)
              · skip
                refine ⟨fun c10 => ?_, fun c10 => ?_⟩
                · skip
                  refine ⟨?_, ?_⟩
                  · first | omega | (unfold xI; omega) | (unfold xJ; omega) | assumption | (exfalso; omega) | exact hi
                  first | exact hQ | (exfalso; omega)
                · skip
                  refine ⟨?_, ?_⟩
                  · first | omega | (unfold xI; omega) | (unfold xJ; omega) | assumption | (exfalso; omega) | exact hi
                  first | exact hQ | (exfalso; omega)
          · skip
            refine ⟨?_, ?_⟩
            · first | omega | (unfold xI; omega) | (unfold xJ; omega) | assumption | (exfalso; omega) | exact hi
            first | exact hQ | (exfalso; omega)
    | succ k ih =>
      intro o a h0 hn hq
      unfold spR spP at hq
      have io := hs.i o h0 (by omega)
      have nx : ∀ a', a' = (if (if ¬ H 68 (160 + o) = 0 ∧ btw (H 67 0) c o = nrS (H 67 0) (H 67 1) (fun e => H 68 (160 + e)) c then (1 : Int) else 0) = 0 then a else if a = -1 ∨ (b = 0 ∧ shV (fun k => H 68 (230 + k)) o s < a) ∨ (¬ b = 0 ∧ a < shV (fun k => H 68 (230 + k)) o s) then shV (fun k => H 68 (230 + k)) o s else a) → xq X d 46 Q 13 [(0, (2, 2)), (1, (0, c)), (2, (0, s)), (3, (0, b)), (4, (0, nrS (H 67 0) (H 67 1) (fun e => H 68 (160 + e)) c)), (5, (0, a')), (6, (0, o + 1))] [] H := fun a' ha => ih (o + 1) a' (by omega) (by omega) (by rw [ha]; exact hq)
      refine U_46_13 (by omega) c s b (nrS (H 67 0) (H 67 1) (fun e => H 68 (160 + e)) c) a o H ?_
      rw [l0, io]
      refine ⟨fun c1 => ?_, fun c1 => ?_⟩
      · skip
        exfalso
        omega
      · skip
        refine ⟨?_, ?_⟩
        · first | omega | exact hi | (unfold xI; omega) | (exfalso; omega)
        refine ⟨fun c2 => ?_, fun c2 => ?_⟩
        · skip
          refine ⟨?_, ?_⟩
          · first | omega | exact hi | (unfold xI; omega) | (exfalso; omega)
          refine nx _ ?_
          first | (rw [if_pos (if_neg (by omega))]) | (rw [if_neg (by rw [if_pos (by omega)]; decide), if_pos (by omega)]) | (rw [if_neg (by rw [if_pos (by omega)]; decide), if_neg (by omega)])
        · skip
          refine ⟨?_, ?_⟩
          · first | omega | exact hi | (unfold xI; omega) | (exfalso; omega)
          refine ⟨?_, ?_⟩
          · first | omega | exact hi | (unfold xI; omega) | (exfalso; omega)
          refine ⟨?_, ?_⟩
          · first | omega | exact hi | (unfold xI; omega) | (exfalso; omega)
          refine ⟨fun c3 => ?_, fun c3 => ?_⟩
          · skip
            refine ⟨?_, ?_⟩
            · first | omega | exact hi | (unfold xI; omega) | (exfalso; omega)
            refine ⟨?_, ?_⟩
            · first | omega | exact hi | (unfold xI; omega) | (exfalso; omega)
            refine ⟨?_, ?_⟩
            · first | omega | exact hi | (unfold xI; omega) | (exfalso; omega)
            refine ⟨?_, ?_⟩
            · first | omega | exact hi | (unfold xI; omega) | (exfalso; omega)
            refine ⟨fun c4 => ?_, fun c4 => ?_⟩
            · skip
              refine ⟨fun c5 => ?_, fun c5 => ?_⟩
              · skip
                refine ⟨fun c6 => ?_, fun c6 => ?_⟩
                · skip
                  refine ⟨?_, ?_⟩
                  · first | omega | exact hi | (unfold xI; omega) | (exfalso; omega)
                  refine nx _ ?_
                  first | (rw [if_pos (if_neg (by omega))]) | (rw [if_neg (by rw [if_pos (by omega)]; decide), if_pos (by omega)]) | (rw [if_neg (by rw [if_pos (by omega)]; decide), if_neg (by omega)])
                · skip
                  refine ⟨?_, ?_⟩
                  · first | omega | exact hi | (unfold xI; omega) | (exfalso; omega)
                  refine nx _ ?_
                  first | (rw [if_pos (if_neg (by omega))]) | (rw [if_neg (by rw [if_pos (by omega)]; decide), if_pos (by omega)]) | (rw [if_neg (by rw [if_pos (by omega)]; decide), if_neg (by omega)])
              · skip
                refine ⟨fun c7 => ?_, fun c7 => ?_⟩
                · skip
                  refine ⟨?_, ?_⟩
                  · first | omega | exact hi | (unfold xI; omega) | (exfalso; omega)
                  refine nx _ ?_
                  first | (rw [if_pos (if_neg (by omega))]) | (rw [if_neg (by rw [if_pos (by omega)]; decide), if_pos (by omega)]) | (rw [if_neg (by rw [if_pos (by omega)]; decide), if_neg (by omega)])
                · skip
                  refine ⟨?_, ?_⟩
                  · first | omega | exact hi | (unfold xI; omega) | (exfalso; omega)
                  refine nx _ ?_
                  first | (rw [if_pos (if_neg (by omega))]) | (rw [if_neg (by rw [if_pos (by omega)]; decide), if_pos (by omega)]) | (rw [if_neg (by rw [if_pos (by omega)]; decide), if_neg (by omega)])
            · skip
              refine ⟨fun c8 => ?_, fun c8 => ?_⟩
              · skip
                refine ⟨fun c9 => ?_, fun c9 => ?_⟩
                · skip
                  refine ⟨?_, ?_⟩
                  · first | omega | exact hi | (unfold xI; omega) | (exfalso; omega)
                  refine nx _ ?_
                  first | (rw [if_pos (if_neg (by omega))]) | (rw [if_neg (by rw [if_pos (by omega)]; decide), if_pos (by omega)]) | (rw [if_neg (by rw [if_pos (by omega)]; decide), if_neg (by omega)])
                · skip
                  refine ⟨?_, ?_⟩
                  · first | omega | exact hi | (unfold xI; omega) | (exfalso; omega)
                  refine nx _ ?_
                  first | (rw [if_pos (if_neg (by omega))]) | (rw [if_neg (by rw [if_pos (by omega)]; decide), if_pos (by omega)]) | (rw [if_neg (by rw [if_pos (by omega)]; decide), if_neg (by omega)])
              · skip
                refine ⟨fun c10 => ?_, fun c10 => ?_⟩
                · skip
                  refine ⟨?_, ?_⟩
                  · first | omega | exact hi | (unfold xI; omega) | (exfalso; omega)
                  refine nx _ ?_
                  first | (rw [if_pos (if_neg (by omega))]) | (rw [if_neg (by rw [if_pos (by omega)]; decide), if_pos (by omega)]) | (rw [if_neg (by rw [if_pos (by omega)]; decide), if_neg (by omega)])
                · skip
                  refine ⟨?_, ?_⟩
                  · first | omega | exact hi | (unfold xI; omega) | (exfalso; omega)
                  refine nx _ ?_
                  first | (rw [if_pos (if_neg (by omega))]) | (rw [if_neg (by rw [if_pos (by omega)]; decide), if_pos (by omega)]) | (rw [if_neg (by rw [if_pos (by omega)]; decide), if_neg (by omega)])
          · skip
            refine ⟨?_, ?_⟩
            · first | omega | exact hi | (unfold xI; omega) | (exfalso; omega)
            refine nx _ ?_
            first | (rw [if_pos (if_neg (by omega))]) | (rw [if_neg (by rw [if_pos (by omega)]; decide), if_pos (by omega)]) | (rw [if_neg (by rw [if_pos (by omega)]; decide), if_neg (by omega)])
  refine U_46 (by omega) c s b H ?_
  rw [l0, l2]
  have en' := en
  rw [l0, l2] at en'
  rw [en']
  refine ⟨?_, ?_⟩
  · first | omega | (unfold xI; omega) | (unfold xJ; omega) | assumption | (exfalso; omega)
  refine ⟨?_, ?_⟩
  · first | omega | (unfold xI; omega) | (unfold xJ; omega) | assumption | (exfalso; omega)
  refine ⟨?_, ?_⟩
  · first | omega | (unfold xI; omega) | (unfold xJ; omega) | assumption | (exfalso; omega)
  exact key (H 67 1).toNat 0 (-1) (by omega) (by omega) hV

theorem U_47 {X : Int × (Int → Int)} {d : Nat} {Q : Int → XH → Prop} (hd : 4 ≤ d) (c s b : Int) (H : XH) (h : ((((0 ≤ c ∧ c < H 2 2)) → ((((0 ≤ s ∧ s ≤ 4)) → (InvS H) ∧ (0 ≤ c ∧ c < H 67 1) ∧ (0 ≤ s ∧ s < 5) ∧ (Q (vSpan (H 67 0) (H 67 1) (H 68) c s b) H)) ∧ (¬ ((0 ≤ s ∧ s ≤ 4)) → Q (-1) H))) ∧ (¬ ((0 ≤ c ∧ c < H 2 2)) → Q (-1) H))) : xc X (d + 1) 47 [(2, 0), (0, c), (0, s), (0, b)] H Q := by
  refine ⟨rfl, ?_⟩
  show xq X d 47 Q 100000 [(0, (2, 0)), (1, (0, c)), (2, (0, s)), (3, (0, b))] [] H
  refine xq_run [11, 18, 36] 300 ?_
  show xWM (xE X) xMC d 18 [(2, 2), (0, c)] xKZ H _
  refine xc_in (s_18 (by omega) c H  ?_)
  replace h := h
  show xq X d 47 Q 11 [(0, (2, 0)), (1, (0, c)), (2, (0, s)), (3, (0, b))] [(0, xb (0 ≤ c ∧ c < H 2 2))] H
  refine xq_run [11, 18, 36] 300 ?_
  show ((xb (0 ≤ c ∧ c < H 2 2) = 0) → xfR 0 (-1) ∧ xKZ = xKZ ∧ Q (-1) H) ∧ (¬ (xb (0 ≤ c ∧ c < H 2 2) = 0) → xWM (xE X) xMC d 31 [(0, s)] xKZ H _)
  refine ⟨fun k_ => ?_, fun k_ => ?_⟩
  · replace h := h.2 (xbe_0.mp k_)
    exact ⟨trivial, rfl, h⟩
  · replace h := h.1 (xbe_1.mp k_)
    refine xc_in (s_31 (by omega) s H  ?_)
    replace h := h
    show xq X d 47 Q 18 [(0, (2, 0)), (1, (0, c)), (2, (0, s)), (3, (0, b))] [(0, xb (0 ≤ s ∧ s ≤ 4))] H
    refine xq_run [11, 18, 36] 300 ?_
    show ((¬ xb (0 ≤ s ∧ s ≤ 4) = 0) → xWM (xE X) xMC d 46 [(2, 2), (0, c), (0, s), (0, b)] xKZ H _) ∧ (¬ (¬ xb (0 ≤ s ∧ s ≤ 4) = 0) → xfR 0 (-1) ∧ xKZ = xKZ ∧ Q (-1) H)
    refine ⟨fun k_ => ?_, fun k_ => ?_⟩
    · replace h := h.1 (xbe_1.mp k_)
      refine xc_in (s_46 (by omega) c s b H (h.1) (h.2.1) (h.2.2.1) ?_)
      replace h := h.2.2.2
      show xq X d 47 Q 36 [(0, (2, 0)), (1, (0, c)), (2, (0, s)), (3, (0, b))] [(0, vSpan (H 67 0) (H 67 1) (H 68) c s b)] H
      refine xq_run [11, 18, 36] 300 ?_
      show xfR 0 (vSpan (H 67 0) (H 67 1) (H 68) c s b) ∧ xKZ = xKZ ∧ Q (vSpan (H 67 0) (H 67 1) (H 68) c s b) H
      exact ⟨trivial, rfl, h⟩
    · replace h := h.2 (xbe_n.mp k_)
      exact ⟨trivial, rfl, h⟩

theorem U_48 {X : Int × (Int → Int)} {d : Nat} {Q : Int → XH → Prop} (hd : 3 ≤ d) (c s b : Int) (H : XH) (h : (-2147483648 < H 67 1 ∧ H 67 1 ≤ 2147483647) ∧ ((((0 ≤ c ∧ c < H 67 1)) → ((((0 ≤ s ∧ s ≤ 4)) → ((¬ H 68 0 = 0) → (1 ≤ H 67 0 ∧ H 67 0 ≤ 8) ∧ (0 ≤ H 67 1 ∧ H 67 1 ≤ 64) ∧ (∀ e, 0 ≤ e → e < 64 → H 68 (160 + e) = 0 ∨ H 68 (160 + e) = 1) ∧ (0 ≤ c ∧ c < 64) ∧ (xq X d 48 Q 39 [(0, (2, 67)), (1, (0, c)), (2, (0, s)), (3, (0, b)), (4, (0, nrS (H 67 0) (H 67 1) (fun e => H 68 (160 + e)) c)), (5, (0, (-1))), (6, (0, 0))] [] H)) ∧ (¬ (¬ H 68 0 = 0) → Q (-1) H)) ∧ (¬ ((0 ≤ s ∧ s ≤ 4)) → Q (-1) H))) ∧ (¬ ((0 ≤ c ∧ c < H 67 1)) → Q (-1) H))) : xc X (d + 1) 48 [(2, 67), (0, c), (0, s), (0, b)] H Q := by
  refine ⟨rfl, ?_⟩
  show xq X d 48 Q 100000 [(0, (2, 67)), (1, (0, c)), (2, (0, s)), (3, (0, b))] [] H
  refine xq_run [5, 12, 31, 39, 70, 81] 300 ?_
  show xWM (xE X) xMC d 24 [(2, 67), (0, c)] xKZ H _
  refine xc_in (s_24 (by omega) c H (h.1) ?_)
  replace h := h.2
  show xq X d 48 Q 5 [(0, (2, 67)), (1, (0, c)), (2, (0, s)), (3, (0, b))] [(0, xb (0 ≤ c ∧ c < H 67 1))] H
  refine xq_run [5, 12, 31, 39, 70, 81] 300 ?_
  show ((xb (0 ≤ c ∧ c < H 67 1) = 0) → xfR 0 (-1) ∧ xKZ = xKZ ∧ Q (-1) H) ∧ (¬ (xb (0 ≤ c ∧ c < H 67 1) = 0) → xWM (xE X) xMC d 39 [(0, s)] xKZ H _)
  refine ⟨fun k_ => ?_, fun k_ => ?_⟩
  · replace h := h.2 (xbe_0.mp k_)
    exact ⟨trivial, rfl, h⟩
  · replace h := h.1 (xbe_1.mp k_)
    refine xc_in (s_39 (by omega) s H  ?_)
    replace h := h
    show xq X d 48 Q 12 [(0, (2, 67)), (1, (0, c)), (2, (0, s)), (3, (0, b))] [(0, xb (0 ≤ s ∧ s ≤ 4))] H
    refine xq_run [5, 12, 31, 39, 70, 81] 300 ?_
    show ((xb (0 ≤ s ∧ s ≤ 4) = 0) → xfR 0 (-1) ∧ xKZ = xKZ ∧ Q (-1) H) ∧ (¬ (xb (0 ≤ s ∧ s ≤ 4) = 0) → ((0 : Int) ≤ 0 ∧ (0 : Int) < 1180) ∧ ((¬ H 68 0 = 0) → xWM (xE X) xMC d 42 [(2, 67), (0, c)] xKZ H _) ∧ (¬ (¬ H 68 0 = 0) → xfR 0 (-1) ∧ xKZ = xKZ ∧ Q (-1) H))
    refine ⟨fun k_ => ?_, fun k_ => ?_⟩
    · replace h := h.2 (xbe_0.mp k_)
      exact ⟨trivial, rfl, h⟩
    · replace h := h.1 (xbe_1.mp k_)
      refine ⟨⟨by decide, by decide⟩, ?_⟩
      refine ⟨fun k_ => ?_, fun k_ => ?_⟩
      · replace h := h.1 k_
        refine xc_in (s_42 (by omega) c H (h.1) (h.2.1) (h.2.2.1) (h.2.2.2.1) ?_)
        replace h := h.2.2.2.2
        show xq X d 48 Q 31 [(0, (2, 67)), (1, (0, c)), (2, (0, s)), (3, (0, b))] [(0, nrS (H 67 0) (H 67 1) (fun e => H 68 (160 + e)) c)] H
        refine xq_run [5, 12, 31, 39, 70, 81] 300 ?_
        show xq X d 48 Q 39 [(0, (2, 67)), (1, (0, c)), (2, (0, s)), (3, (0, b)), (4, (0, nrS (H 67 0) (H 67 1) (fun e => H 68 (160 + e)) c)), (5, (0, (-1))), (6, (0, 0))] [] H
        exact h
      · replace h := h.2 k_
        exact ⟨trivial, rfl, h⟩
theorem U_48_39 {X : Int × (Int → Int)} {d : Nat} {Q : Int → XH → Prop} (hd : 2 ≤ d) (v1 v2 v3 v4 v5 v6 : Int) (H : XH) (h : ((H 67 1 ≤ v6) → Q v5 H) ∧ (¬ (H 67 1 ≤ v6) → (xI (160 + v6)) ∧ ((0 : Int) ≤ 160 + v6 ∧ (160 + v6 : Int) < 1180) ∧ ((¬ H 68 (160 + v6) = 1) → (xI (v6 + 1)) ∧ xq X d 48 Q 39 [(0, (2, 67)), (1, (0, v1)), (2, (0, v2)), (3, (0, v3)), (4, (0, v4)), (5, (0, v5)), (6, (0, v6 + 1))] [] H) ∧ (¬ (¬ H 68 (160 + v6) = 1) → (1 ≤ H 67 0 ∧ H 67 0 ≤ 8) ∧ (0 ≤ v6 ∧ v6 < 64) ∧ (0 ≤ v1 ∧ v1 < 64) ∧ (((¬ btw (H 67 0) v6 v1 = v4) → (xI (v6 + 1)) ∧ xq X d 48 Q 39 [(0, (2, 67)), (1, (0, v1)), (2, (0, v2)), (3, (0, v3)), (4, (0, v4)), (5, (0, v5)), (6, (0, v6 + 1))] [] H) ∧ (¬ (¬ btw (H 67 0) v6 v1 = v4) → xq X d 48 Q 81 [(0, (2, 67)), (1, (0, v1)), (2, (0, v2)), (3, (0, v3)), (4, (0, v4)), (5, (0, v5)), (6, (0, v6)), (7, (0, 0)), (8, (0, 0))] [] H))))) : xq X d 48 Q 39 [(0, (2, 67)), (1, (0, v1)), (2, (0, v2)), (3, (0, v3)), (4, (0, v4)), (5, (0, v5)), (6, (0, v6))] [] H := by
  show xq X d 48 Q 39 [(0, (2, 67)), (1, (0, v1)), (2, (0, v2)), (3, (0, v3)), (4, (0, v4)), (5, (0, v5)), (6, (0, v6))] [] H
  refine xq_run [5, 12, 31, 39, 70, 81] 300 ?_
  show ((H 67 1 ≤ v6) → xfR 0 v5 ∧ xKZ = xKZ ∧ Q v5 H) ∧ (¬ (H 67 1 ≤ v6) → (xI (160 + v6)) ∧ ((0 : Int) ≤ 160 + v6 ∧ (160 + v6 : Int) < 1180) ∧ ((¬ H 68 (160 + v6) = 1) → (xI (v6 + 1)) ∧ xq X d 48 Q 39 [(0, (2, 67)), (1, (0, v1)), (2, (0, v2)), (3, (0, v3)), (4, (0, v4)), (5, (0, v5)), (6, (0, v6 + 1))] [] H) ∧ (¬ (¬ H 68 (160 + v6) = 1) → xWM (xE X) xMC d 41 [(2, 67), (0, v6), (0, v1)] xKZ H _))
  refine ⟨fun k_ => ?_, fun k_ => ?_⟩
  · replace h := h.1 k_
    exact ⟨trivial, rfl, h⟩
  · replace h := h.2 k_
    refine ⟨h.1, ?_⟩
    replace h := h.2
    refine ⟨h.1, ?_⟩
    replace h := h.2
    refine ⟨fun k_ => ?_, fun k_ => ?_⟩
    · replace h := h.1 k_
      refine ⟨h.1, ?_⟩
      replace h := h.2
      exact h
    · replace h := h.2 k_
      refine xc_in (s_41 (by omega) v6 v1 H (h.1) (h.2.1) (h.2.2.1) ?_)
      replace h := h.2.2.2
      show xq X d 48 Q 70 [(0, (2, 67)), (1, (0, v1)), (2, (0, v2)), (3, (0, v3)), (4, (0, v4)), (5, (0, v5)), (6, (0, v6))] [(0, btw (H 67 0) v6 v1)] H
      refine xq_run [5, 12, 31, 39, 70, 81] 300 ?_
      show ((¬ btw (H 67 0) v6 v1 = v4) → (xI (v6 + 1)) ∧ xq X d 48 Q 39 [(0, (2, 67)), (1, (0, v1)), (2, (0, v2)), (3, (0, v3)), (4, (0, v4)), (5, (0, v5)), (6, (0, v6 + 1))] [] H) ∧ (¬ (¬ btw (H 67 0) v6 v1 = v4) → xq X d 48 Q 81 [(0, (2, 67)), (1, (0, v1)), (2, (0, v2)), (3, (0, v3)), (4, (0, v4)), (5, (0, v5)), (6, (0, v6)), (7, (0, 0)), (8, (0, 0))] [] H)
      refine ⟨fun k_ => ?_, fun k_ => ?_⟩
      · replace h := h.1 k_
        refine ⟨h.1, ?_⟩
        replace h := h.2
        exact h
      · replace h := h.2 k_
        exact h
theorem U_48_81 {X : Int × (Int → Int)} {d : Nat} {Q : Int → XH → Prop} (hd : 0 ≤ d) (v1 v2 v3 v4 v5 v6 v7 v8 : Int) (H : XH) (h : ((5 ≤ v8) → (xI (5 * v6)) ∧ (xI (230 + (5 * v6))) ∧ (xI ((230 + (5 * v6)) + v2)) ∧ ((0 : Int) ≤ (230 + (5 * v6)) + v2 ∧ ((230 + (5 * v6)) + v2 : Int) < 1180) ∧ (xI (1000 * (H 68 ((230 + (5 * v6)) + v2)))) ∧ (¬ v7 = 0 ∧ xI (Int.tdiv (1000 * (H 68 ((230 + (5 * v6)) + v2))) v7)) ∧ ((v5 = (-1)) → (xI (v6 + 1)) ∧ xq X d 48 Q 39 [(0, (2, 67)), (1, (0, v1)), (2, (0, v2)), (3, (0, v3)), (4, (0, v4)), (5, (0, Int.tdiv (1000 * (H 68 ((230 + (5 * v6)) + v2))) v7)), (6, (0, v6 + 1))] [] H) ∧ (¬ (v5 = (-1)) → ((v3 = 0) → ((v5 ≤ Int.tdiv (1000 * (H 68 ((230 + (5 * v6)) + v2))) v7) → (xI (v6 + 1)) ∧ xq X d 48 Q 39 [(0, (2, 67)), (1, (0, v1)), (2, (0, v2)), (3, (0, v3)), (4, (0, v4)), (5, (0, v5)), (6, (0, v6 + 1))] [] H) ∧ (¬ (v5 ≤ Int.tdiv (1000 * (H 68 ((230 + (5 * v6)) + v2))) v7) → (xI (v6 + 1)) ∧ xq X d 48 Q 39 [(0, (2, 67)), (1, (0, v1)), (2, (0, v2)), (3, (0, v3)), (4, (0, v4)), (5, (0, Int.tdiv (1000 * (H 68 ((230 + (5 * v6)) + v2))) v7)), (6, (0, v6 + 1))] [] H)) ∧ (¬ (v3 = 0) → ((Int.tdiv (1000 * (H 68 ((230 + (5 * v6)) + v2))) v7 ≤ v5) → (xI (v6 + 1)) ∧ xq X d 48 Q 39 [(0, (2, 67)), (1, (0, v1)), (2, (0, v2)), (3, (0, v3)), (4, (0, v4)), (5, (0, v5)), (6, (0, v6 + 1))] [] H) ∧ (¬ (Int.tdiv (1000 * (H 68 ((230 + (5 * v6)) + v2))) v7 ≤ v5) → (xI (v6 + 1)) ∧ xq X d 48 Q 39 [(0, (2, 67)), (1, (0, v1)), (2, (0, v2)), (3, (0, v3)), (4, (0, v4)), (5, (0, Int.tdiv (1000 * (H 68 ((230 + (5 * v6)) + v2))) v7)), (6, (0, v6 + 1))] [] H)))) ∧ (¬ (5 ≤ v8) → (xI (5 * v6)) ∧ (xI (230 + (5 * v6))) ∧ (xI ((230 + (5 * v6)) + v8)) ∧ ((0 : Int) ≤ (230 + (5 * v6)) + v8 ∧ ((230 + (5 * v6)) + v8 : Int) < 1180) ∧ (xI (v7 + (H 68 ((230 + (5 * v6)) + v8)))) ∧ (xI (v8 + 1)) ∧ xq X d 48 Q 81 [(0, (2, 67)), (1, (0, v1)), (2, (0, v2)), (3, (0, v3)), (4, (0, v4)), (5, (0, v5)), (6, (0, v6)), (7, (0, v7 + (H 68 ((230 + (5 * v6)) + v8)))), (8, (0, v8 + 1))] [] H)) : xq X d 48 Q 81 [(0, (2, 67)), (1, (0, v1)), (2, (0, v2)), (3, (0, v3)), (4, (0, v4)), (5, (0, v5)), (6, (0, v6)), (7, (0, v7)), (8, (0, v8))] [] H := by
  show xq X d 48 Q 81 [(0, (2, 67)), (1, (0, v1)), (2, (0, v2)), (3, (0, v3)), (4, (0, v4)), (5, (0, v5)), (6, (0, v6)), (7, (0, v7)), (8, (0, v8))] [] H
  refine xq_run [5, 12, 31, 39, 70, 81] 300 ?_
  show ((5 ≤ v8) → (xI (5 * v6)) ∧ (xI (230 + (5 * v6))) ∧ (xI ((230 + (5 * v6)) + v2)) ∧ ((0 : Int) ≤ (230 + (5 * v6)) + v2 ∧ ((230 + (5 * v6)) + v2 : Int) < 1180) ∧ (xI (1000 * (H 68 ((230 + (5 * v6)) + v2)))) ∧ (¬ v7 = 0 ∧ xI (Int.tdiv (1000 * (H 68 ((230 + (5 * v6)) + v2))) v7)) ∧ ((v5 = (-1)) → (xI (v6 + 1)) ∧ xq X d 48 Q 39 [(0, (2, 67)), (1, (0, v1)), (2, (0, v2)), (3, (0, v3)), (4, (0, v4)), (5, (0, Int.tdiv (1000 * (H 68 ((230 + (5 * v6)) + v2))) v7)), (6, (0, v6 + 1))] [] H) ∧ (¬ (v5 = (-1)) → ((v3 = 0) → ((v5 ≤ Int.tdiv (1000 * (H 68 ((230 + (5 * v6)) + v2))) v7) → (xI (v6 + 1)) ∧ xq X d 48 Q 39 [(0, (2, 67)), (1, (0, v1)), (2, (0, v2)), (3, (0, v3)), (4, (0, v4)), (5, (0, v5)), (6, (0, v6 + 1))] [] H) ∧ (¬ (v5 ≤ Int.tdiv (1000 * (H 68 ((230 + (5 * v6)) + v2))) v7) → (xI (v6 + 1)) ∧ xq X d 48 Q 39 [(0, (2, 67)), (1, (0, v1)), (2, (0, v2)), (3, (0, v3)), (4, (0, v4)), (5, (0, Int.tdiv (1000 * (H 68 ((230 + (5 * v6)) + v2))) v7)), (6, (0, v6 + 1))] [] H)) ∧ (¬ (v3 = 0) → ((Int.tdiv (1000 * (H 68 ((230 + (5 * v6)) + v2))) v7 ≤ v5) → (xI (v6 + 1)) ∧ xq X d 48 Q 39 [(0, (2, 67)), (1, (0, v1)), (2, (0, v2)), (3, (0, v3)), (4, (0, v4)), (5, (0, v5)), (6, (0, v6 + 1))] [] H) ∧ (¬ (Int.tdiv (1000 * (H 68 ((230 + (5 * v6)) + v2))) v7 ≤ v5) → (xI (v6 + 1)) ∧ xq X d 48 Q 39 [(0, (2, 67)), (1, (0, v1)), (2, (0, v2)), (3, (0, v3)), (4, (0, v4)), (5, (0, Int.tdiv (1000 * (H 68 ((230 + (5 * v6)) + v2))) v7)), (6, (0, v6 + 1))] [] H)))) ∧ (¬ (5 ≤ v8) → (xI (5 * v6)) ∧ (xI (230 + (5 * v6))) ∧ (xI ((230 + (5 * v6)) + v8)) ∧ ((0 : Int) ≤ (230 + (5 * v6)) + v8 ∧ ((230 + (5 * v6)) + v8 : Int) < 1180) ∧ (xI (v7 + (H 68 ((230 + (5 * v6)) + v8)))) ∧ (xI (v8 + 1)) ∧ xq X d 48 Q 81 [(0, (2, 67)), (1, (0, v1)), (2, (0, v2)), (3, (0, v3)), (4, (0, v4)), (5, (0, v5)), (6, (0, v6)), (7, (0, v7 + (H 68 ((230 + (5 * v6)) + v8)))), (8, (0, v8 + 1))] [] H)
  refine ⟨fun k_ => ?_, fun k_ => ?_⟩
  · replace h := h.1 k_
    refine ⟨h.1, ?_⟩
    replace h := h.2
    refine ⟨h.1, ?_⟩
    replace h := h.2
    refine ⟨h.1, ?_⟩
    replace h := h.2
    refine ⟨h.1, ?_⟩
    replace h := h.2
    refine ⟨h.1, ?_⟩
    replace h := h.2
    refine ⟨h.1, ?_⟩
    replace h := h.2
    refine ⟨fun k_ => ?_, fun k_ => ?_⟩
    · replace h := h.1 k_
      refine ⟨h.1, ?_⟩
      replace h := h.2
      exact h
    · replace h := h.2 k_
      refine ⟨fun k_ => ?_, fun k_ => ?_⟩
      · replace h := h.1 k_
        refine ⟨fun k_ => ?_, fun k_ => ?_⟩
        · replace h := h.1 k_
          refine ⟨h.1, ?_⟩
          replace h := h.2
          exact h
        · replace h := h.2 k_
          refine ⟨h.1, ?_⟩
          replace h := h.2
          exact h
      · replace h := h.2 k_
        refine ⟨fun k_ => ?_, fun k_ => ?_⟩
        · replace h := h.1 k_
          refine ⟨h.1, ?_⟩
          replace h := h.2
          exact h
        · replace h := h.2 k_
          refine ⟨h.1, ?_⟩
          replace h := h.2
          exact h
  · replace h := h.2 k_
    refine ⟨h.1, ?_⟩
    replace h := h.2
    refine ⟨h.1, ?_⟩
    replace h := h.2
    refine ⟨h.1, ?_⟩
    replace h := h.2
    refine ⟨h.1, ?_⟩
    replace h := h.2
    refine ⟨h.1, ?_⟩
    replace h := h.2
    refine ⟨h.1, ?_⟩
    replace h := h.2
    exact h

theorem s_47 {X : Int × (Int → Int)} {d : Nat} {Q : Int → XH → Prop} (hd : 8 ≤ d) (c s b : Int) (H : XH) (hi : InvS H) (hQ : ∀ h1 : XH, frC H h1 → Q (vSpan (H 67 0) (H 67 1) (H 68) c s b) h1) : xc X d 47 [(2, 0), (0, c), (0, s), (0, b)] H Q := by
  cases d with
  | zero => omega
  | succ d =>
  have hg := hi.1
  have hs := hi.2
  have nn := hg.nn
  have ww := hg.ww
  have l2 := hs.l2
  have hc := hs.c
  have lyb := hg.lyb
  have bnd := hg.bnd
  have k := hQ _ (frC_refl H)
  refine U_47 (by omega) c s b H ?_
  refine ⟨fun c1 => ?_, fun c1 => ?_⟩
  · skip
    refine ⟨fun c2 => ?_, fun c2 => ?_⟩
    · skip
      refine ⟨?_, ?_⟩
      · first | omega | exact hi | exact hg | exact lk | (unfold xI; omega)
      refine ⟨?_, ?_⟩
      · first | omega | exact hi | exact hg | exact lk | (unfold xI; omega)
      refine ⟨?_, ?_⟩
      · first | omega | exact hi | exact hg | exact lk | (unfold xI; omega)
      exact k
    · skip
      unfold vSpan at k
      rw [if_neg (by omega)] at k
      exact k
  · skip
    unfold vSpan at k
    rw [if_neg (by omega)] at k
    exact k

theorem s_48 {X : Int × (Int → Int)} {d : Nat} {Q : Int → XH → Prop} (hd : 8 ≤ d) (c s b : Int) (H : XH) (hg : GOk (H 67 0) (H 67 1) (H 68)) (hQ : ∀ h1 : XH, frM H h1 → Q (vSpan (H 67 0) (H 67 1) (H 68) c s b) h1) : xc X d 48 [(2, 67), (0, c), (0, s), (0, b)] H Q := by
  cases d with
  | zero => omega
  | succ d =>
  have nn := hg.nn
  have ww := hg.ww
  have lyb := hg.lyb
  have bnd := hg.bnd
  have hQ := hQ _ (frM_refl H)
  have g0 := hg.g0
  by_cases pc : (0 ≤ c ∧ c < H 67 1) ∧ (0 ≤ s ∧ s ≤ 4)
  · unfold vSpan at hQ
    rw [if_pos pc] at hQ
    obtain ⟨V, hV⟩ : ∃ V, spR (spP (H 67 0) (H 67 1) (H 68) c) (fun o => shV (fun k => H 68 (230 + k)) o s) b (H 67 1).toNat 0 (-1) = V := ⟨_, rfl⟩
    rw [hV] at hQ
    have key : ∀ (k : Nat) (o a : Int), 0 ≤ o → o + k = H 67 1 → spR (spP (H 67 0) (H 67 1) (H 68) c) (fun o => shV (fun k => H 68 (230 + k)) o s) b k o a = V → xq X d 48 Q 39 [(0, (2, 67)), (1, (0, c)), (2, (0, s)), (3, (0, b)), (4, (0, nrS (H 67 0) (H 67 1) (fun e => H 68 (160 + e)) c)), (5, (0, a)), (6, (0, o))] [] H := by
      intro k
      induction k with
      | zero =>
        intro o a h0 hn hq
        unfold spR at hq
        rw [← hq] at hQ
        refine U_48_39 (by omega) c s b (nrS (H 67 0) (H 67 1) (fun e => H 68 (160 + e)) c) a o H ?_
        refine ⟨fun c1 => ?_, fun c1 => ?_⟩
        · skip
          first | exact hQ | (exfalso; omega)
        · skip
          refine ⟨?_, ?_⟩
          · first | omega | (unfold xI; omega) | (unfold xJ; omega) | assumption | (exfalso; omega) | exact hg
          refine ⟨?_, ?_⟩
          · first | omega | (unfold xI; omega) | (unfold xJ; omega) | assumption | (exfalso; omega) | exact hg
          refine ⟨fun c2 => ?_, fun c2 => ?_⟩
          · skip
            refine ⟨?_, ?_⟩
            · first | omega | (unfold xI; omega) | (unfold xJ; omega) | assumption | (exfalso; omega) | exact hg
            first | exact hQ | (exfalso; omega)
          · skip
            refine ⟨?_, ?_⟩
            · first | omega | (unfold xI; omega) | (unfold xJ; omega) | assumption | (exfalso; omega) | exact hg
            refine ⟨?_, ?_⟩
            · first | omega | (unfold xI; omega) | (unfold xJ; omega) | assumption | (exfalso; omega) | exact hg
            refine ⟨?_, ?_⟩
            · first | omega | (unfold xI; omega) | (unfold xJ; omega) | assumption | (exfalso; omega) | exact hg
            refine ⟨fun c3 => ?_, fun c3 => ?_⟩
            · skip
              refine ⟨?_, ?_⟩
              · first | omega | (unfold xI; omega) | (unfold xJ; omega) | assumption | (exfalso; omega) | exact hg
              first | exact hQ | (exfalso; omega)
            · skip
              first | exact hQ | (exfalso; omega)
      | succ k ih =>
        intro o a h0 hn hq
        unfold spR spP at hq
        have dg := hg.dgb o h0 (by omega)
        have nx : ∀ a', a' = (if (if ¬ H 68 (160 + o) = 0 ∧ btw (H 67 0) c o = nrS (H 67 0) (H 67 1) (fun e => H 68 (160 + e)) c then (1 : Int) else 0) = 0 then a else if a = -1 ∨ (b = 0 ∧ shV (fun k => H 68 (230 + k)) o s < a) ∨ (¬ b = 0 ∧ a < shV (fun k => H 68 (230 + k)) o s) then shV (fun k => H 68 (230 + k)) o s else a) → xq X d 48 Q 39 [(0, (2, 67)), (1, (0, c)), (2, (0, s)), (3, (0, b)), (4, (0, nrS (H 67 0) (H 67 1) (fun e => H 68 (160 + e)) c)), (5, (0, a')), (6, (0, o + 1))] [] H := fun a' ha => ih (o + 1) a' (by omega) (by omega) (by rw [ha]; exact hq)
        have cm := btw_comm (H 67 0) o c
        have inner : ¬ H 68 (160 + o) = 0 → btw (H 67 0) c o = nrS (H 67 0) (H 67 1) (fun e => H 68 (160 + e)) c → xq X d 48 Q 81 [(0, (2, 67)), (1, (0, c)), (2, (0, s)), (3, (0, b)), (4, (0, nrS (H 67 0) (H 67 1) (fun e => H 68 (160 + e)) c)), (5, (0, a)), (6, (0, o)), (7, (0, 0)), (8, (0, 0))] [] H := by
          intro z1 z2
          have r := shV_rng hg (o := o) (s := s) ⟨h0, by omega⟩ (by omega) z1
          have st : ∀ v t, 0 ≤ t → t < 5 → (0 ≤ v ∧ v ≤ 100) → xq X d 48 Q 81 [(0, (2, 67)), (1, (0, c)), (2, (0, s)), (3, (0, b)), (4, (0, nrS (H 67 0) (H 67 1) (fun e => H 68 (160 + e)) c)), (5, (0, a)), (6, (0, o)), (7, (0, v + H 68 (230 + 5 * o + t))), (8, (0, t + 1))] [] H → xq X d 48 Q 81 [(0, (2, 67)), (1, (0, c)), (2, (0, s)), (3, (0, b)), (4, (0, nrS (H 67 0) (H 67 1) (fun e => H 68 (160 + e)) c)), (5, (0, a)), (6, (0, o)), (7, (0, v)), (8, (0, t))] [] H := by
            intro v t t0 t5 hv hk
            have ab := hg.amb (o * 5 + t) (by omega) (by omega)
            rw [show 230 + (o * 5 + t) = 230 + 5 * o + t by omega] at ab
            refine U_48_81 (by omega) c s b (nrS (H 67 0) (H 67 1) (fun e => H 68 (160 + e)) c) a o v t H ?_
            refine ⟨fun c1 => ?_, fun c1 => ?_⟩
            · skip
              refine ⟨?_, ?_⟩
              · first | omega | (unfold xI; omega) | exact ⟨by omega, by unfold xI; omega⟩ | (exfalso; omega)
              refine ⟨?_, ?_⟩
              · first | omega | (unfold xI; omega) | exact ⟨by omega, by unfold xI; omega⟩ | (exfalso; omega)
              refine ⟨?_, ?_⟩
              · first | omega | (unfold xI; omega) | exact ⟨by omega, by unfold xI; omega⟩ | (exfalso; omega)
              refine ⟨?_, ?_⟩
              · first | omega | (unfold xI; omega) | exact ⟨by omega, by unfold xI; omega⟩ | (exfalso; omega)
              refine ⟨?_, ?_⟩
              · first | omega | (unfold xI; omega) | exact ⟨by omega, by unfold xI; omega⟩ | (exfalso; omega)
              refine ⟨?_, ?_⟩
              · first | omega | (unfold xI; omega) | exact ⟨by omega, by unfold xI; omega⟩ | (exfalso; omega)
              refine ⟨fun c2 => ?_, fun c2 => ?_⟩
              · skip
                refine ⟨?_, ?_⟩
                · first | omega | (unfold xI; omega) | exact ⟨by omega, by unfold xI; omega⟩ | (exfalso; omega)
                first | exact hk | (exfalso; omega)
              · skip
                refine ⟨fun c3 => ?_, fun c3 => ?_⟩
                · skip
                  refine ⟨fun c4 => ?_, fun c4 => ?_⟩
                  · skip
                    refine ⟨?_, ?_⟩
                    · first | omega | (unfold xI; omega) | exact ⟨by omega, by unfold xI; omega⟩ | (exfalso; omega)
                    first | exact hk | (exfalso; omega)
                  · skip
                    refine ⟨?_, ?_⟩
                    · first | omega | (unfold xI; omega) | exact ⟨by omega, by unfold xI; omega⟩ | (exfalso; omega)
                    first | exact hk | (exfalso; omega)
                · skip
                  refine ⟨fun c5 => ?_, fun c5 => ?_⟩
                  · skip
                    refine ⟨?_, ?_⟩
                    · first | omega | (unfold xI; omega) | exact ⟨by omega, by unfold xI; omega⟩ | (exfalso; omega)
                    first | exact hk | (exfalso; omega)
                  · skip
                    refine ⟨?_, ?_⟩
                    · first | omega | (unfold xI; omega) | exact ⟨by omega, by unfold xI; omega⟩ | (exfalso; omega)
                    first | exact hk | (exfalso; omega)
            · skip
              refine ⟨?_, ?_⟩
              · first | omega | (unfold xI; omega) | exact ⟨by omega, by unfold xI; omega⟩ | (exfalso; omega)
              refine ⟨?_, ?_⟩
              · first | omega | (unfold xI; omega) | exact ⟨by omega, by unfold xI; omega⟩ | (exfalso; omega)
              refine ⟨?_, ?_⟩
              · first | omega | (unfold xI; omega) | exact ⟨by omega, by unfold xI; omega⟩ | (exfalso; omega)
              refine ⟨?_, ?_⟩
              · first | omega | (unfold xI; omega) | exact ⟨by omega, by unfold xI; omega⟩ | (exfalso; omega)
              refine ⟨?_, ?_⟩
              · first | omega | (unfold xI; omega) | exact ⟨by omega, by unfold xI; omega⟩ | (exfalso; omega)
              refine ⟨?_, ?_⟩
              · first | omega | (unfold xI; omega) | exact ⟨by omega, by unfold xI; omega⟩ | (exfalso; omega)
              first | exact hk | (exfalso; omega)
          have ab := fun t (p : 0 ≤ t) (q : t < 5) => hg.amb (o * 5 + t) (by omega) (by omega)
          have e5 : ∀ t : Int, 230 + (o * 5 + t) = 230 + 5 * o + t := fun t => by omega
          have b0 := ab 0 (by decide) (by decide)
          have b1 := ab 1 (by decide) (by decide)
          have b2 := ab 2 (by decide) (by decide)
          have b3 := ab 3 (by decide) (by decide)
          have b4 := ab 4 (by decide) (by decide)
          rw [e5] at b0 b1 b2 b3 b4
          refine st 0 0 (by decide) (by decide) (by omega) ?_
          refine st (0 + H 68 (230 + 5 * o + 0)) 1 (by decide) (by decide) (by omega) ?_
          refine st (0 + H 68 (230 + 5 * o + 0) + H 68 (230 + 5 * o + 1)) 2 (by decide) (by decide) (by omega) ?_
          refine st (0 + H 68 (230 + 5 * o + 0) + H 68 (230 + 5 * o + 1) + H 68 (230 + 5 * o + 2)) 3 (by decide) (by decide) (by omega) ?_
          refine st (0 + H 68 (230 + 5 * o + 0) + H 68 (230 + 5 * o + 1) + H 68 (230 + 5 * o + 2) + H 68 (230 + 5 * o + 3)) 4 (by decide) (by decide) (by omega) ?_
          have eT : 0 + H 68 (230 + 5 * o + 0) + H 68 (230 + 5 * o + 1) + H 68 (230 + 5 * o + 2) + H 68 (230 + 5 * o + 3) + H 68 (230 + 5 * o + 4) = sum5 (fun k => H 68 (230 + k)) (o * 5) := by
            unfold sum5
            dsimp only
            simp only [Int.mul_comm o 5, ← Int.add_assoc, Int.zero_add, Int.add_zero]
          rw [eT]
          have eS : (1000 * H 68 (230 + 5 * o + s)).tdiv (sum5 (fun k => H 68 (230 + k)) (o * 5)) = shV (fun k => H 68 (230 + k)) o s := by
            unfold shV
            dsimp only
            rw [e5]
          have bs := ab s (by omega) (by omega)
          rw [e5] at bs
          refine U_48_81 (by omega) c s b (nrS (H 67 0) (H 67 1) (fun e => H 68 (160 + e)) c) a o (sum5 (fun k => H 68 (230 + k)) (o * 5)) (4 + 1) H ?_
          rw [eS]
          refine ⟨fun c1 => ?_, fun c1 => ?_⟩
          · skip
            refine ⟨?_, ?_⟩
            · first | omega | (unfold xI; omega) | exact ⟨by omega, by unfold xI; omega⟩ | (exfalso; omega)
            refine ⟨?_, ?_⟩
            · first | omega | (unfold xI; omega) | exact ⟨by omega, by unfold xI; omega⟩ | (exfalso; omega)
            refine ⟨?_, ?_⟩
            · first | omega | (unfold xI; omega) | exact ⟨by omega, by unfold xI; omega⟩ | (exfalso; omega)
            refine ⟨?_, ?_⟩
            · first | omega | (unfold xI; omega) | exact ⟨by omega, by unfold xI; omega⟩ | (exfalso; omega)
            refine ⟨?_, ?_⟩
            · first | omega | (unfold xI; omega) | exact ⟨by omega, by unfold xI; omega⟩ | (exfalso; omega)
            refine ⟨?_, ?_⟩
            · first | omega | (unfold xI; omega) | exact ⟨by omega, by unfold xI; omega⟩ | (exfalso; omega)
            refine ⟨fun c2 => ?_, fun c2 => ?_⟩
            · skip
              refine ⟨?_, ?_⟩
              · first | omega | (unfold xI; omega) | exact ⟨by omega, by unfold xI; omega⟩ | (exfalso; omega)
              first | (exfalso; omega) | (refine nx _ ?_; first | (rw [if_neg (by rw [if_pos ⟨z1, z2⟩]; decide), if_pos (by omega)]) | (rw [if_neg (by rw [if_pos ⟨z1, z2⟩]; decide), if_neg (by omega)]))
            · skip
              refine ⟨fun c3 => ?_, fun c3 => ?_⟩
              · skip
                refine ⟨fun c4 => ?_, fun c4 => ?_⟩
                · skip
                  refine ⟨?_, ?_⟩
                  · first | omega | (unfold xI; omega) | exact ⟨by omega, by unfold xI; omega⟩ | (exfalso; omega)
                  first | (exfalso; omega) | (refine nx _ ?_; first | (rw [if_neg (by rw [if_pos ⟨z1, z2⟩]; decide), if_pos (by omega)]) | (rw [if_neg (by rw [if_pos ⟨z1, z2⟩]; decide), if_neg (by omega)]))
                · skip
                  refine ⟨?_, ?_⟩
                  · first | omega | (unfold xI; omega) | exact ⟨by omega, by unfold xI; omega⟩ | (exfalso; omega)
                  first | (exfalso; omega) | (refine nx _ ?_; first | (rw [if_neg (by rw [if_pos ⟨z1, z2⟩]; decide), if_pos (by omega)]) | (rw [if_neg (by rw [if_pos ⟨z1, z2⟩]; decide), if_neg (by omega)]))
              · skip
                refine ⟨fun c5 => ?_, fun c5 => ?_⟩
                · skip
                  refine ⟨?_, ?_⟩
                  · first | omega | (unfold xI; omega) | exact ⟨by omega, by unfold xI; omega⟩ | (exfalso; omega)
                  first | (exfalso; omega) | (refine nx _ ?_; first | (rw [if_neg (by rw [if_pos ⟨z1, z2⟩]; decide), if_pos (by omega)]) | (rw [if_neg (by rw [if_pos ⟨z1, z2⟩]; decide), if_neg (by omega)]))
                · skip
                  refine ⟨?_, ?_⟩
                  · first | omega | (unfold xI; omega) | exact ⟨by omega, by unfold xI; omega⟩ | (exfalso; omega)
                  first | (exfalso; omega) | (refine nx _ ?_; first | (rw [if_neg (by rw [if_pos ⟨z1, z2⟩]; decide), if_pos (by omega)]) | (rw [if_neg (by rw [if_pos ⟨z1, z2⟩]; decide), if_neg (by omega)]))
          · skip
            refine ⟨?_, ?_⟩
            · first | omega | (unfold xI; omega) | exact ⟨by omega, by unfold xI; omega⟩ | (exfalso; omega)
            refine ⟨?_, ?_⟩
            · first | omega | (unfold xI; omega) | exact ⟨by omega, by unfold xI; omega⟩ | (exfalso; omega)
            refine ⟨?_, ?_⟩
            · first | omega | (unfold xI; omega) | exact ⟨by omega, by unfold xI; omega⟩ | (exfalso; omega)
            refine ⟨?_, ?_⟩
            · first | omega | (unfold xI; omega) | exact ⟨by omega, by unfold xI; omega⟩ | (exfalso; omega)
            refine ⟨?_, ?_⟩
            · first | omega | (unfold xI; omega) | exact ⟨by omega, by unfold xI; omega⟩ | (exfalso; omega)
            refine ⟨?_, ?_⟩
            · first | omega | (unfold xI; omega) | exact ⟨by omega, by unfold xI; omega⟩ | (exfalso; omega)
            first | (exfalso; omega) | (refine nx _ ?_; first | (rw [if_neg (by rw [if_pos ⟨z1, z2⟩]; decide), if_pos (by omega)]) | (rw [if_neg (by rw [if_pos ⟨z1, z2⟩]; decide), if_neg (by omega)]))
        refine U_48_39 (by omega) c s b (nrS (H 67 0) (H 67 1) (fun e => H 68 (160 + e)) c) a o H ?_
        refine ⟨fun c1 => ?_, fun c1 => ?_⟩
        · skip
          exfalso
          omega
        · skip
          refine ⟨?_, ?_⟩
          · first | omega | exact hg | (unfold xI; omega) | (exfalso; omega)
          refine ⟨?_, ?_⟩
          · first | omega | exact hg | (unfold xI; omega) | (exfalso; omega)
          refine ⟨fun c2 => ?_, fun c2 => ?_⟩
          · skip
            refine ⟨?_, ?_⟩
            · first | omega | exact hg | (unfold xI; omega) | (exfalso; omega)
            refine nx _ ?_
            rw [if_pos (if_neg (by omega))]
          · skip
            refine ⟨?_, ?_⟩
            · first | omega | exact hg | (unfold xI; omega) | (exfalso; omega)
            refine ⟨?_, ?_⟩
            · first | omega | exact hg | (unfold xI; omega) | (exfalso; omega)
            refine ⟨?_, ?_⟩
            · first | omega | exact hg | (unfold xI; omega) | (exfalso; omega)
            refine ⟨fun c3 => ?_, fun c3 => ?_⟩
            · skip
              refine ⟨?_, ?_⟩
              · first | omega | exact hg | (unfold xI; omega) | (exfalso; omega)
              refine nx _ ?_
              rw [if_pos (if_neg (by omega))]
            · skip
              exact inner (by omega) (by omega)
    have no : H 68 0 = 0 → Q (-1) H := fun z => by
      have dz := dug_none hg z
      rw [spR_none (n := H 67 1) (fun o p q => by
        unfold spP
        rw [if_neg (fun y => y.1 (dz o p (by omega)))]) _ _ _ (by omega) (by omega)] at hV
      rw [← hV] at hQ
      exact hQ
    refine U_48 (by omega) c s b H ?_
    refine ⟨?_, ?_⟩
    · first | omega | exact hg.dgb
    refine ⟨fun c1 => ?_, fun c1 => ?_⟩
    · skip
      refine ⟨fun c2 => ?_, fun c2 => ?_⟩
      · skip
        refine ⟨fun c3 => ?_, fun c3 => ?_⟩
        · skip
          refine ⟨?_, ?_⟩
          · first | omega | exact hg.dgb
          refine ⟨?_, ?_⟩
          · first | omega | exact hg.dgb
          refine ⟨?_, ?_⟩
          · first | omega | exact hg.dgb
          refine ⟨?_, ?_⟩
          · first | omega | exact hg.dgb
          first | exact key (H 67 1).toNat 0 (-1) (by omega) (by omega) hV | exact no (by omega) | (exfalso; omega)
        · skip
          first | exact key (H 67 1).toNat 0 (-1) (by omega) (by omega) hV | exact no (by omega) | (exfalso; omega)
      · skip
        first | exact key (H 67 1).toNat 0 (-1) (by omega) (by omega) hV | exact no (by omega) | (exfalso; omega)
    · skip
      first | exact key (H 67 1).toNat 0 (-1) (by omega) (by omega) hV | exact no (by omega) | (exfalso; omega)
  · unfold vSpan at hQ
    rw [if_neg pc] at hQ
    refine U_48 (by omega) c s b H ?_
    refine ⟨?_, ?_⟩
    · first | omega | exact hg.dgb
    refine ⟨fun c1 => ?_, fun c1 => ?_⟩
    · skip
      refine ⟨fun c2 => ?_, fun c2 => ?_⟩
      · skip
        refine ⟨fun c3 => ?_, fun c3 => ?_⟩
        · skip
          refine ⟨?_, ?_⟩
          · first | omega | exact hg.dgb
          refine ⟨?_, ?_⟩
          · first | omega | exact hg.dgb
          refine ⟨?_, ?_⟩
          · first | omega | exact hg.dgb
          refine ⟨?_, ?_⟩
          · first | omega | exact hg.dgb
          first | exact hQ | (exfalso; omega)
        · skip
          first | exact hQ | (exfalso; omega)
      · skip
        first | exact hQ | (exfalso; omega)
    · skip
      first | exact hQ | (exfalso; omega)

theorem p_span {X : Int × (Int → Int)} {d : Nat} (hd : 8 ≤ d) (c s b : Int) (H : XH) (hi : InvS H) : xc X d 47 [(2, 0), (0, c), (0, s), (0, b)] H (fun r H1 => xc X d 48 [(2, 67), (0, c), (0, s), (0, b)] H1 (qOk H r)) :=
  s_47 (by omega) c s b H hi (fun h1 f => s_48 (by omega) c s b h1 (frC_S f hi).1 (fun h2 f' => ⟨by rw [f 67 (by decide) (by decide), f 68 (by decide) (by decide)], frQ_CM f f'⟩))
