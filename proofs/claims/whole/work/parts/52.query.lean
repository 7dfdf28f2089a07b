/-! THE PURE LAYER 22: far, odds, soil: the pairs -/
theorem U_63 {X : Int × (Int → Int)} {d : Nat} {Q : Int → XH → Prop} (hd : 1 ≤ d) (l : Int) (H : XH) (h : (xI ((H 68 1) - 1)) ∧ (Q (xb (0 ≤ l ∧ l ≤ ((H 68 1) - 1))) H)) : xc X (d + 1) 63 [(2, 67), (0, l)] H Q := by
  refine ⟨rfl, ?_⟩
  show xq X d 63 Q 100000 [(0, (2, 67)), (1, (0, l))] [] H
  refine xq_run [13] 300 ?_
  show ((0 : Int) ≤ 1 ∧ (1 : Int) < 1180) ∧ (xI ((H 68 1) - 1)) ∧ xWM (xE X) xMC d 23 [(0, l), (0, 0), (0, (H 68 1) - 1)] xKZ H _
  refine ⟨⟨by decide, by decide⟩, ?_⟩
  refine ⟨h.1, ?_⟩
  replace h := h.2
  refine xc_in (s_23 (by omega) l 0 ((H 68 1) - 1) H  ?_)
  replace h := h
  show xq X d 63 Q 13 [(0, (2, 67)), (1, (0, l))] [(0, xb (0 ≤ l ∧ l ≤ ((H 68 1) - 1)))] H
  refine xq_run [13] 300 ?_
  show xfR 3 (xb (0 ≤ l ∧ l ≤ ((H 68 1) - 1))) ∧ xKZ = xKZ ∧ Q (xb (0 ≤ l ∧ l ≤ ((H 68 1) - 1))) H
  exact ⟨xfR3_b, rfl, h⟩

theorem s_63 {X : Int × (Int → Int)} {d : Nat} {Q : Int → XH → Prop} (hd : 2 ≤ d) (l : Int) (H : XH) (p : 0 ≤ H 68 1 ∧ H 68 1 ≤ 8) (hQ : Q (xb (0 ≤ l ∧ l < H 68 1)) H) : xc X d 63 [(2, 67), (0, l)] H Q := by
  cases d with
  | zero => omega
  | succ d =>
  rw [xb_congr (c' := 0 ≤ l ∧ l ≤ H 68 1 - 1) (by omega)] at hQ
  refine U_63 (by omega) l H ?_
  refine ⟨?_, ?_⟩
  · first | omega | (unfold xI; omega) | (unfold xJ; omega) | assumption | (exfalso; omega)
  exact hQ

def vFar (w n : Int) (g : Int → Int) (l c : Int) : Int := if (0 ≤ l ∧ l < g 1) ∧ (0 ≤ c ∧ c < n) then frV w n g l c else -1

theorem U_62 {X : Int × (Int → Int)} {d : Nat} {Q : Int → XH → Prop} (hd : 6 ≤ d) (l c : Int) (w n : Int) (g : Int → Int) (H : XH) (h : ((((0 ≤ l ∧ l < H 7 1)) → ((((0 ≤ c ∧ c < H 2 2)) → (InvS H) ∧ (∀ (h9 : XH), (frC H h9 ∧ lkOk (H 67 0) (H 67 1) (H 68) (h9 40) (h9 41) (h9 42) (h9 39)) → (lkA w n g h9) ∧ (0 ≤ l ∧ l < g 1) ∧ (0 ≤ c ∧ c < n) ∧ (Q (frV w n g l c) h9))) ∧ (¬ ((0 ≤ c ∧ c < H 2 2)) → Q (-1) H))) ∧ (¬ ((0 ≤ l ∧ l < H 7 1)) → Q (-1) H))) : xc X (d + 1) 62 [(2, 0), (0, l), (0, c)] H Q := by
  refine ⟨rfl, ?_⟩
  show xq X d 62 Q 100000 [(0, (2, 0)), (1, (0, l)), (2, (0, c))] [] H
  refine xq_run [11, 25, 41, 50] 300 ?_
  show xWM (xE X) xMC d 49 [(2, 7), (0, l)] xKZ H _
  refine xc_in (s_49_o7 (by omega) l H  ?_)
  replace h := h
  show xq X d 62 Q 11 [(0, (2, 0)), (1, (0, l)), (2, (0, c))] [(0, xb (0 ≤ l ∧ l < H 7 1))] H
  refine xq_run [11, 25, 41, 50] 300 ?_
  show ((xb (0 ≤ l ∧ l < H 7 1) = 0) → xfR 0 (-1) ∧ xKZ = xKZ ∧ Q (-1) H) ∧ (¬ (xb (0 ≤ l ∧ l < H 7 1) = 0) → xWM (xE X) xMC d 18 [(2, 2), (0, c)] xKZ H _)
  refine ⟨fun k_ => ?_, fun k_ => ?_⟩
  · replace h := h.2 (xbe_0.mp k_)
    exact ⟨trivial, rfl, h⟩
  · replace h := h.1 (xbe_1.mp k_)
    refine xc_in (s_18 (by omega) c H  ?_)
    replace h := h
    show xq X d 62 Q 25 [(0, (2, 0)), (1, (0, l)), (2, (0, c))] [(0, xb (0 ≤ c ∧ c < H 2 2))] H
    refine xq_run [11, 25, 41, 50] 300 ?_
    show ((¬ xb (0 ≤ c ∧ c < H 2 2) = 0) → xWM (xE X) xMC d 60 [(2, 39), (2, 1)] xKZ H _) ∧ (¬ (¬ xb (0 ≤ c ∧ c < H 2 2) = 0) → xfR 0 (-1) ∧ xKZ = xKZ ∧ Q (-1) H)
    refine ⟨fun k_ => ?_, fun k_ => ?_⟩
    · replace h := h.1 (xbe_1.mp k_)
      refine xc_in (s_60 (by omega) H (h.1) ?_)
      intro h9 q_0
      replace h := h.2 h9 q_0
      show xq X d 62 Q 41 [(0, (2, 0)), (1, (0, l)), (2, (0, c))] [] h9
      refine xq_run [11, 25, 41, 50] 300 ?_
      show xWM (xE X) xMC d 61 [(2, 39), (0, l), (0, c)] xKZ h9 _
      refine xc_in (s_61b (by omega) w n g l c h9 (h.1) (h.2.1) (h.2.2.1) ?_)
      replace h := h.2.2.2
      show xq X d 62 Q 50 [(0, (2, 0)), (1, (0, l)), (2, (0, c))] [(0, frV w n g l c)] h9
      refine xq_run [11, 25, 41, 50] 300 ?_
      show xfR 0 (frV w n g l c) ∧ xKZ = xKZ ∧ Q (frV w n g l c) h9
      exact ⟨trivial, rfl, h⟩
    · replace h := h.2 (xbe_n.mp k_)
      exact ⟨trivial, rfl, h⟩

theorem s_62 {X : Int × (Int → Int)} {d : Nat} {Q : Int → XH → Prop} (hd : 8 ≤ d) (l c : Int) (H : XH) (hi : InvS H) (hQ : ∀ h1 : XH, frC H h1 → Q (vFar (H 67 0) (H 67 1) (H 68) l c) h1) : xc X d 62 [(2, 0), (0, l), (0, c)] H Q := by
  cases d with
  | zero => omega
  | succ d =>
  have hg := hi.1
  have hs := hi.2
  have nn := hg.nn
  have ww := hg.ww
  have l2 := hs.l2
  have hc := hs.c
  have lyb := hg.lyb
  have bnd := hg.bnd
  refine U_62 (by omega) l c (H 67 0) (H 67 1) (H 68) H ?_
  refine ⟨fun c1 => ?_, fun c1 => ?_⟩
  · skip
    refine ⟨fun c2 => ?_, fun c2 => ?_⟩
    · skip
      refine ⟨?_, ?_⟩
      · first | omega | exact hi | exact hg | exact lk | (unfold xI; omega)
      intro h10 c3
      have lk : lkA (H 67 0) (H 67 1) (H 68) h10 := And.intro hg c3.2
      have fr := c3.1
      refine ⟨?_, ?_⟩
      · first | omega | exact hi | exact hg | exact lk | (unfold xI; omega)
      refine ⟨?_, ?_⟩
      · first | omega | exact hi | exact hg | exact lk | (unfold xI; omega)
      refine ⟨?_, ?_⟩
      · first | omega | exact hi | exact hg | exact lk | (unfold xI; omega)
      have k := hQ _ fr
      unfold vFar at k
      rw [if_pos (by omega)] at k
      exact k
    · skip
      have k := hQ _ (frC_refl H)
      unfold vFar at k
      rw [if_neg (by omega)] at k
      exact k
  · skip
    have k := hQ _ (frC_refl H)
    unfold vFar at k
    rw [if_neg (by omega)] at k
    exact k

theorem U_67 {X : Int × (Int → Int)} {d : Nat} {Q : Int → XH → Prop} (hd : 5 ≤ d) (l c : Int) (H : XH) (h : (0 ≤ H 68 1 ∧ H 68 1 ≤ 8) ∧ ((((0 ≤ l ∧ l < H 68 1)) → (-2147483648 < H 67 1 ∧ H 67 1 ≤ 2147483647) ∧ ((((0 ≤ c ∧ c < H 67 1)) → (GOk (H 67 0) (H 67 1) (H 68)) ∧ (0 ≤ l ∧ l < H 68 1) ∧ (0 ≤ c ∧ c < H 67 1) ∧ (∀ (h11 : XH), (frM H h11) → Q (frV (H 67 0) (H 67 1) (H 68) l c) h11)) ∧ (¬ ((0 ≤ c ∧ c < H 67 1)) → Q (-1) H))) ∧ (¬ ((0 ≤ l ∧ l < H 68 1)) → Q (-1) H))) : xc X (d + 1) 67 [(2, 67), (0, l), (0, c)] H Q := by
  refine ⟨rfl, ?_⟩
  show xq X d 67 Q 100000 [(0, (2, 67)), (1, (0, l)), (2, (0, c))] [] H
  refine xq_run [5, 13, 22] 300 ?_
  show xWM (xE X) xMC d 63 [(2, 67), (0, l)] xKZ H _
  refine xc_in (s_63 (by omega) l H (h.1) ?_)
  replace h := h.2
  show xq X d 67 Q 5 [(0, (2, 67)), (1, (0, l)), (2, (0, c))] [(0, xb (0 ≤ l ∧ l < H 68 1))] H
  refine xq_run [5, 13, 22] 300 ?_
  show ((xb (0 ≤ l ∧ l < H 68 1) = 0) → xfR 0 (-1) ∧ xKZ = xKZ ∧ Q (-1) H) ∧ (¬ (xb (0 ≤ l ∧ l < H 68 1) = 0) → xWM (xE X) xMC d 24 [(2, 67), (0, c)] xKZ H _)
  refine ⟨fun k_ => ?_, fun k_ => ?_⟩
  · replace h := h.2 (xbe_0.mp k_)
    exact ⟨trivial, rfl, h⟩
  · replace h := h.1 (xbe_1.mp k_)
    refine xc_in (s_24 (by omega) c H (h.1) ?_)
    replace h := h.2
    show xq X d 67 Q 13 [(0, (2, 67)), (1, (0, l)), (2, (0, c))] [(0, xb (0 ≤ c ∧ c < H 67 1))] H
    refine xq_run [5, 13, 22] 300 ?_
    show ((xb (0 ≤ c ∧ c < H 67 1) = 0) → xfR 0 (-1) ∧ xKZ = xKZ ∧ Q (-1) H) ∧ (¬ (xb (0 ≤ c ∧ c < H 67 1) = 0) → xWM (xE X) xMC d 66 [(2, 67), (0, l), (0, c)] xKZ H _)
    refine ⟨fun k_ => ?_, fun k_ => ?_⟩
    · replace h := h.2 (xbe_0.mp k_)
      exact ⟨trivial, rfl, h⟩
    · replace h := h.1 (xbe_1.mp k_)
      refine xc_in (s_66 (by omega) l c H (h.1) (h.2.1) (h.2.2.1) ?_)
      intro h11 q_0
      replace h := h.2.2.2 h11 q_0
      show xq X d 67 Q 22 [(0, (2, 67)), (1, (0, l)), (2, (0, c))] [(0, frV (H 67 0) (H 67 1) (H 68) l c)] h11
      refine xq_run [5, 13, 22] 300 ?_
      show xfR 0 (frV (H 67 0) (H 67 1) (H 68) l c) ∧ xKZ = xKZ ∧ Q (frV (H 67 0) (H 67 1) (H 68) l c) h11
      exact ⟨trivial, rfl, h⟩

theorem s_67 {X : Int × (Int → Int)} {d : Nat} {Q : Int → XH → Prop} (hd : 8 ≤ d) (l c : Int) (H : XH) (hg : GOk (H 67 0) (H 67 1) (H 68)) (hQ : ∀ h1 : XH, frM H h1 → Q (vFar (H 67 0) (H 67 1) (H 68) l c) h1) : xc X d 67 [(2, 67), (0, l), (0, c)] H Q := by
  cases d with
  | zero => omega
  | succ d =>
  have nn := hg.nn
  have ww := hg.ww
  have lyb := hg.lyb
  have bnd := hg.bnd
  refine U_67 (by omega) l c H ?_
  refine ⟨?_, ?_⟩
  · first | omega | exact hi | exact hg | exact lk | (unfold xI; omega)
  refine ⟨fun c1 => ?_, fun c1 => ?_⟩
  · skip
    refine ⟨?_, ?_⟩
    · first | omega | exact hi | exact hg | exact lk | (unfold xI; omega)
    refine ⟨fun c2 => ?_, fun c2 => ?_⟩
    · skip
      refine ⟨?_, ?_⟩
      · first | omega | exact hi | exact hg | exact lk | (unfold xI; omega)
      refine ⟨?_, ?_⟩
      · first | omega | exact hi | exact hg | exact lk | (unfold xI; omega)
      refine ⟨?_, ?_⟩
      · first | omega | exact hi | exact hg | exact lk | (unfold xI; omega)
      intro h12 c3
      have k := hQ _ (by assumption)
      unfold vFar at k
      rw [if_pos (by omega)] at k
      exact k
    · skip
      have k := hQ _ (frM_refl H)
      unfold vFar at k
      rw [if_neg (by omega)] at k
      exact k
  · skip
    have k := hQ _ (frM_refl H)
    unfold vFar at k
    rw [if_neg (by omega)] at k
    exact k

theorem p_far {X : Int × (Int → Int)} {d : Nat} (hd : 8 ≤ d) (l c : Int) (H : XH) (hi : InvS H) : xc X d 62 [(2, 0), (0, l), (0, c)] H (fun r H1 => xc X d 67 [(2, 67), (0, l), (0, c)] H1 (qOk H r)) :=
  s_62 (by omega) l c H hi (fun h1 f => s_67 (by omega) l c h1 (frC_S f hi).1 (fun h2 f' => ⟨by rw [f 67 (by decide) (by decide), f 68 (by decide) (by decide)], frQ_CM f f'⟩))

/-- the weights of all cells that are alike, from cell c on, k of them -/
def odA (f b : Int → Int) (m : Int) : Nat → Int → Int → Int
  | 0, _, v => v
  | k + 1, c, v => odA f b m k (c + 1) (if f c = 0 then v else v + (m + 1 - b c))
theorem odA_rng {f b : Int → Int} {m n : Int} (h : ∀ c, 0 ≤ c → c < n → ¬ f c = 0 → 0 ≤ b c ∧ b c ≤ m) (hm : 0 ≤ m ∧ m ≤ 1000) : ∀ (k : Nat) (c v : Int), 0 ≤ c → c + k ≤ n → v ≤ odA f b m k c v
  | 0, _, _, _, _ => Int.le_refl _
  | k + 1, c, v, h0, h1 => by
    unfold odA
    have k1 := odA_rng h hm k (c + 1) (if f c = 0 then v else v + (m + 1 - b c)) (by omega) (by omega)
    by_cases q : f c = 0
    · rw [if_pos q] at k1 ⊢
      exact k1
    · have := h c h0 (by omega) q
      rw [if_neg q] at k1 ⊢
      omega
theorem odA_ge {f b : Int → Int} {m n : Int} (h : ∀ c, 0 ≤ c → c < n → ¬ f c = 0 → 0 ≤ b c ∧ b c ≤ m) (hm : 0 ≤ m ∧ m ≤ 1000) {e : Int} (he : ¬ f e = 0) : ∀ (k : Nat) (c v : Int), 0 ≤ v → 0 ≤ c → c + k ≤ n → c ≤ e → e < c + k → 1 ≤ odA f b m k c v
  | 0, c, v, hv, h0, h1, h2, h3 => by omega
  | k + 1, c, v, hv, h0, h1, h2, h3 => by
    unfold odA
    by_cases hce : c = e
    · subst hce
      rw [if_neg he]
      have := h c h0 (by omega) he
      have k1 := odA_rng h hm k (c + 1) (v + (m + 1 - b c)) (by omega) (by omega)
      omega
    · refine odA_ge h hm he k (c + 1) _ ?_ (by omega) (by omega) (by omega) (by omega)
      by_cases q : f c = 0
      · rw [if_pos q]
        exact hv
      · have := h c h0 (by omega) q
        rw [if_neg q]
        omega
def vOdds (w n : Int) (g : Int → Int) (l c : Int) : Int := if (0 ≤ l ∧ l < g 1) ∧ (0 ≤ c ∧ c < n) then (if alB w n g l c = 0 then 0 else (1000 * (g 6 + 1 - frV w n g l c)).tdiv (odA (alB w n g l) (frV w n g l) (g 6) n.toNat 0 0)) else -1
theorem alB_fr {w n : Int} {g : Int → Int} (hg : GOk w n g) {l c : Int} (hl : 0 ≤ l ∧ l < g 1) (h : ¬ alB w n g l c = 0) : 0 ≤ frV w n g l c ∧ frV w n g l c ≤ g 6 := by
  have k := frV_rng hg (c := c) hl
  unfold alB at h
  split at h
  · omega
  · omega
theorem odA_1 {w n : Int} {g : Int → Int} (hg : GOk w n g) {l c : Int} (hl : 0 ≤ l ∧ l < g 1) (hc : 0 ≤ c ∧ c < n) (h : ¬ alB w n g l c = 0) : 1 ≤ odA (alB w n g l) (frV w n g l) (g 6) n.toNat 0 0 :=
  odA_ge (f := alB w n g l) (b := frV w n g l) (n := n) (fun e _ _ q => alB_fr hg hl q) hg.bnd h n.toNat 0 0 (Int.le_refl _) (Int.le_refl _) (by omega) hc.1 (by omega)

theorem U_75 {X : Int × (Int → Int)} {d : Nat} {Q : Int → XH → Prop} (hd : 3 ≤ d) (l c : Int) (w n : Int) (g : Int → Int) (H : XH) (h : (lkA w n g H) ∧ (0 ≤ l ∧ l < g 1) ∧ (0 ≤ c ∧ c < n) ∧ (((¬ alB w n g l c = 0) → xq X d 75 Q 16 [(0, (2, 39)), (1, (0, l)), (2, (0, c)), (3, (0, 0)), (4, (0, 0))] [] H) ∧ (¬ (¬ alB w n g l c = 0) → Q 0 H))) : xc X (d + 1) 75 [(2, 39), (0, l), (0, c)] H Q := by
  refine ⟨rfl, ?_⟩
  show xq X d 75 Q 100000 [(0, (2, 39)), (1, (0, l)), (2, (0, c))] [] H
  refine xq_run [6, 16, 32, 49, 82] 300 ?_
  show xWM (xE X) xMC d 68 [(2, 39), (0, l), (0, c)] xKZ H _
  refine xc_in (s_68 (by omega) w n g l c H (h.1) (h.2.1) (h.2.2.1) ?_)
  replace h := h.2.2.2
  show xq X d 75 Q 6 [(0, (2, 39)), (1, (0, l)), (2, (0, c))] [(0, alB w n g l c)] H
  refine xq_run [6, 16, 32, 49, 82] 300 ?_
  show ((¬ alB w n g l c = 0) → xq X d 75 Q 16 [(0, (2, 39)), (1, (0, l)), (2, (0, c)), (3, (0, 0)), (4, (0, 0))] [] H) ∧ (¬ (¬ alB w n g l c = 0) → xfR 0 0 ∧ xKZ = xKZ ∧ Q 0 H)
  refine ⟨fun k_ => ?_, fun k_ => ?_⟩
  · replace h := h.1 k_
    exact h
  · replace h := h.2 k_
    exact ⟨trivial, rfl, h⟩
theorem U_75_16 {X : Int × (Int → Int)} {d : Nat} {Q : Int → XH → Prop} (hd : 3 ≤ d) (v1 v2 v3 v4 : Int) (w n : Int) (g : Int → Int) (H : XH) (h : ((H 39 6 ≤ v4) → ((1 ≤ v3) → (xI ((H 39 8) + 1)) ∧ (lkA w n g H) ∧ (0 ≤ v1 ∧ v1 < g 1) ∧ (0 ≤ v2 ∧ v2 < n) ∧ ((xI (((H 39 8) + 1) - (frV w n g v1 v2))) ∧ (xI (1000 * (((H 39 8) + 1) - (frV w n g v1 v2)))) ∧ (¬ v3 = 0 ∧ xI (Int.tdiv (1000 * (((H 39 8) + 1) - (frV w n g v1 v2))) v3)) ∧ Q (Int.tdiv (1000 * (((H 39 8) + 1) - (frV w n g v1 v2))) v3) H)) ∧ (¬ (1 ≤ v3) → Q 0 H)) ∧ (¬ (H 39 6 ≤ v4) → (lkA w n g H) ∧ (0 ≤ v1 ∧ v1 < g 1) ∧ (0 ≤ v4 ∧ v4 < n) ∧ (((alB w n g v1 v4 = 0) → (xI (v4 + 1)) ∧ xq X d 75 Q 16 [(0, (2, 39)), (1, (0, v1)), (2, (0, v2)), (3, (0, v3)), (4, (0, v4 + 1))] [] H) ∧ (¬ (alB w n g v1 v4 = 0) → (xI ((H 39 8) + 1)) ∧ (lkA w n g H) ∧ (0 ≤ v1 ∧ v1 < g 1) ∧ (0 ≤ v4 ∧ v4 < n) ∧ ((xI (((H 39 8) + 1) - (frV w n g v1 v4))) ∧ (xI (v3 + (((H 39 8) + 1) - (frV w n g v1 v4)))) ∧ (xI (v4 + 1)) ∧ xq X d 75 Q 16 [(0, (2, 39)), (1, (0, v1)), (2, (0, v2)), (3, (0, v3 + (((H 39 8) + 1) - (frV w n g v1 v4)))), (4, (0, v4 + 1))] [] H))))) : xq X d 75 Q 16 [(0, (2, 39)), (1, (0, v1)), (2, (0, v2)), (3, (0, v3)), (4, (0, v4))] [] H := by
  show xq X d 75 Q 16 [(0, (2, 39)), (1, (0, v1)), (2, (0, v2)), (3, (0, v3)), (4, (0, v4))] [] H
  refine xq_run [6, 16, 32, 49, 82] 300 ?_
  show ((H 39 6 ≤ v4) → ((1 ≤ v3) → (xI ((H 39 8) + 1)) ∧ xWM (xE X) xMC d 61 [(2, 39), (0, v1), (0, v2)] xKZ H _) ∧ (¬ (1 ≤ v3) → xfR 0 0 ∧ xKZ = xKZ ∧ Q 0 H)) ∧ (¬ (H 39 6 ≤ v4) → xWM (xE X) xMC d 68 [(2, 39), (0, v1), (0, v4)] xKZ H _)
  refine ⟨fun k_ => ?_, fun k_ => ?_⟩
  · replace h := h.1 k_
    refine ⟨fun k_ => ?_, fun k_ => ?_⟩
    · replace h := h.1 k_
      refine ⟨h.1, ?_⟩
      replace h := h.2
      refine xc_in (s_61b (by omega) w n g v1 v2 H (h.1) (h.2.1) (h.2.2.1) ?_)
      replace h := h.2.2.2
      show xq X d 75 Q 82 [(0, (2, 39)), (1, (0, v1)), (2, (0, v2)), (3, (0, v3)), (4, (0, v4))] [(0, frV w n g v1 v2), (0, (H 39 8) + 1), (0, 1000)] H
      refine xq_run [6, 16, 32, 49, 82] 300 ?_
      show (xI (((H 39 8) + 1) - (frV w n g v1 v2))) ∧ (xI (1000 * (((H 39 8) + 1) - (frV w n g v1 v2)))) ∧ (¬ v3 = 0 ∧ xI (Int.tdiv (1000 * (((H 39 8) + 1) - (frV w n g v1 v2))) v3)) ∧ xfR 0 (Int.tdiv (1000 * (((H 39 8) + 1) - (frV w n g v1 v2))) v3) ∧ xKZ = xKZ ∧ Q (Int.tdiv (1000 * (((H 39 8) + 1) - (frV w n g v1 v2))) v3) H
      refine ⟨h.1, ?_⟩
      replace h := h.2
      refine ⟨h.1, ?_⟩
      replace h := h.2
      refine ⟨h.1, ?_⟩
      replace h := h.2
      exact ⟨trivial, rfl, h⟩
    · replace h := h.2 k_
      exact ⟨trivial, rfl, h⟩
  · replace h := h.2 k_
    refine xc_in (s_68 (by omega) w n g v1 v4 H (h.1) (h.2.1) (h.2.2.1) ?_)
    replace h := h.2.2.2
    show xq X d 75 Q 32 [(0, (2, 39)), (1, (0, v1)), (2, (0, v2)), (3, (0, v3)), (4, (0, v4))] [(0, alB w n g v1 v4)] H
    refine xq_run [6, 16, 32, 49, 82] 300 ?_
    show ((alB w n g v1 v4 = 0) → (xI (v4 + 1)) ∧ xq X d 75 Q 16 [(0, (2, 39)), (1, (0, v1)), (2, (0, v2)), (3, (0, v3)), (4, (0, v4 + 1))] [] H) ∧ (¬ (alB w n g v1 v4 = 0) → (xI ((H 39 8) + 1)) ∧ xWM (xE X) xMC d 61 [(2, 39), (0, v1), (0, v4)] xKZ H _)
    refine ⟨fun k_ => ?_, fun k_ => ?_⟩
    · replace h := h.1 k_
      refine ⟨h.1, ?_⟩
      replace h := h.2
      exact h
    · replace h := h.2 k_
      refine ⟨h.1, ?_⟩
      replace h := h.2
      refine xc_in (s_61b (by omega) w n g v1 v4 H (h.1) (h.2.1) (h.2.2.1) ?_)
      replace h := h.2.2.2
      show xq X d 75 Q 49 [(0, (2, 39)), (1, (0, v1)), (2, (0, v2)), (3, (0, v3)), (4, (0, v4))] [(0, frV w n g v1 v4), (0, (H 39 8) + 1), (0, v3)] H
      refine xq_run [6, 16, 32, 49, 82] 300 ?_
      show (xI (((H 39 8) + 1) - (frV w n g v1 v4))) ∧ (xI (v3 + (((H 39 8) + 1) - (frV w n g v1 v4)))) ∧ (xI (v4 + 1)) ∧ xq X d 75 Q 16 [(0, (2, 39)), (1, (0, v1)), (2, (0, v2)), (3, (0, v3 + (((H 39 8) + 1) - (frV w n g v1 v4)))), (4, (0, v4 + 1))] [] H
      refine ⟨h.1, ?_⟩
      replace h := h.2
      refine ⟨h.1, ?_⟩
      replace h := h.2
      refine ⟨h.1, ?_⟩
      replace h := h.2
      exact h

theorem s_75 {X : Int × (Int → Int)} {d : Nat} {Q : Int → XH → Prop} (hd : 4 ≤ d) (w n : Int) (g : Int → Int) (l c : Int) (H : XH) (hk : lkA w n g H) (pl : 0 ≤ l ∧ l < g 1) (pc : 0 ≤ c ∧ c < n) (hQ : Q (vOdds w n g l c) H) : xc X d 75 [(2, 39), (0, l), (0, c)] H Q := by
  cases d with
  | zero => omega
  | succ d =>
  obtain ⟨hg, e6, e7, e8, hk2⟩ := id hk
  have nn := hg.nn
  have ww := hg.ww
  have lyb := hg.lyb
  have bnd := hg.bnd
  unfold vOdds at hQ
  rw [if_pos ⟨pl, pc⟩] at hQ
  obtain ⟨V, hV⟩ : ∃ V, odA (alB w n g l) (frV w n g l) (g 6) n.toNat 0 0 = V := ⟨_, rfl⟩
  rw [hV] at hQ
  have key : ¬ alB w n g l c = 0 → ∀ (k : Nat) (e v : Int), 0 ≤ e → e + k = n → 0 ≤ v → v ≤ 2000 * e → odA (alB w n g l) (frV w n g l) (g 6) k e v = V → xq X d 75 Q 16 [(0, (2, 39)), (1, (0, l)), (2, (0, c)), (3, (0, v)), (4, (0, e))] [] H := by
    intro hal k
    have h1 := odA_1 hg pl pc hal
    rw [hV] at h1
    have hfr := frV_rng hg (c := c) pl
    rw [if_neg hal] at hQ
    induction k with
    | zero =>
      intro e v h0 hn hv hv2 hq
      unfold odA at hq
      rw [← hq] at hQ h1
      have hd := tdivB (x := 1000 * (g 6 + 1 - frV w n g l c)) (y := v) (A := 1002000) (by have := alB_fr hg pl hal; omega) h1 (by have := alB_fr hg pl hal; have := mulB (x := 1002000) (y := v - 1) (A := 1002000) (B := v) (by omega) (by omega); rw [Int.mul_sub] at this; omega)
      refine U_75_16 (by omega) l c v e w n g H ?_
      refine ⟨fun c1 => ?_, fun c1 => ?_⟩
      · skip
        refine ⟨fun c2 => ?_, fun c2 => ?_⟩
        · skip
          refine ⟨?_, ?_⟩
          · first | exact hk | omega | (unfold xI; omega) | (rw [e8]; exact ⟨by omega, by unfold xI; omega⟩) | (exfalso; omega)
          refine ⟨?_, ?_⟩
          · first | exact hk | omega | (unfold xI; omega) | (rw [e8]; exact ⟨by omega, by unfold xI; omega⟩) | (exfalso; omega)
          refine ⟨?_, ?_⟩
          · first | exact hk | omega | (unfold xI; omega) | (rw [e8]; exact ⟨by omega, by unfold xI; omega⟩) | (exfalso; omega)
          refine ⟨?_, ?_⟩
          · first | exact hk | omega | (unfold xI; omega) | (rw [e8]; exact ⟨by omega, by unfold xI; omega⟩) | (exfalso; omega)
          refine ⟨?_, ?_⟩
          · first | exact hk | omega | (unfold xI; omega) | (rw [e8]; exact ⟨by omega, by unfold xI; omega⟩) | (exfalso; omega)
          refine ⟨?_, ?_⟩
          · first | exact hk | omega | (unfold xI; omega) | (rw [e8]; exact ⟨by omega, by unfold xI; omega⟩) | (exfalso; omega)
          refine ⟨?_, ?_⟩
          · first | exact hk | omega | (unfold xI; omega) | (rw [e8]; exact ⟨by omega, by unfold xI; omega⟩) | (exfalso; omega)
          first | (rw [e8]; exact hQ) | (exfalso; omega)
        · skip
          first | (rw [e8]; exact hQ) | (exfalso; omega)
      · skip
        refine ⟨?_, ?_⟩
        · first | exact hk | omega | (unfold xI; omega) | (rw [e8]; exact ⟨by omega, by unfold xI; omega⟩) | (exfalso; omega)
        refine ⟨?_, ?_⟩
        · first | exact hk | omega | (unfold xI; omega) | (rw [e8]; exact ⟨by omega, by unfold xI; omega⟩) | (exfalso; omega)
        refine ⟨?_, ?_⟩
        · first | exact hk | omega | (unfold xI; omega) | (rw [e8]; exact ⟨by omega, by unfold xI; omega⟩) | (exfalso; omega)
        refine ⟨fun c3 => ?_, fun c3 => ?_⟩
        · skip
          refine ⟨?_, ?_⟩
          · first | exact hk | omega | (unfold xI; omega) | (rw [e8]; exact ⟨by omega, by unfold xI; omega⟩) | (exfalso; omega)
          first | (rw [e8]; exact hQ) | (exfalso; omega)
        · skip
          refine ⟨?_, ?_⟩
          · first | exact hk | omega | (unfold xI; omega) | (rw [e8]; exact ⟨by omega, by unfold xI; omega⟩) | (exfalso; omega)
          refine ⟨?_, ?_⟩
          · first | exact hk | omega | (unfold xI; omega) | (rw [e8]; exact ⟨by omega, by unfold xI; omega⟩) | (exfalso; omega)
          refine ⟨?_, ?_⟩
          · first | exact hk | omega | (unfold xI; omega) | (rw [e8]; exact ⟨by omega, by unfold xI; omega⟩) | (exfalso; omega)
          refine ⟨?_, ?_⟩
          · first | exact hk | omega | (unfold xI; omega) | (rw [e8]; exact ⟨by omega, by unfold xI; omega⟩) | (exfalso; omega)
          refine ⟨?_, ?_⟩
          · first | exact hk | omega | (unfold xI; omega) | (rw [e8]; exact ⟨by omega, by unfold xI; omega⟩) | (exfalso; omega)
          refine ⟨?_, ?_⟩
          · first | exact hk | omega | (unfold xI; omega) | (rw [e8]; exact ⟨by omega, by unfold xI; omega⟩) | (exfalso; omega)
          refine ⟨?_, ?_⟩
          · first | exact hk | omega | (unfold xI; omega) | (rw [e8]; exact ⟨by omega, by unfold xI; omega⟩) | (exfalso; omega)
          first | (rw [e8]; exact hQ) | (exfalso; omega)
    | succ k ih =>
      intro e v h0 hn hv hv2 hq
      unfold odA at hq
      have hfe := frV_rng hg (c := e) pl
      refine U_75_16 (by omega) l c v e w n g H ?_
      refine ⟨fun c1 => ?_, fun c1 => ?_⟩
      · skip
        refine ⟨fun c2 => ?_, fun c2 => ?_⟩
        · skip
          refine ⟨?_, ?_⟩
          · first | exact hk | omega | (unfold xI; omega) | (exfalso; omega)
          refine ⟨?_, ?_⟩
          · first | exact hk | omega | (unfold xI; omega) | (exfalso; omega)
          refine ⟨?_, ?_⟩
          · first | exact hk | omega | (unfold xI; omega) | (exfalso; omega)
          refine ⟨?_, ?_⟩
          · first | exact hk | omega | (unfold xI; omega) | (exfalso; omega)
          refine ⟨?_, ?_⟩
          · first | exact hk | omega | (unfold xI; omega) | (exfalso; omega)
          refine ⟨?_, ?_⟩
          · first | exact hk | omega | (unfold xI; omega) | (exfalso; omega)
          refine ⟨?_, ?_⟩
          · first | exact hk | omega | (unfold xI; omega) | (exfalso; omega)
          first | (exfalso; omega) | (refine ih (e + 1) v (by omega) (by omega) hv (by omega) ?_; rw [if_pos (by assumption)] at hq; exact hq) | (have hf := alB_fr hg pl (c := e) (by assumption); rw [e8]; refine ih (e + 1) (v + (g 6 + 1 - frV w n g l e)) (by omega) (by omega) (by omega) (by omega) ?_; rw [if_neg (by assumption)] at hq; exact hq)
        · skip
          first | (exfalso; omega) | (refine ih (e + 1) v (by omega) (by omega) hv (by omega) ?_; rw [if_pos (by assumption)] at hq; exact hq) | (have hf := alB_fr hg pl (c := e) (by assumption); rw [e8]; refine ih (e + 1) (v + (g 6 + 1 - frV w n g l e)) (by omega) (by omega) (by omega) (by omega) ?_; rw [if_neg (by assumption)] at hq; exact hq)
      · skip
        refine ⟨?_, ?_⟩
        · first | exact hk | omega | (unfold xI; omega) | (exfalso; omega)
        refine ⟨?_, ?_⟩
        · first | exact hk | omega | (unfold xI; omega) | (exfalso; omega)
        refine ⟨?_, ?_⟩
        · first | exact hk | omega | (unfold xI; omega) | (exfalso; omega)
        refine ⟨fun c3 => ?_, fun c3 => ?_⟩
        · skip
          refine ⟨?_, ?_⟩
          · first | exact hk | omega | (unfold xI; omega) | (exfalso; omega)
          first | (exfalso; omega) | (refine ih (e + 1) v (by omega) (by omega) hv (by omega) ?_; rw [if_pos (by assumption)] at hq; exact hq) | (have hf := alB_fr hg pl (c := e) (by assumption); rw [e8]; refine ih (e + 1) (v + (g 6 + 1 - frV w n g l e)) (by omega) (by omega) (by omega) (by omega) ?_; rw [if_neg (by assumption)] at hq; exact hq)
        · skip
          refine ⟨?_, ?_⟩
          · first | exact hk | omega | (unfold xI; omega) | (exfalso; omega)
          refine ⟨?_, ?_⟩
          · first | exact hk | omega | (unfold xI; omega) | (exfalso; omega)
          refine ⟨?_, ?_⟩
          · first | exact hk | omega | (unfold xI; omega) | (exfalso; omega)
          refine ⟨?_, ?_⟩
          · first | exact hk | omega | (unfold xI; omega) | (exfalso; omega)
          refine ⟨?_, ?_⟩
          · first | exact hk | omega | (unfold xI; omega) | (exfalso; omega)
          refine ⟨?_, ?_⟩
          · first | exact hk | omega | (unfold xI; omega) | (exfalso; omega)
          refine ⟨?_, ?_⟩
          · first | exact hk | omega | (unfold xI; omega) | (exfalso; omega)
          first | (exfalso; omega) | (refine ih (e + 1) v (by omega) (by omega) hv (by omega) ?_; rw [if_pos (by assumption)] at hq; exact hq) | (have hf := alB_fr hg pl (c := e) (by assumption); rw [e8]; refine ih (e + 1) (v + (g 6 + 1 - frV w n g l e)) (by omega) (by omega) (by omega) (by omega) ?_; rw [if_neg (by assumption)] at hq; exact hq)
  refine U_75 (by omega) l c w n g H ?_
  refine ⟨?_, ?_⟩
  · first | exact hk | omega
  refine ⟨?_, ?_⟩
  · first | exact hk | omega
  refine ⟨?_, ?_⟩
  · first | exact hk | omega
  refine ⟨fun c1 => ?_, fun c1 => ?_⟩
  · skip
    first | (rw [if_pos (by omega)] at hQ; exact hQ) | (exact key (by assumption) n.toNat 0 0 (by omega) (by omega) (by omega) (by omega) hV)
  · skip
    first | (rw [if_pos (by omega)] at hQ; exact hQ) | (exact key (by assumption) n.toNat 0 0 (by omega) (by omega) (by omega) (by omega) hV)

theorem U_76 {X : Int × (Int → Int)} {d : Nat} {Q : Int → XH → Prop} (hd : 6 ≤ d) (l c : Int) (w n : Int) (g : Int → Int) (H : XH) (h : ((((0 ≤ l ∧ l < H 7 1)) → ((((0 ≤ c ∧ c < H 2 2)) → (InvS H) ∧ (∀ (h13 : XH), (frC H h13 ∧ lkOk (H 67 0) (H 67 1) (H 68) (h13 40) (h13 41) (h13 42) (h13 39)) → (lkA w n g h13) ∧ (0 ≤ l ∧ l < g 1) ∧ (0 ≤ c ∧ c < n) ∧ (Q (vOdds w n g l c) h13))) ∧ (¬ ((0 ≤ c ∧ c < H 2 2)) → Q (-1) H))) ∧ (¬ ((0 ≤ l ∧ l < H 7 1)) → Q (-1) H))) : xc X (d + 1) 76 [(2, 0), (0, l), (0, c)] H Q := by
  refine ⟨rfl, ?_⟩
  show xq X d 76 Q 100000 [(0, (2, 0)), (1, (0, l)), (2, (0, c))] [] H
  refine xq_run [11, 25, 41, 50] 300 ?_
  show xWM (xE X) xMC d 49 [(2, 7), (0, l)] xKZ H _
  refine xc_in (s_49_o7 (by omega) l H  ?_)
  replace h := h
  show xq X d 76 Q 11 [(0, (2, 0)), (1, (0, l)), (2, (0, c))] [(0, xb (0 ≤ l ∧ l < H 7 1))] H
  refine xq_run [11, 25, 41, 50] 300 ?_
  show ((xb (0 ≤ l ∧ l < H 7 1) = 0) → xfR 0 (-1) ∧ xKZ = xKZ ∧ Q (-1) H) ∧ (¬ (xb (0 ≤ l ∧ l < H 7 1) = 0) → xWM (xE X) xMC d 18 [(2, 2), (0, c)] xKZ H _)
  refine ⟨fun k_ => ?_, fun k_ => ?_⟩
  · replace h := h.2 (xbe_0.mp k_)
    exact ⟨trivial, rfl, h⟩
  · replace h := h.1 (xbe_1.mp k_)
    refine xc_in (s_18 (by omega) c H  ?_)
    replace h := h
    show xq X d 76 Q 25 [(0, (2, 0)), (1, (0, l)), (2, (0, c))] [(0, xb (0 ≤ c ∧ c < H 2 2))] H
    refine xq_run [11, 25, 41, 50] 300 ?_
    show ((¬ xb (0 ≤ c ∧ c < H 2 2) = 0) → xWM (xE X) xMC d 60 [(2, 39), (2, 1)] xKZ H _) ∧ (¬ (¬ xb (0 ≤ c ∧ c < H 2 2) = 0) → xfR 0 (-1) ∧ xKZ = xKZ ∧ Q (-1) H)
    refine ⟨fun k_ => ?_, fun k_ => ?_⟩
    · replace h := h.1 (xbe_1.mp k_)
      refine xc_in (s_60 (by omega) H (h.1) ?_)
      intro h13 q_0
      replace h := h.2 h13 q_0
      show xq X d 76 Q 41 [(0, (2, 0)), (1, (0, l)), (2, (0, c))] [] h13
      refine xq_run [11, 25, 41, 50] 300 ?_
      show xWM (xE X) xMC d 75 [(2, 39), (0, l), (0, c)] xKZ h13 _
      refine xc_in (s_75 (by omega) w n g l c h13 (h.1) (h.2.1) (h.2.2.1) ?_)
      replace h := h.2.2.2
      show xq X d 76 Q 50 [(0, (2, 0)), (1, (0, l)), (2, (0, c))] [(0, vOdds w n g l c)] h13
      refine xq_run [11, 25, 41, 50] 300 ?_
      show xfR 0 (vOdds w n g l c) ∧ xKZ = xKZ ∧ Q (vOdds w n g l c) h13
      exact ⟨trivial, rfl, h⟩
    · replace h := h.2 (xbe_n.mp k_)
      exact ⟨trivial, rfl, h⟩

theorem s_76 {X : Int × (Int → Int)} {d : Nat} {Q : Int → XH → Prop} (hd : 8 ≤ d) (l c : Int) (H : XH) (hi : InvS H) (hQ : ∀ h1 : XH, frC H h1 → Q (vOdds (H 67 0) (H 67 1) (H 68) l c) h1) : xc X d 76 [(2, 0), (0, l), (0, c)] H Q := by
  cases d with
  | zero => omega
  | succ d =>
  have hg := hi.1
  have hs := hi.2
  have nn := hg.nn
  have ww := hg.ww
  have l2 := hs.l2
  have hc := hs.c
  have lyb := hg.lyb
  have bnd := hg.bnd
  refine U_76 (by omega) l c (H 67 0) (H 67 1) (H 68) H ?_
  refine ⟨fun c1 => ?_, fun c1 => ?_⟩
  · skip
    refine ⟨fun c2 => ?_, fun c2 => ?_⟩
    · skip
      refine ⟨?_, ?_⟩
      · first | omega | exact hi | exact hg | exact lk | (unfold xI; omega)
      intro h14 c3
      have lk : lkA (H 67 0) (H 67 1) (H 68) h14 := And.intro hg c3.2
      have fr := c3.1
      refine ⟨?_, ?_⟩
      · first | omega | exact hi | exact hg | exact lk | (unfold xI; omega)
      refine ⟨?_, ?_⟩
      · first | omega | exact hi | exact hg | exact lk | (unfold xI; omega)
      refine ⟨?_, ?_⟩
      · first | omega | exact hi | exact hg | exact lk | (unfold xI; omega)
      exact hQ _ fr
    · skip
      have k := hQ _ (frC_refl H)
      unfold vOdds at k
      rw [if_neg (by omega)] at k
      exact k
  · skip
    have k := hQ _ (frC_refl H)
    unfold vOdds at k
    rw [if_neg (by omega)] at k
    exact k

theorem U_77 {X : Int × (Int → Int)} {d : Nat} {Q : Int → XH → Prop} (hd : 2 ≤ d) (l c : Int) (H : XH) (h : (0 ≤ H 68 1 ∧ H 68 1 ≤ 8) ∧ ((((0 ≤ l ∧ l < H 68 1)) → (-2147483648 < H 67 1 ∧ H 67 1 ≤ 2147483647) ∧ ((((0 ≤ c ∧ c < H 67 1)) → xq X d 77 Q 23 [(0, (2, 67)), (1, (0, l)), (2, (0, c)), (3, (0, 0)), (4, (0, 0))] [] H) ∧ (¬ ((0 ≤ c ∧ c < H 67 1)) → Q (-1) H))) ∧ (¬ ((0 ≤ l ∧ l < H 68 1)) → Q (-1) H))) : xc X (d + 1) 77 [(2, 67), (0, l), (0, c)] H Q := by
  refine ⟨rfl, ?_⟩
  show xq X d 77 Q 100000 [(0, (2, 67)), (1, (0, l)), (2, (0, c))] [] H
  refine xq_run [5, 13, 23, 40, 59, 78, 99] 300 ?_
  show xWM (xE X) xMC d 63 [(2, 67), (0, l)] xKZ H _
  refine xc_in (s_63 (by omega) l H (h.1) ?_)
  replace h := h.2
  show xq X d 77 Q 5 [(0, (2, 67)), (1, (0, l)), (2, (0, c))] [(0, xb (0 ≤ l ∧ l < H 68 1))] H
  refine xq_run [5, 13, 23, 40, 59, 78, 99] 300 ?_
  show ((xb (0 ≤ l ∧ l < H 68 1) = 0) → xfR 0 (-1) ∧ xKZ = xKZ ∧ Q (-1) H) ∧ (¬ (xb (0 ≤ l ∧ l < H 68 1) = 0) → xWM (xE X) xMC d 24 [(2, 67), (0, c)] xKZ H _)
  refine ⟨fun k_ => ?_, fun k_ => ?_⟩
  · replace h := h.2 (xbe_0.mp k_)
    exact ⟨trivial, rfl, h⟩
  · replace h := h.1 (xbe_1.mp k_)
    refine xc_in (s_24 (by omega) c H (h.1) ?_)
    replace h := h.2
    show xq X d 77 Q 13 [(0, (2, 67)), (1, (0, l)), (2, (0, c))] [(0, xb (0 ≤ c ∧ c < H 67 1))] H
    refine xq_run [5, 13, 23, 40, 59, 78, 99] 300 ?_
    show ((¬ xb (0 ≤ c ∧ c < H 67 1) = 0) → xq X d 77 Q 23 [(0, (2, 67)), (1, (0, l)), (2, (0, c)), (3, (0, 0)), (4, (0, 0))] [] H) ∧ (¬ (¬ xb (0 ≤ c ∧ c < H 67 1) = 0) → xfR 0 (-1) ∧ xKZ = xKZ ∧ Q (-1) H)
    refine ⟨fun k_ => ?_, fun k_ => ?_⟩
    · replace h := h.1 (xbe_1.mp k_)
      exact h
    · replace h := h.2 (xbe_n.mp k_)
      exact ⟨trivial, rfl, h⟩
theorem U_77_23 {X : Int × (Int → Int)} {d : Nat} {Q : Int → XH → Prop} (hd : 6 ≤ d) (v1 v2 v3 v4 : Int) (H : XH) (h : ((H 67 1 ≤ v4) → (GOk (H 67 0) (H 67 1) (H 68)) ∧ (0 ≤ v1 ∧ v1 < H 68 1) ∧ (0 ≤ v2 ∧ v2 < H 67 1) ∧ (∀ (h15 : XH), (frM H h15) → ((alB (H 67 0) (H 67 1) (H 68) v1 v2 = 0) → Q 0 h15) ∧ (¬ (alB (H 67 0) (H 67 1) (H 68) v1 v2 = 0) → (xI ((h15 68 6) + 1)) ∧ (GOk (h15 67 0) (h15 67 1) (h15 68)) ∧ (0 ≤ v1 ∧ v1 < h15 68 1) ∧ (0 ≤ v2 ∧ v2 < h15 67 1) ∧ (∀ (h16 : XH), (frM h15 h16) → (xI (((h15 68 6) + 1) - (frV (h15 67 0) (h15 67 1) (h15 68) v1 v2))) ∧ (xI (1000 * (((h15 68 6) + 1) - (frV (h15 67 0) (h15 67 1) (h15 68) v1 v2)))) ∧ (¬ v3 = 0 ∧ xI (Int.tdiv (1000 * (((h15 68 6) + 1) - (frV (h15 67 0) (h15 67 1) (h15 68) v1 v2))) v3)) ∧ Q (Int.tdiv (1000 * (((h15 68 6) + 1) - (frV (h15 67 0) (h15 67 1) (h15 68) v1 v2))) v3) h16)))) ∧ (¬ (H 67 1 ≤ v4) → (GOk (H 67 0) (H 67 1) (H 68)) ∧ (0 ≤ v1 ∧ v1 < H 68 1) ∧ (0 ≤ v4 ∧ v4 < H 67 1) ∧ (∀ (h17 : XH), (frM H h17) → ((alB (H 67 0) (H 67 1) (H 68) v1 v4 = 0) → (xI (v3 + 0)) ∧ (xI (v4 + 1)) ∧ xq X d 77 Q 23 [(0, (2, 67)), (1, (0, v1)), (2, (0, v2)), (3, (0, v3 + 0)), (4, (0, v4 + 1))] [] h17) ∧ (¬ (alB (H 67 0) (H 67 1) (H 68) v1 v4 = 0) → (xI ((h17 68 6) + 1)) ∧ (GOk (h17 67 0) (h17 67 1) (h17 68)) ∧ (0 ≤ v1 ∧ v1 < h17 68 1) ∧ (0 ≤ v4 ∧ v4 < h17 67 1) ∧ (∀ (h18 : XH), (frM h17 h18) → (xI (((h17 68 6) + 1) - (frV (h17 67 0) (h17 67 1) (h17 68) v1 v4))) ∧ (xI (v3 + (((h17 68 6) + 1) - (frV (h17 67 0) (h17 67 1) (h17 68) v1 v4)))) ∧ (xI (v4 + 1)) ∧ xq X d 77 Q 23 [(0, (2, 67)), (1, (0, v1)), (2, (0, v2)), (3, (0, v3 + (((h17 68 6) + 1) - (frV (h17 67 0) (h17 67 1) (h17 68) v1 v4)))), (4, (0, v4 + 1))] [] h18))))) : xq X d 77 Q 23 [(0, (2, 67)), (1, (0, v1)), (2, (0, v2)), (3, (0, v3)), (4, (0, v4))] [] H := by
  show xq X d 77 Q 23 [(0, (2, 67)), (1, (0, v1)), (2, (0, v2)), (3, (0, v3)), (4, (0, v4))] [] H
  refine xq_run [5, 13, 23, 40, 59, 78, 99] 300 ?_
  show ((H 67 1 ≤ v4) → xWM (xE X) xMC d 73 [(2, 67), (0, v1), (0, v2)] xKZ H _) ∧ (¬ (H 67 1 ≤ v4) → xWM (xE X) xMC d 73 [(2, 67), (0, v1), (0, v4)] xKZ H _)
  refine ⟨fun k_ => ?_, fun k_ => ?_⟩
  · replace h := h.1 k_
    refine xc_in (s_73 (by omega) v1 v2 H (h.1) (h.2.1) (h.2.2.1) ?_)
    intro h15 q_0
    replace h := h.2.2.2 h15 q_0
    show xq X d 77 Q 78 [(0, (2, 67)), (1, (0, v1)), (2, (0, v2)), (3, (0, v3)), (4, (0, v4))] [(0, alB (H 67 0) (H 67 1) (H 68) v1 v2)] h15
    refine xq_run [5, 13, 23, 40, 59, 78, 99] 300 ?_
    show ((alB (H 67 0) (H 67 1) (H 68) v1 v2 = 0) → xfR 0 0 ∧ xKZ = xKZ ∧ Q 0 h15) ∧ (¬ (alB (H 67 0) (H 67 1) (H 68) v1 v2 = 0) → ((0 : Int) ≤ 6 ∧ (6 : Int) < 1180) ∧ (xI ((h15 68 6) + 1)) ∧ xWM (xE X) xMC d 66 [(2, 67), (0, v1), (0, v2)] xKZ h15 _)
    refine ⟨fun k_ => ?_, fun k_ => ?_⟩
    · replace h := h.1 k_
      exact ⟨trivial, rfl, h⟩
    · replace h := h.2 k_
      refine ⟨⟨by decide, by decide⟩, ?_⟩
      refine ⟨h.1, ?_⟩
      replace h := h.2
      refine xc_in (s_66 (by omega) v1 v2 h15 (h.1) (h.2.1) (h.2.2.1) ?_)
      intro h16 q_0
      replace h := h.2.2.2 h16 q_0
      show xq X d 77 Q 99 [(0, (2, 67)), (1, (0, v1)), (2, (0, v2)), (3, (0, v3)), (4, (0, v4))] [(0, frV (h15 67 0) (h15 67 1) (h15 68) v1 v2), (0, (h15 68 6) + 1), (0, 1000)] h16
      refine xq_run [5, 13, 23, 40, 59, 78, 99] 300 ?_
      show (xI (((h15 68 6) + 1) - (frV (h15 67 0) (h15 67 1) (h15 68) v1 v2))) ∧ (xI (1000 * (((h15 68 6) + 1) - (frV (h15 67 0) (h15 67 1) (h15 68) v1 v2)))) ∧ (¬ v3 = 0 ∧ xI (Int.tdiv (1000 * (((h15 68 6) + 1) - (frV (h15 67 0) (h15 67 1) (h15 68) v1 v2))) v3)) ∧ xfR 0 (Int.tdiv (1000 * (((h15 68 6) + 1) - (frV (h15 67 0) (h15 67 1) (h15 68) v1 v2))) v3) ∧ xKZ = xKZ ∧ Q (Int.tdiv (1000 * (((h15 68 6) + 1) - (frV (h15 67 0) (h15 67 1) (h15 68) v1 v2))) v3) h16
      refine ⟨h.1, ?_⟩
      replace h := h.2
      refine ⟨h.1, ?_⟩
      replace h := h.2
      refine ⟨h.1, ?_⟩
      replace h := h.2
      exact ⟨trivial, rfl, h⟩
  · replace h := h.2 k_
    refine xc_in (s_73 (by omega) v1 v4 H (h.1) (h.2.1) (h.2.2.1) ?_)
    intro h17 q_0
    replace h := h.2.2.2 h17 q_0
    show xq X d 77 Q 40 [(0, (2, 67)), (1, (0, v1)), (2, (0, v2)), (3, (0, v3)), (4, (0, v4))] [(0, alB (H 67 0) (H 67 1) (H 68) v1 v4), (0, v3)] h17
    refine xq_run [5, 13, 23, 40, 59, 78, 99] 300 ?_
    show ((alB (H 67 0) (H 67 1) (H 68) v1 v4 = 0) → (xI (v3 + 0)) ∧ (xI (v4 + 1)) ∧ xq X d 77 Q 23 [(0, (2, 67)), (1, (0, v1)), (2, (0, v2)), (3, (0, v3 + 0)), (4, (0, v4 + 1))] [] h17) ∧ (¬ (alB (H 67 0) (H 67 1) (H 68) v1 v4 = 0) → ((0 : Int) ≤ 6 ∧ (6 : Int) < 1180) ∧ (xI ((h17 68 6) + 1)) ∧ xWM (xE X) xMC d 66 [(2, 67), (0, v1), (0, v4)] xKZ h17 _)
    refine ⟨fun k_ => ?_, fun k_ => ?_⟩
    · replace h := h.1 k_
      refine ⟨h.1, ?_⟩
      replace h := h.2
      refine ⟨h.1, ?_⟩
      replace h := h.2
      exact h
    · replace h := h.2 k_
      refine ⟨⟨by decide, by decide⟩, ?_⟩
      refine ⟨h.1, ?_⟩
      replace h := h.2
      refine xc_in (s_66 (by omega) v1 v4 h17 (h.1) (h.2.1) (h.2.2.1) ?_)
      intro h18 q_0
      replace h := h.2.2.2 h18 q_0
      show xq X d 77 Q 59 [(0, (2, 67)), (1, (0, v1)), (2, (0, v2)), (3, (0, v3)), (4, (0, v4))] [(0, frV (h17 67 0) (h17 67 1) (h17 68) v1 v4), (0, (h17 68 6) + 1), (0, v3)] h18
      refine xq_run [5, 13, 23, 40, 59, 78, 99] 300 ?_
      show (xI (((h17 68 6) + 1) - (frV (h17 67 0) (h17 67 1) (h17 68) v1 v4))) ∧ (xI (v3 + (((h17 68 6) + 1) - (frV (h17 67 0) (h17 67 1) (h17 68) v1 v4)))) ∧ (xI (v4 + 1)) ∧ xq X d 77 Q 23 [(0, (2, 67)), (1, (0, v1)), (2, (0, v2)), (3, (0, v3 + (((h17 68 6) + 1) - (frV (h17 67 0) (h17 67 1) (h17 68) v1 v4)))), (4, (0, v4 + 1))] [] h18
      refine ⟨h.1, ?_⟩
      replace h := h.2
      refine ⟨h.1, ?_⟩
      replace h := h.2
      refine ⟨h.1, ?_⟩
      replace h := h.2
      exact h

theorem s_77 {X : Int × (Int → Int)} {d : Nat} {Q : Int → XH → Prop} (hd : 8 ≤ d) (l c : Int) (H : XH) (hg : GOk (H 67 0) (H 67 1) (H 68)) (hQ : ∀ h1 : XH, frM H h1 → Q (vOdds (H 67 0) (H 67 1) (H 68) l c) h1) : xc X d 77 [(2, 67), (0, l), (0, c)] H Q := by
  cases d with
  | zero => omega
  | succ d =>
  have nn := hg.nn
  have ww := hg.ww
  have lyb := hg.lyb
  have bnd := hg.bnd
  have no : ¬ ((0 ≤ l ∧ l < H 68 1) ∧ (0 ≤ c ∧ c < H 67 1)) → Q (-1) H := fun q => by
    have k := hQ _ (frM_refl H)
    unfold vOdds at k
    rw [if_neg q] at k
    exact k
  obtain ⟨V, hV⟩ : ∃ V, odA (alB (H 67 0) (H 67 1) (H 68) l) (frV (H 67 0) (H 67 1) (H 68) l) (H 68 6) (H 67 1).toNat 0 0 = V := ⟨_, rfl⟩
  have key : (0 ≤ l ∧ l < H 68 1) → (0 ≤ c ∧ c < H 67 1) → ∀ (k : Nat) (e v : Int) (h : XH), frM H h → 0 ≤ e → e + k = H 67 1 → 0 ≤ v → v ≤ 2000 * e → odA (alB (H 67 0) (H 67 1) (H 68) l) (frV (H 67 0) (H 67 1) (H 68) l) (H 68 6) k e v = V → xq X d 77 Q 23 [(0, (2, 67)), (1, (0, l)), (2, (0, c)), (3, (0, v)), (4, (0, e))] [] h := by
    intro pl pc k
    have hfr := frV_rng hg (c := c) pl
    induction k with
    | zero =>
      intro e v h f h0 hn hv hv2 hq
      have a0 := f.2 0 (by decide)
      have a1 := f.2 1 (by decide)
      have a8 := frM_o f 68 (by decide) (by decide)
      unfold odA at hq
      have hg' : GOk (h 67 0) (h 67 1) (h 68) := by rw [a0, a1, a8]; exact hg
      refine U_77_23 (by omega) l c v e h ?_
      rw [a0, a1, a8]
      refine ⟨fun e1 => ?_, fun e1 => ?_⟩
      · skip
        refine ⟨?_, ?_⟩
        · first | omega | (rw [a0, a1, a8]; exact hg) | (rw [a8]; exact pl) | (rw [a1]; exact pc) | exact hg | exact pl | exact pc | (rw [b0, b1, b8]; exact hg) | (rw [b8]; exact pl) | (rw [b1]; exact pc) | (rw [b8]; unfold xI; omega) | (rw [b0, b1, b8]; unfold xI; omega) | (rw [b0, b1, b8]; exact hdv (by assumption)) | (exfalso; omega)
        refine ⟨?_, ?_⟩
        · first | omega | (rw [a0, a1, a8]; exact hg) | (rw [a8]; exact pl) | (rw [a1]; exact pc) | exact hg | exact pl | exact pc | (rw [b0, b1, b8]; exact hg) | (rw [b8]; exact pl) | (rw [b1]; exact pc) | (rw [b8]; unfold xI; omega) | (rw [b0, b1, b8]; unfold xI; omega) | (rw [b0, b1, b8]; exact hdv (by assumption)) | (exfalso; omega)
        refine ⟨?_, ?_⟩
        · first | omega | (rw [a0, a1, a8]; exact hg) | (rw [a8]; exact pl) | (rw [a1]; exact pc) | exact hg | exact pl | exact pc | (rw [b0, b1, b8]; exact hg) | (rw [b8]; exact pl) | (rw [b1]; exact pc) | (rw [b8]; unfold xI; omega) | (rw [b0, b1, b8]; unfold xI; omega) | (rw [b0, b1, b8]; exact hdv (by assumption)) | (exfalso; omega)
        intro h19 e2
        have b0 := (e2.2 0 (by decide)).trans a0
        have b1 := (e2.2 1 (by decide)).trans a1
        have b8 := (frM_o e2 68 (by decide) (by decide)).trans a8
        have hdv : ¬ alB (H 67 0) (H 67 1) (H 68) l c = 0 → ¬ v = 0 ∧ xI ((1000 * (H 68 6 + 1 - frV (H 67 0) (H 67 1) (H 68) l c)).tdiv v) := fun q => by
          have h1 := odA_1 hg pl pc q
          have h2 := alB_fr hg pl q
          rw [hV, ← hq] at h1
          have hd := tdivB (x := 1000 * (H 68 6 + 1 - frV (H 67 0) (H 67 1) (H 68) l c)) (y := v) (A := 1002000) (by omega) h1 (by have := mulB (x := 1002000) (y := v - 1) (A := 1002000) (B := v) (by omega) (by omega); rw [Int.mul_sub] at this; omega)
          unfold xI
          omega
        refine ⟨fun e3 => ?_, fun e3 => ?_⟩
        · skip
          have k := hQ _ (frM_trans f e2)
          unfold vOdds at k
          rw [if_pos ⟨pl, pc⟩, if_pos (by assumption)] at k
          exact k
        · skip
          refine ⟨?_, ?_⟩
          · first | omega | (rw [a0, a1, a8]; exact hg) | (rw [a8]; exact pl) | (rw [a1]; exact pc) | exact hg | exact pl | exact pc | (rw [b0, b1, b8]; exact hg) | (rw [b8]; exact pl) | (rw [b1]; exact pc) | (rw [b8]; unfold xI; omega) | (rw [b0, b1, b8]; unfold xI; omega) | (rw [b0, b1, b8]; exact hdv (by assumption)) | (exfalso; omega)
          refine ⟨?_, ?_⟩
          · first | omega | (rw [a0, a1, a8]; exact hg) | (rw [a8]; exact pl) | (rw [a1]; exact pc) | exact hg | exact pl | exact pc | (rw [b0, b1, b8]; exact hg) | (rw [b8]; exact pl) | (rw [b1]; exact pc) | (rw [b8]; unfold xI; omega) | (rw [b0, b1, b8]; unfold xI; omega) | (rw [b0, b1, b8]; exact hdv (by assumption)) | (exfalso; omega)
          refine ⟨?_, ?_⟩
          · first | omega | (rw [a0, a1, a8]; exact hg) | (rw [a8]; exact pl) | (rw [a1]; exact pc) | exact hg | exact pl | exact pc | (rw [b0, b1, b8]; exact hg) | (rw [b8]; exact pl) | (rw [b1]; exact pc) | (rw [b8]; unfold xI; omega) | (rw [b0, b1, b8]; unfold xI; omega) | (rw [b0, b1, b8]; exact hdv (by assumption)) | (exfalso; omega)
          refine ⟨?_, ?_⟩
          · first | omega | (rw [a0, a1, a8]; exact hg) | (rw [a8]; exact pl) | (rw [a1]; exact pc) | exact hg | exact pl | exact pc | (rw [b0, b1, b8]; exact hg) | (rw [b8]; exact pl) | (rw [b1]; exact pc) | (rw [b8]; unfold xI; omega) | (rw [b0, b1, b8]; unfold xI; omega) | (rw [b0, b1, b8]; exact hdv (by assumption)) | (exfalso; omega)
          intro h20 e4
          refine ⟨?_, ?_⟩
          · first | omega | (rw [a0, a1, a8]; exact hg) | (rw [a8]; exact pl) | (rw [a1]; exact pc) | exact hg | exact pl | exact pc | (rw [b0, b1, b8]; exact hg) | (rw [b8]; exact pl) | (rw [b1]; exact pc) | (rw [b8]; unfold xI; omega) | (rw [b0, b1, b8]; unfold xI; omega) | (rw [b0, b1, b8]; exact hdv (by assumption)) | (exfalso; omega)
          refine ⟨?_, ?_⟩
          · first | omega | (rw [a0, a1, a8]; exact hg) | (rw [a8]; exact pl) | (rw [a1]; exact pc) | exact hg | exact pl | exact pc | (rw [b0, b1, b8]; exact hg) | (rw [b8]; exact pl) | (rw [b1]; exact pc) | (rw [b8]; unfold xI; omega) | (rw [b0, b1, b8]; unfold xI; omega) | (rw [b0, b1, b8]; exact hdv (by assumption)) | (exfalso; omega)
          refine ⟨?_, ?_⟩
          · first | omega | (rw [a0, a1, a8]; exact hg) | (rw [a8]; exact pl) | (rw [a1]; exact pc) | exact hg | exact pl | exact pc | (rw [b0, b1, b8]; exact hg) | (rw [b8]; exact pl) | (rw [b1]; exact pc) | (rw [b8]; unfold xI; omega) | (rw [b0, b1, b8]; unfold xI; omega) | (rw [b0, b1, b8]; exact hdv (by assumption)) | (exfalso; omega)
          rw [b0, b1, b8] at *
          have k := hQ _ (frM_trans (frM_trans f e2) e4)
          unfold vOdds at k
          rw [if_pos ⟨pl, pc⟩, if_neg (by assumption), hV, ← hq] at k
          exact k
      · skip
        refine ⟨?_, ?_⟩
        · first | omega | (rw [a0, a1, a8]; exact hg) | (rw [a8]; exact pl) | (rw [a1]; exact pc) | exact hg | exact pl | exact pc | (rw [b0, b1, b8]; exact hg) | (rw [b8]; exact pl) | (rw [b1]; exact pc) | (rw [b8]; unfold xI; omega) | (rw [b0, b1, b8]; unfold xI; omega) | (rw [b0, b1, b8]; exact hdv (by assumption)) | (exfalso; omega)
        refine ⟨?_, ?_⟩
        · first | omega | (rw [a0, a1, a8]; exact hg) | (rw [a8]; exact pl) | (rw [a1]; exact pc) | exact hg | exact pl | exact pc | (rw [b0, b1, b8]; exact hg) | (rw [b8]; exact pl) | (rw [b1]; exact pc) | (rw [b8]; unfold xI; omega) | (rw [b0, b1, b8]; unfold xI; omega) | (rw [b0, b1, b8]; exact hdv (by assumption)) | (exfalso; omega)
        refine ⟨?_, ?_⟩
        · first | omega | (rw [a0, a1, a8]; exact hg) | (rw [a8]; exact pl) | (rw [a1]; exact pc) | exact hg | exact pl | exact pc | (rw [b0, b1, b8]; exact hg) | (rw [b8]; exact pl) | (rw [b1]; exact pc) | (rw [b8]; unfold xI; omega) | (rw [b0, b1, b8]; unfold xI; omega) | (rw [b0, b1, b8]; exact hdv (by assumption)) | (exfalso; omega)
        intro h21 e5
        have b0 := (e5.2 0 (by decide)).trans a0
        have b1 := (e5.2 1 (by decide)).trans a1
        have b8 := (frM_o e5 68 (by decide) (by decide)).trans a8
        have hdv : ¬ alB (H 67 0) (H 67 1) (H 68) l c = 0 → ¬ v = 0 ∧ xI ((1000 * (H 68 6 + 1 - frV (H 67 0) (H 67 1) (H 68) l c)).tdiv v) := fun q => by
          have h1 := odA_1 hg pl pc q
          have h2 := alB_fr hg pl q
          rw [hV, ← hq] at h1
          have hd := tdivB (x := 1000 * (H 68 6 + 1 - frV (H 67 0) (H 67 1) (H 68) l c)) (y := v) (A := 1002000) (by omega) h1 (by have := mulB (x := 1002000) (y := v - 1) (A := 1002000) (B := v) (by omega) (by omega); rw [Int.mul_sub] at this; omega)
          unfold xI
          omega
        refine ⟨fun e6 => ?_, fun e6 => ?_⟩
        · skip
          refine ⟨?_, ?_⟩
          · first | omega | (rw [a0, a1, a8]; exact hg) | (rw [a8]; exact pl) | (rw [a1]; exact pc) | exact hg | exact pl | exact pc | (rw [b0, b1, b8]; exact hg) | (rw [b8]; exact pl) | (rw [b1]; exact pc) | (rw [b8]; unfold xI; omega) | (rw [b0, b1, b8]; unfold xI; omega) | (rw [b0, b1, b8]; exact hdv (by assumption)) | (exfalso; omega)
          refine ⟨?_, ?_⟩
          · first | omega | (rw [a0, a1, a8]; exact hg) | (rw [a8]; exact pl) | (rw [a1]; exact pc) | exact hg | exact pl | exact pc | (rw [b0, b1, b8]; exact hg) | (rw [b8]; exact pl) | (rw [b1]; exact pc) | (rw [b8]; unfold xI; omega) | (rw [b0, b1, b8]; unfold xI; omega) | (rw [b0, b1, b8]; exact hdv (by assumption)) | (exfalso; omega)
          exfalso
          omega
        · skip
          refine ⟨?_, ?_⟩
          · first | omega | (rw [a0, a1, a8]; exact hg) | (rw [a8]; exact pl) | (rw [a1]; exact pc) | exact hg | exact pl | exact pc | (rw [b0, b1, b8]; exact hg) | (rw [b8]; exact pl) | (rw [b1]; exact pc) | (rw [b8]; unfold xI; omega) | (rw [b0, b1, b8]; unfold xI; omega) | (rw [b0, b1, b8]; exact hdv (by assumption)) | (exfalso; omega)
          refine ⟨?_, ?_⟩
          · first | omega | (rw [a0, a1, a8]; exact hg) | (rw [a8]; exact pl) | (rw [a1]; exact pc) | exact hg | exact pl | exact pc | (rw [b0, b1, b8]; exact hg) | (rw [b8]; exact pl) | (rw [b1]; exact pc) | (rw [b8]; unfold xI; omega) | (rw [b0, b1, b8]; unfold xI; omega) | (rw [b0, b1, b8]; exact hdv (by assumption)) | (exfalso; omega)
          refine ⟨?_, ?_⟩
          · first | omega | (rw [a0, a1, a8]; exact hg) | (rw [a8]; exact pl) | (rw [a1]; exact pc) | exact hg | exact pl | exact pc | (rw [b0, b1, b8]; exact hg) | (rw [b8]; exact pl) | (rw [b1]; exact pc) | (rw [b8]; unfold xI; omega) | (rw [b0, b1, b8]; unfold xI; omega) | (rw [b0, b1, b8]; exact hdv (by assumption)) | (exfalso; omega)
          refine ⟨?_, ?_⟩
          · first | omega | (rw [a0, a1, a8]; exact hg) | (rw [a8]; exact pl) | (rw [a1]; exact pc) | exact hg | exact pl | exact pc | (rw [b0, b1, b8]; exact hg) | (rw [b8]; exact pl) | (rw [b1]; exact pc) | (rw [b8]; unfold xI; omega) | (rw [b0, b1, b8]; unfold xI; omega) | (rw [b0, b1, b8]; exact hdv (by assumption)) | (exfalso; omega)
          intro h22 e7
          refine ⟨?_, ?_⟩
          · first | omega | (rw [a0, a1, a8]; exact hg) | (rw [a8]; exact pl) | (rw [a1]; exact pc) | exact hg | exact pl | exact pc | (rw [b0, b1, b8]; exact hg) | (rw [b8]; exact pl) | (rw [b1]; exact pc) | (rw [b8]; unfold xI; omega) | (rw [b0, b1, b8]; unfold xI; omega) | (rw [b0, b1, b8]; exact hdv (by assumption)) | (exfalso; omega)
          refine ⟨?_, ?_⟩
          · first | omega | (rw [a0, a1, a8]; exact hg) | (rw [a8]; exact pl) | (rw [a1]; exact pc) | exact hg | exact pl | exact pc | (rw [b0, b1, b8]; exact hg) | (rw [b8]; exact pl) | (rw [b1]; exact pc) | (rw [b8]; unfold xI; omega) | (rw [b0, b1, b8]; unfold xI; omega) | (rw [b0, b1, b8]; exact hdv (by assumption)) | (exfalso; omega)
          refine ⟨?_, ?_⟩
          · first | omega | (rw [a0, a1, a8]; exact hg) | (rw [a8]; exact pl) | (rw [a1]; exact pc) | exact hg | exact pl | exact pc | (rw [b0, b1, b8]; exact hg) | (rw [b8]; exact pl) | (rw [b1]; exact pc) | (rw [b8]; unfold xI; omega) | (rw [b0, b1, b8]; unfold xI; omega) | (rw [b0, b1, b8]; exact hdv (by assumption)) | (exfalso; omega)
          exfalso
          omega
    | succ k ih =>
      intro e v h f h0 hn hv hv2 hq
      have a0 := f.2 0 (by decide)
      have a1 := f.2 1 (by decide)
      have a8 := frM_o f 68 (by decide) (by decide)
      unfold odA at hq
      have hfe := frV_rng hg (c := e) pl
      refine U_77_23 (by omega) l c v e h ?_
      rw [a0, a1, a8]
      refine ⟨fun e1 => ?_, fun e1 => ?_⟩
      · skip
        refine ⟨?_, ?_⟩
        · first | omega | exact hg | exact pl | exact pc | (rw [b0, b1, b8]; exact hg) | (rw [b8]; exact pl) | (rw [b1]; omega) | (rw [b8]; unfold xI; omega) | (rw [b0, b1, b8]; have hf := alB_fr hg pl (c := e) (by assumption); unfold xI; omega) | (unfold xI; omega) | (exfalso; omega)
        refine ⟨?_, ?_⟩
        · first | omega | exact hg | exact pl | exact pc | (rw [b0, b1, b8]; exact hg) | (rw [b8]; exact pl) | (rw [b1]; omega) | (rw [b8]; unfold xI; omega) | (rw [b0, b1, b8]; have hf := alB_fr hg pl (c := e) (by assumption); unfold xI; omega) | (unfold xI; omega) | (exfalso; omega)
        refine ⟨?_, ?_⟩
        · first | omega | exact hg | exact pl | exact pc | (rw [b0, b1, b8]; exact hg) | (rw [b8]; exact pl) | (rw [b1]; omega) | (rw [b8]; unfold xI; omega) | (rw [b0, b1, b8]; have hf := alB_fr hg pl (c := e) (by assumption); unfold xI; omega) | (unfold xI; omega) | (exfalso; omega)
        intro h23 e2
        have b0 := (e2.2 0 (by decide)).trans a0
        have b1 := (e2.2 1 (by decide)).trans a1
        have b8 := (frM_o e2 68 (by decide) (by decide)).trans a8
        refine ⟨fun e3 => ?_, fun e3 => ?_⟩
        · skip
          exfalso
          omega
        · skip
          refine ⟨?_, ?_⟩
          · first | omega | exact hg | exact pl | exact pc | (rw [b0, b1, b8]; exact hg) | (rw [b8]; exact pl) | (rw [b1]; omega) | (rw [b8]; unfold xI; omega) | (rw [b0, b1, b8]; have hf := alB_fr hg pl (c := e) (by assumption); unfold xI; omega) | (unfold xI; omega) | (exfalso; omega)
          refine ⟨?_, ?_⟩
          · first | omega | exact hg | exact pl | exact pc | (rw [b0, b1, b8]; exact hg) | (rw [b8]; exact pl) | (rw [b1]; omega) | (rw [b8]; unfold xI; omega) | (rw [b0, b1, b8]; have hf := alB_fr hg pl (c := e) (by assumption); unfold xI; omega) | (unfold xI; omega) | (exfalso; omega)
          refine ⟨?_, ?_⟩
          · first | omega | exact hg | exact pl | exact pc | (rw [b0, b1, b8]; exact hg) | (rw [b8]; exact pl) | (rw [b1]; omega) | (rw [b8]; unfold xI; omega) | (rw [b0, b1, b8]; have hf := alB_fr hg pl (c := e) (by assumption); unfold xI; omega) | (unfold xI; omega) | (exfalso; omega)
          refine ⟨?_, ?_⟩
          · first | omega | exact hg | exact pl | exact pc | (rw [b0, b1, b8]; exact hg) | (rw [b8]; exact pl) | (rw [b1]; omega) | (rw [b8]; unfold xI; omega) | (rw [b0, b1, b8]; have hf := alB_fr hg pl (c := e) (by assumption); unfold xI; omega) | (unfold xI; omega) | (exfalso; omega)
          intro h24 e4
          refine ⟨?_, ?_⟩
          · first | omega | exact hg | exact pl | exact pc | (rw [b0, b1, b8]; exact hg) | (rw [b8]; exact pl) | (rw [b1]; omega) | (rw [b8]; unfold xI; omega) | (rw [b0, b1, b8]; have hf := alB_fr hg pl (c := e) (by assumption); unfold xI; omega) | (unfold xI; omega) | (exfalso; omega)
          refine ⟨?_, ?_⟩
          · first | omega | exact hg | exact pl | exact pc | (rw [b0, b1, b8]; exact hg) | (rw [b8]; exact pl) | (rw [b1]; omega) | (rw [b8]; unfold xI; omega) | (rw [b0, b1, b8]; have hf := alB_fr hg pl (c := e) (by assumption); unfold xI; omega) | (unfold xI; omega) | (exfalso; omega)
          refine ⟨?_, ?_⟩
          · first | omega | exact hg | exact pl | exact pc | (rw [b0, b1, b8]; exact hg) | (rw [b8]; exact pl) | (rw [b1]; omega) | (rw [b8]; unfold xI; omega) | (rw [b0, b1, b8]; have hf := alB_fr hg pl (c := e) (by assumption); unfold xI; omega) | (unfold xI; omega) | (exfalso; omega)
          exfalso
          omega
      · skip
        refine ⟨?_, ?_⟩
        · first | omega | exact hg | exact pl | exact pc | (rw [b0, b1, b8]; exact hg) | (rw [b8]; exact pl) | (rw [b1]; omega) | (rw [b8]; unfold xI; omega) | (rw [b0, b1, b8]; have hf := alB_fr hg pl (c := e) (by assumption); unfold xI; omega) | (unfold xI; omega) | (exfalso; omega)
        refine ⟨?_, ?_⟩
        · first | omega | exact hg | exact pl | exact pc | (rw [b0, b1, b8]; exact hg) | (rw [b8]; exact pl) | (rw [b1]; omega) | (rw [b8]; unfold xI; omega) | (rw [b0, b1, b8]; have hf := alB_fr hg pl (c := e) (by assumption); unfold xI; omega) | (unfold xI; omega) | (exfalso; omega)
        refine ⟨?_, ?_⟩
        · first | omega | exact hg | exact pl | exact pc | (rw [b0, b1, b8]; exact hg) | (rw [b8]; exact pl) | (rw [b1]; omega) | (rw [b8]; unfold xI; omega) | (rw [b0, b1, b8]; have hf := alB_fr hg pl (c := e) (by assumption); unfold xI; omega) | (unfold xI; omega) | (exfalso; omega)
        intro h25 e5
        have b0 := (e5.2 0 (by decide)).trans a0
        have b1 := (e5.2 1 (by decide)).trans a1
        have b8 := (frM_o e5 68 (by decide) (by decide)).trans a8
        refine ⟨fun e6 => ?_, fun e6 => ?_⟩
        · skip
          refine ⟨?_, ?_⟩
          · first | omega | exact hg | exact pl | exact pc | (rw [b0, b1, b8]; exact hg) | (rw [b8]; exact pl) | (rw [b1]; omega) | (rw [b8]; unfold xI; omega) | (rw [b0, b1, b8]; have hf := alB_fr hg pl (c := e) (by assumption); unfold xI; omega) | (unfold xI; omega) | (exfalso; omega)
          refine ⟨?_, ?_⟩
          · first | omega | exact hg | exact pl | exact pc | (rw [b0, b1, b8]; exact hg) | (rw [b8]; exact pl) | (rw [b1]; omega) | (rw [b8]; unfold xI; omega) | (rw [b0, b1, b8]; have hf := alB_fr hg pl (c := e) (by assumption); unfold xI; omega) | (unfold xI; omega) | (exfalso; omega)
          rw [Int.add_zero]
          refine ih (e + 1) v _ (frM_trans f e5) (by omega) (by omega) hv (by omega) ?_
          rw [if_pos (by assumption)] at hq
          exact hq
        · skip
          refine ⟨?_, ?_⟩
          · first | omega | exact hg | exact pl | exact pc | (rw [b0, b1, b8]; exact hg) | (rw [b8]; exact pl) | (rw [b1]; omega) | (rw [b8]; unfold xI; omega) | (rw [b0, b1, b8]; have hf := alB_fr hg pl (c := e) (by assumption); unfold xI; omega) | (unfold xI; omega) | (exfalso; omega)
          refine ⟨?_, ?_⟩
          · first | omega | exact hg | exact pl | exact pc | (rw [b0, b1, b8]; exact hg) | (rw [b8]; exact pl) | (rw [b1]; omega) | (rw [b8]; unfold xI; omega) | (rw [b0, b1, b8]; have hf := alB_fr hg pl (c := e) (by assumption); unfold xI; omega) | (unfold xI; omega) | (exfalso; omega)
          refine ⟨?_, ?_⟩
          · first | omega | exact hg | exact pl | exact pc | (rw [b0, b1, b8]; exact hg) | (rw [b8]; exact pl) | (rw [b1]; omega) | (rw [b8]; unfold xI; omega) | (rw [b0, b1, b8]; have hf := alB_fr hg pl (c := e) (by assumption); unfold xI; omega) | (unfold xI; omega) | (exfalso; omega)
          refine ⟨?_, ?_⟩
          · first | omega | exact hg | exact pl | exact pc | (rw [b0, b1, b8]; exact hg) | (rw [b8]; exact pl) | (rw [b1]; omega) | (rw [b8]; unfold xI; omega) | (rw [b0, b1, b8]; have hf := alB_fr hg pl (c := e) (by assumption); unfold xI; omega) | (unfold xI; omega) | (exfalso; omega)
          intro h26 e7
          refine ⟨?_, ?_⟩
          · first | omega | exact hg | exact pl | exact pc | (rw [b0, b1, b8]; exact hg) | (rw [b8]; exact pl) | (rw [b1]; omega) | (rw [b8]; unfold xI; omega) | (rw [b0, b1, b8]; have hf := alB_fr hg pl (c := e) (by assumption); unfold xI; omega) | (unfold xI; omega) | (exfalso; omega)
          refine ⟨?_, ?_⟩
          · first | omega | exact hg | exact pl | exact pc | (rw [b0, b1, b8]; exact hg) | (rw [b8]; exact pl) | (rw [b1]; omega) | (rw [b8]; unfold xI; omega) | (rw [b0, b1, b8]; have hf := alB_fr hg pl (c := e) (by assumption); unfold xI; omega) | (unfold xI; omega) | (exfalso; omega)
          refine ⟨?_, ?_⟩
          · first | omega | exact hg | exact pl | exact pc | (rw [b0, b1, b8]; exact hg) | (rw [b8]; exact pl) | (rw [b1]; omega) | (rw [b8]; unfold xI; omega) | (rw [b0, b1, b8]; have hf := alB_fr hg pl (c := e) (by assumption); unfold xI; omega) | (unfold xI; omega) | (exfalso; omega)
          have hf := alB_fr hg pl (c := e) (by assumption)
          rw [b0, b1, b8] at *
          refine ih (e + 1) (v + (H 68 6 + 1 - frV (H 67 0) (H 67 1) (H 68) l e)) _ (frM_trans (frM_trans f e5) e7) (by omega) (by omega) (by omega) (by omega) ?_
          rw [if_neg (by assumption)] at hq
          exact hq
  refine U_77 (by omega) l c H ?_
  refine ⟨?_, ?_⟩
  · first | omega | exact hg
  refine ⟨fun c1 => ?_, fun c1 => ?_⟩
  · skip
    refine ⟨?_, ?_⟩
    · first | omega | exact hg
    refine ⟨fun c2 => ?_, fun c2 => ?_⟩
    · skip
      exact key (by omega) (by omega) (H 67 1).toNat 0 0 H (frM_refl H) (by omega) (by omega) (by omega) (by omega) hV
    · skip
      exact no (by omega)
  · skip
    exact no (by omega)

theorem p_odds {X : Int × (Int → Int)} {d : Nat} (hd : 8 ≤ d) (l c : Int) (H : XH) (hi : InvS H) : xc X d 76 [(2, 0), (0, l), (0, c)] H (fun r H1 => xc X d 77 [(2, 67), (0, l), (0, c)] H1 (qOk H r)) :=
  s_76 (by omega) l c H hi (fun h1 f => s_77 (by omega) l c h1 (frC_S f hi).1 (fun h2 f' => ⟨by rw [f 67 (by decide) (by decide), f 68 (by decide) (by decide)], frQ_CM f f'⟩))

def vSoil (w n : Int) (g : Int → Int) (c s : Int) : Int := if (0 ≤ c ∧ c < n) ∧ (s = -1 ∨ (0 ≤ s ∧ s ≤ 4)) ∧ ¬ soT w n g c < 1 then (if s = -1 then soT w n g c else soF w n g c s) else -1

theorem U_38 {X : Int × (Int → Int)} {d : Nat} {Q : Int → XH → Prop} (hd : 4 ≤ d) (c s : Int) (H : XH) (h : ((((0 ≤ c ∧ c < H 2 2)) → ((s = (-1)) → (1 ≤ H 2 0 ∧ H 2 0 ≤ 8) ∧ (0 ≤ H 2 2 ∧ H 2 2 ≤ 64) ∧ (0 ≤ c ∧ c < H 2 2) ∧ ((0 : Int) ≤ 0 ∧ (0 : Int) + 5 ≤ 320) ∧ (∀ k, 0 ≤ k → k < 320 → 0 ≤ H 3 k ∧ H 3 k ≤ 9) ∧ (((1 ≤ soilT (H 2 0) (H 2 2) (fun e => H 4 e) (fun e => H 5 e) (fun k => H 3 k) c) → ((¬ s = (-1)) → ((0 : Int) ≤ s ∧ (s : Int) < 320) ∧ Q ((fun k => if 0 ≤ k ∧ k < 0 + 5 then soilF (H 2 0) (H 2 2) (fun e => H 4 e) (fun e => H 5 e) (fun k => H 3 k) c (k - 0) else H 40 k) s) (xset H 40 (fun k => if 0 ≤ k ∧ k < 0 + 5 then soilF (H 2 0) (H 2 2) (fun e => H 4 e) (fun e => H 5 e) (fun k => H 3 k) c (k - 0) else H 40 k))) ∧ (¬ (¬ s = (-1)) → Q (soilT (H 2 0) (H 2 2) (fun e => H 4 e) (fun e => H 5 e) (fun k => H 3 k) c) (xset H 40 (fun k => if 0 ≤ k ∧ k < 0 + 5 then soilF (H 2 0) (H 2 2) (fun e => H 4 e) (fun e => H 5 e) (fun k => H 3 k) c (k - 0) else H 40 k)))) ∧ (¬ (1 ≤ soilT (H 2 0) (H 2 2) (fun e => H 4 e) (fun e => H 5 e) (fun k => H 3 k) c) → Q (-1) (xset H 40 (fun k => if 0 ≤ k ∧ k < 0 + 5 then soilF (H 2 0) (H 2 2) (fun e => H 4 e) (fun e => H 5 e) (fun k => H 3 k) c (k - 0) else H 40 k))))) ∧ (¬ (s = (-1)) → ((((0 ≤ s ∧ s ≤ 4)) → (1 ≤ H 2 0 ∧ H 2 0 ≤ 8) ∧ (0 ≤ H 2 2 ∧ H 2 2 ≤ 64) ∧ (0 ≤ c ∧ c < H 2 2) ∧ ((0 : Int) ≤ 0 ∧ (0 : Int) + 5 ≤ 320) ∧ (∀ k, 0 ≤ k → k < 320 → 0 ≤ H 3 k ∧ H 3 k ≤ 9) ∧ (((1 ≤ soilT (H 2 0) (H 2 2) (fun e => H 4 e) (fun e => H 5 e) (fun k => H 3 k) c) → ((¬ s = (-1)) → ((0 : Int) ≤ s ∧ (s : Int) < 320) ∧ Q ((fun k => if 0 ≤ k ∧ k < 0 + 5 then soilF (H 2 0) (H 2 2) (fun e => H 4 e) (fun e => H 5 e) (fun k => H 3 k) c (k - 0) else H 40 k) s) (xset H 40 (fun k => if 0 ≤ k ∧ k < 0 + 5 then soilF (H 2 0) (H 2 2) (fun e => H 4 e) (fun e => H 5 e) (fun k => H 3 k) c (k - 0) else H 40 k))) ∧ (¬ (¬ s = (-1)) → Q (soilT (H 2 0) (H 2 2) (fun e => H 4 e) (fun e => H 5 e) (fun k => H 3 k) c) (xset H 40 (fun k => if 0 ≤ k ∧ k < 0 + 5 then soilF (H 2 0) (H 2 2) (fun e => H 4 e) (fun e => H 5 e) (fun k => H 3 k) c (k - 0) else H 40 k)))) ∧ (¬ (1 ≤ soilT (H 2 0) (H 2 2) (fun e => H 4 e) (fun e => H 5 e) (fun k => H 3 k) c) → Q (-1) (xset H 40 (fun k => if 0 ≤ k ∧ k < 0 + 5 then soilF (H 2 0) (H 2 2) (fun e => H 4 e) (fun e => H 5 e) (fun k => H 3 k) c (k - 0) else H 40 k))))) ∧ (¬ ((0 ≤ s ∧ s ≤ 4)) → Q (-1) H)))) ∧ (¬ ((0 ≤ c ∧ c < H 2 2)) → Q (-1) H))) : xc X (d + 1) 38 [(2, 0), (0, c), (0, s)] H Q := by
  refine ⟨rfl, ?_⟩
  show xq X d 38 Q 100000 [(0, (2, 0)), (1, (0, c)), (2, (0, s))] [] H
  refine xq_run [11, 23, 47] 300 ?_
  show xWM (xE X) xMC d 18 [(2, 2), (0, c)] xKZ H _
  refine xc_in (s_18 (by omega) c H  ?_)
  replace h := h
  show xq X d 38 Q 11 [(0, (2, 0)), (1, (0, c)), (2, (0, s))] [(0, xb (0 ≤ c ∧ c < H 2 2))] H
  refine xq_run [11, 23, 47] 300 ?_
  show ((xb (0 ≤ c ∧ c < H 2 2) = 0) → xfR 0 (-1) ∧ xKZ = xKZ ∧ Q (-1) H) ∧ (¬ (xb (0 ≤ c ∧ c < H 2 2) = 0) → ((s = (-1)) → xWM (xE X) xMC d 37 [(2, 2), (0, c), (2, 40), (0, 0)] xKZ H _) ∧ (¬ (s = (-1)) → xWM (xE X) xMC d 31 [(0, s)] xKZ H _))
  refine ⟨fun k_ => ?_, fun k_ => ?_⟩
  · replace h := h.2 (xbe_0.mp k_)
    exact ⟨trivial, rfl, h⟩
  · replace h := h.1 (xbe_1.mp k_)
    refine ⟨fun k_ => ?_, fun k_ => ?_⟩
    · replace h := h.1 k_
      refine xc_in (s_37_a40 (by omega) c 0 H (h.1) (h.2.1) (h.2.2.1) (h.2.2.2.1) (h.2.2.2.2.1) ?_)
      replace h := h.2.2.2.2.2
      show xq X d 38 Q 47 [(0, (2, 0)), (1, (0, c)), (2, (0, s))] [(0, soilT (H 2 0) (H 2 2) (fun e => H 4 e) (fun e => H 5 e) (fun k => H 3 k) c)] (xset H 40 (fun k => if 0 ≤ k ∧ k < 0 + 5 then soilF (H 2 0) (H 2 2) (fun e => H 4 e) (fun e => H 5 e) (fun k => H 3 k) c (k - 0) else H 40 k))
      refine xq_run [11, 23, 47] 300 ?_
      show ((1 ≤ soilT (H 2 0) (H 2 2) (fun e => H 4 e) (fun e => H 5 e) (fun k => H 3 k) c) → ((¬ s = (-1)) → ((0 : Int) ≤ s ∧ (s : Int) < 320) ∧ xfR 0 ((fun k => if 0 ≤ k ∧ k < 0 + 5 then soilF (H 2 0) (H 2 2) (fun e => H 4 e) (fun e => H 5 e) (fun k => H 3 k) c (k - 0) else H 40 k) s) ∧ xKZ = xKZ ∧ Q ((fun k => if 0 ≤ k ∧ k < 0 + 5 then soilF (H 2 0) (H 2 2) (fun e => H 4 e) (fun e => H 5 e) (fun k => H 3 k) c (k - 0) else H 40 k) s) (xset H 40 (fun k => if 0 ≤ k ∧ k < 0 + 5 then soilF (H 2 0) (H 2 2) (fun e => H 4 e) (fun e => H 5 e) (fun k => H 3 k) c (k - 0) else H 40 k))) ∧ (¬ (¬ s = (-1)) → xfR 0 (soilT (H 2 0) (H 2 2) (fun e => H 4 e) (fun e => H 5 e) (fun k => H 3 k) c) ∧ xKZ = xKZ ∧ Q (soilT (H 2 0) (H 2 2) (fun e => H 4 e) (fun e => H 5 e) (fun k => H 3 k) c) (xset H 40 (fun k => if 0 ≤ k ∧ k < 0 + 5 then soilF (H 2 0) (H 2 2) (fun e => H 4 e) (fun e => H 5 e) (fun k => H 3 k) c (k - 0) else H 40 k)))) ∧ (¬ (1 ≤ soilT (H 2 0) (H 2 2) (fun e => H 4 e) (fun e => H 5 e) (fun k => H 3 k) c) → xfR 0 (-1) ∧ xKZ = xKZ ∧ Q (-1) (xset H 40 (fun k => if 0 ≤ k ∧ k < 0 + 5 then soilF (H 2 0) (H 2 2) (fun e => H 4 e) (fun e => H 5 e) (fun k => H 3 k) c (k - 0) else H 40 k)))
      refine ⟨fun k_ => ?_, fun k_ => ?_⟩
      · replace h := h.1 k_
        refine ⟨fun k_ => ?_, fun k_ => ?_⟩
        · replace h := h.1 k_
          refine ⟨h.1, ?_⟩
          replace h := h.2
          exact ⟨trivial, rfl, h⟩
        · replace h := h.2 k_
          exact ⟨trivial, rfl, h⟩
      · replace h := h.2 k_
        exact ⟨trivial, rfl, h⟩
    · replace h := h.2 k_
      refine xc_in (s_31 (by omega) s H  ?_)
      replace h := h
      show xq X d 38 Q 23 [(0, (2, 0)), (1, (0, c)), (2, (0, s))] [(0, xb (0 ≤ s ∧ s ≤ 4))] H
      refine xq_run [11, 23, 47] 300 ?_
      show ((¬ xb (0 ≤ s ∧ s ≤ 4) = 0) → xWM (xE X) xMC d 37 [(2, 2), (0, c), (2, 40), (0, 0)] xKZ H _) ∧ (¬ (¬ xb (0 ≤ s ∧ s ≤ 4) = 0) → xfR 0 (-1) ∧ xKZ = xKZ ∧ Q (-1) H)
      refine ⟨fun k_ => ?_, fun k_ => ?_⟩
      · replace h := h.1 (xbe_1.mp k_)
        refine xc_in (s_37_a40 (by omega) c 0 H (h.1) (h.2.1) (h.2.2.1) (h.2.2.2.1) (h.2.2.2.2.1) ?_)
        replace h := h.2.2.2.2.2
        show xq X d 38 Q 47 [(0, (2, 0)), (1, (0, c)), (2, (0, s))] [(0, soilT (H 2 0) (H 2 2) (fun e => H 4 e) (fun e => H 5 e) (fun k => H 3 k) c)] (xset H 40 (fun k => if 0 ≤ k ∧ k < 0 + 5 then soilF (H 2 0) (H 2 2) (fun e => H 4 e) (fun e => H 5 e) (fun k => H 3 k) c (k - 0) else H 40 k))
        refine xq_run [11, 23, 47] 300 ?_
        show ((1 ≤ soilT (H 2 0) (H 2 2) (fun e => H 4 e) (fun e => H 5 e) (fun k => H 3 k) c) → ((¬ s = (-1)) → ((0 : Int) ≤ s ∧ (s : Int) < 320) ∧ xfR 0 ((fun k => if 0 ≤ k ∧ k < 0 + 5 then soilF (H 2 0) (H 2 2) (fun e => H 4 e) (fun e => H 5 e) (fun k => H 3 k) c (k - 0) else H 40 k) s) ∧ xKZ = xKZ ∧ Q ((fun k => if 0 ≤ k ∧ k < 0 + 5 then soilF (H 2 0) (H 2 2) (fun e => H 4 e) (fun e => H 5 e) (fun k => H 3 k) c (k - 0) else H 40 k) s) (xset H 40 (fun k => if 0 ≤ k ∧ k < 0 + 5 then soilF (H 2 0) (H 2 2) (fun e => H 4 e) (fun e => H 5 e) (fun k => H 3 k) c (k - 0) else H 40 k))) ∧ (¬ (¬ s = (-1)) → xfR 0 (soilT (H 2 0) (H 2 2) (fun e => H 4 e) (fun e => H 5 e) (fun k => H 3 k) c) ∧ xKZ = xKZ ∧ Q (soilT (H 2 0) (H 2 2) (fun e => H 4 e) (fun e => H 5 e) (fun k => H 3 k) c) (xset H 40 (fun k => if 0 ≤ k ∧ k < 0 + 5 then soilF (H 2 0) (H 2 2) (fun e => H 4 e) (fun e => H 5 e) (fun k => H 3 k) c (k - 0) else H 40 k)))) ∧ (¬ (1 ≤ soilT (H 2 0) (H 2 2) (fun e => H 4 e) (fun e => H 5 e) (fun k => H 3 k) c) → xfR 0 (-1) ∧ xKZ = xKZ ∧ Q (-1) (xset H 40 (fun k => if 0 ≤ k ∧ k < 0 + 5 then soilF (H 2 0) (H 2 2) (fun e => H 4 e) (fun e => H 5 e) (fun k => H 3 k) c (k - 0) else H 40 k)))
        refine ⟨fun k_ => ?_, fun k_ => ?_⟩
        · replace h := h.1 k_
          refine ⟨fun k_ => ?_, fun k_ => ?_⟩
          · replace h := h.1 k_
            refine ⟨h.1, ?_⟩
            replace h := h.2
            exact ⟨trivial, rfl, h⟩
          · replace h := h.2 k_
            exact ⟨trivial, rfl, h⟩
        · replace h := h.2 k_
          exact ⟨trivial, rfl, h⟩
      · replace h := h.2 (xbe_n.mp k_)
        exact ⟨trivial, rfl, h⟩

theorem s_38 {X : Int × (Int → Int)} {d : Nat} {Q : Int → XH → Prop} (hd : 8 ≤ d) (c s : Int) (H : XH) (hi : InvS H) (hQ : ∀ h1 : XH, frC H h1 → Q (vSoil (H 67 0) (H 67 1) (H 68) c s) h1) : xc X d 38 [(2, 0), (0, c), (0, s)] H Q := by
  cases d with
  | zero => omega
  | succ d =>
  have hg := hi.1
  have hs := hi.2
  have nn := hg.nn
  have ww := hg.ww
  have l2 := hs.l2
  have hc := hs.c
  have lyb := hg.lyb
  have bnd := hg.bnd
  have l0 := hs.l0
  have hT : (0 ≤ c ∧ c < H 67 1) → ∀ s, 0 ≤ s → s < 5 → soilF (H 2 0) (H 2 2) (fun e => H 4 e) (fun e => H 5 e) (fun k => H 3 k) c s = soF (H 67 0) (H 67 1) (H 68) c s := fun hc s a b => by
    rw [l0, l2]
    exact soilF_congr nn.2 (fun e a b => hs.i e a (by omega)) (fun e a b => hs.o e a (by omega)) hs.d hc ⟨a, b⟩
  have hT2 : (0 ≤ c ∧ c < H 67 1) → soilT (H 2 0) (H 2 2) (fun e => H 4 e) (fun e => H 5 e) (fun k => H 3 k) c = soT (H 67 0) (H 67 1) (H 68) c := fun hc => by
    rw [l0, l2]
    exact soilT_congr nn.2 (fun e a b => hs.i e a (by omega)) (fun e a b => hs.o e a (by omega)) hs.d hc
  have fr40 : ∀ g, frC H (xset H 40 g) := fun g => frC_set (frC_refl H) (by decide)
  unfold vSoil at hQ
  refine U_38 (by omega) c s H ?_
  refine ⟨fun c1 => ?_, fun c1 => ?_⟩
  · skip
    refine ⟨fun c2 => ?_, fun c2 => ?_⟩
    · skip
      refine ⟨?_, ?_⟩
      · first | omega | (intro k a b; rw [hs.d k a b]; exact hg.amb k a b) | (unfold xI; omega)
      refine ⟨?_, ?_⟩
      · first | omega | (intro k a b; rw [hs.d k a b]; exact hg.amb k a b) | (unfold xI; omega)
      refine ⟨?_, ?_⟩
      · first | omega | (intro k a b; rw [hs.d k a b]; exact hg.amb k a b) | (unfold xI; omega)
      refine ⟨?_, ?_⟩
      · first | omega | (intro k a b; rw [hs.d k a b]; exact hg.amb k a b) | (unfold xI; omega)
      refine ⟨?_, ?_⟩
      · first | omega | (intro k a b; rw [hs.d k a b]; exact hg.amb k a b) | (unfold xI; omega)
      refine ⟨fun c3 => ?_, fun c3 => ?_⟩
      · skip
        refine ⟨fun c4 => ?_, fun c4 => ?_⟩
        · skip
          refine ⟨?_, ?_⟩
          · first | omega | (intro k a b; rw [hs.d k a b]; exact hg.amb k a b) | (unfold xI; omega)
          first | (have k := hQ _ (frC_refl H); rw [if_neg (by omega)] at k; exact k) | (exfalso; omega) | (have z := hT2 (by omega); refine xQr (hQ _ (fr40 _)) ?_; rw [if_neg (by omega)]) | (have z := hT2 (by omega); refine xQr (hQ _ (fr40 _)) ?_; rw [if_pos (by omega), if_pos (by omega)]; exact z) | (have z := hT2 (by omega); refine xQr (hQ _ (fr40 _)) ?_; rw [if_pos (by omega), if_neg (by omega)]; dsimp only; rw [if_pos (by omega), Int.sub_zero]; exact hT (by omega) s (by omega) (by omega))
        · skip
          first | (have k := hQ _ (frC_refl H); rw [if_neg (by omega)] at k; exact k) | (exfalso; omega) | (have z := hT2 (by omega); refine xQr (hQ _ (fr40 _)) ?_; rw [if_neg (by omega)]) | (have z := hT2 (by omega); refine xQr (hQ _ (fr40 _)) ?_; rw [if_pos (by omega), if_pos (by omega)]; exact z) | (have z := hT2 (by omega); refine xQr (hQ _ (fr40 _)) ?_; rw [if_pos (by omega), if_neg (by omega)]; dsimp only; rw [if_pos (by omega), Int.sub_zero]; exact hT (by omega) s (by omega) (by omega))
      · skip
        first | (have k := hQ _ (frC_refl H); rw [if_neg (by omega)] at k; exact k) | (exfalso; omega) | (have z := hT2 (by omega); refine xQr (hQ _ (fr40 _)) ?_; rw [if_neg (by omega)]) | (have z := hT2 (by omega); refine xQr (hQ _ (fr40 _)) ?_; rw [if_pos (by omega), if_pos (by omega)]; exact z) | (have z := hT2 (by omega); refine xQr (hQ _ (fr40 _)) ?_; rw [if_pos (by omega), if_neg (by omega)]; dsimp only; rw [if_pos (by omega), Int.sub_zero]; exact hT (by omega) s (by omega) (by omega))
    · skip
      refine ⟨fun c5 => ?_, fun c5 => ?_⟩
      · skip
        refine ⟨?_, ?_⟩
        · first | omega | (intro k a b; rw [hs.d k a b]; exact hg.amb k a b) | (unfold xI; omega)
        refine ⟨?_, ?_⟩
        · first | omega | (intro k a b; rw [hs.d k a b]; exact hg.amb k a b) | (unfold xI; omega)
        refine ⟨?_, ?_⟩
        · first | omega | (intro k a b; rw [hs.d k a b]; exact hg.amb k a b) | (unfold xI; omega)
        refine ⟨?_, ?_⟩
        · first | omega | (intro k a b; rw [hs.d k a b]; exact hg.amb k a b) | (unfold xI; omega)
        refine ⟨?_, ?_⟩
        · first | omega | (intro k a b; rw [hs.d k a b]; exact hg.amb k a b) | (unfold xI; omega)
        refine ⟨fun c6 => ?_, fun c6 => ?_⟩
        · skip
          refine ⟨fun c7 => ?_, fun c7 => ?_⟩
          · skip
            refine ⟨?_, ?_⟩
            · first | omega | (intro k a b; rw [hs.d k a b]; exact hg.amb k a b) | (unfold xI; omega)
            first | (have k := hQ _ (frC_refl H); rw [if_neg (by omega)] at k; exact k) | (exfalso; omega) | (have z := hT2 (by omega); refine xQr (hQ _ (fr40 _)) ?_; rw [if_neg (by omega)]) | (have z := hT2 (by omega); refine xQr (hQ _ (fr40 _)) ?_; rw [if_pos (by omega), if_pos (by omega)]; exact z) | (have z := hT2 (by omega); refine xQr (hQ _ (fr40 _)) ?_; rw [if_pos (by omega), if_neg (by omega)]; dsimp only; rw [if_pos (by omega), Int.sub_zero]; exact hT (by omega) s (by omega) (by omega))
          · skip
            first | (have k := hQ _ (frC_refl H); rw [if_neg (by omega)] at k; exact k) | (exfalso; omega) | (have z := hT2 (by omega); refine xQr (hQ _ (fr40 _)) ?_; rw [if_neg (by omega)]) | (have z := hT2 (by omega); refine xQr (hQ _ (fr40 _)) ?_; rw [if_pos (by omega), if_pos (by omega)]; exact z) | (have z := hT2 (by omega); refine xQr (hQ _ (fr40 _)) ?_; rw [if_pos (by omega), if_neg (by omega)]; dsimp only; rw [if_pos (by omega), Int.sub_zero]; exact hT (by omega) s (by omega) (by omega))
        · skip
          first | (have k := hQ _ (frC_refl H); rw [if_neg (by omega)] at k; exact k) | (exfalso; omega) | (have z := hT2 (by omega); refine xQr (hQ _ (fr40 _)) ?_; rw [if_neg (by omega)]) | (have z := hT2 (by omega); refine xQr (hQ _ (fr40 _)) ?_; rw [if_pos (by omega), if_pos (by omega)]; exact z) | (have z := hT2 (by omega); refine xQr (hQ _ (fr40 _)) ?_; rw [if_pos (by omega), if_neg (by omega)]; dsimp only; rw [if_pos (by omega), Int.sub_zero]; exact hT (by omega) s (by omega) (by omega))
      · skip
        first | (have k := hQ _ (frC_refl H); rw [if_neg (by omega)] at k; exact k) | (exfalso; omega) | (have z := hT2 (by omega); refine xQr (hQ _ (fr40 _)) ?_; rw [if_neg (by omega)]) | (have z := hT2 (by omega); refine xQr (hQ _ (fr40 _)) ?_; rw [if_pos (by omega), if_pos (by omega)]; exact z) | (have z := hT2 (by omega); refine xQr (hQ _ (fr40 _)) ?_; rw [if_pos (by omega), if_neg (by omega)]; dsimp only; rw [if_pos (by omega), Int.sub_zero]; exact hT (by omega) s (by omega) (by omega))
  · skip
    first | (have k := hQ _ (frC_refl H); rw [if_neg (by omega)] at k; exact k) | (exfalso; omega) | (have z := hT2 (by omega); refine xQr (hQ _ (fr40 _)) ?_; rw [if_neg (by omega)]) | (have z := hT2 (by omega); refine xQr (hQ _ (fr40 _)) ?_; rw [if_pos (by omega), if_pos (by omega)]; exact z) | (have z := hT2 (by omega); refine xQr (hQ _ (fr40 _)) ?_; rw [if_pos (by omega), if_neg (by omega)]; dsimp only; rw [if_pos (by omega), Int.sub_zero]; exact hT (by omega) s (by omega) (by omega))

theorem U_44 {X : Int × (Int → Int)} {d : Nat} {Q : Int → XH → Prop} (hd : 4 ≤ d) (c s : Int) (H : XH) (h : (-2147483648 < H 67 1 ∧ H 67 1 ≤ 2147483647) ∧ ((((0 ≤ c ∧ c < H 67 1)) → ((s = (-1)) → (GOk (H 67 0) (H 67 1) (H 68)) ∧ (0 ≤ c ∧ c < H 67 1) ∧ (∀ (h27 : XH), (frM H h27 ∧ h27 67 14 = soT (H 67 0) (H 67 1) (H 68) c ∧ ∀ s, 0 ≤ s → s < 5 → h27 76 s = soF (H 67 0) (H 67 1) (H 68) c s) → (((¬ soT (H 67 0) (H 67 1) (H 68) c < 1)) → ((¬ s = (-1)) → ((0 : Int) ≤ s ∧ (s : Int) < 5) ∧ Q (h27 76 s) h27) ∧ (¬ (¬ s = (-1)) → Q (h27 67 14) h27)) ∧ (¬ ((¬ soT (H 67 0) (H 67 1) (H 68) c < 1)) → Q (-1) h27))) ∧ (¬ (s = (-1)) → ((((0 ≤ s ∧ s ≤ 4)) → (GOk (H 67 0) (H 67 1) (H 68)) ∧ (0 ≤ c ∧ c < H 67 1) ∧ (∀ (h28 : XH), (frM H h28 ∧ h28 67 14 = soT (H 67 0) (H 67 1) (H 68) c ∧ ∀ s, 0 ≤ s → s < 5 → h28 76 s = soF (H 67 0) (H 67 1) (H 68) c s) → (((¬ soT (H 67 0) (H 67 1) (H 68) c < 1)) → ((¬ s = (-1)) → ((0 : Int) ≤ s ∧ (s : Int) < 5) ∧ Q (h28 76 s) h28) ∧ (¬ (¬ s = (-1)) → Q (h28 67 14) h28)) ∧ (¬ ((¬ soT (H 67 0) (H 67 1) (H 68) c < 1)) → Q (-1) h28))) ∧ (¬ ((0 ≤ s ∧ s ≤ 4)) → Q (-1) H)))) ∧ (¬ ((0 ≤ c ∧ c < H 67 1)) → Q (-1) H))) : xc X (d + 1) 44 [(2, 67), (0, c), (0, s)] H Q := by
  refine ⟨rfl, ?_⟩
  show xq X d 44 Q 100000 [(0, (2, 67)), (1, (0, c)), (2, (0, s))] [] H
  refine xq_run [5, 17, 25] 300 ?_
  show xWM (xE X) xMC d 24 [(2, 67), (0, c)] xKZ H _
  refine xc_in (s_24 (by omega) c H (h.1) ?_)
  replace h := h.2
  show xq X d 44 Q 5 [(0, (2, 67)), (1, (0, c)), (2, (0, s))] [(0, xb (0 ≤ c ∧ c < H 67 1))] H
  refine xq_run [5, 17, 25] 300 ?_
  show ((xb (0 ≤ c ∧ c < H 67 1) = 0) → xfR 0 (-1) ∧ xKZ = xKZ ∧ Q (-1) H) ∧ (¬ (xb (0 ≤ c ∧ c < H 67 1) = 0) → ((s = (-1)) → xWM (xE X) xMC d 43 [(2, 67), (0, c)] xKZ H _) ∧ (¬ (s = (-1)) → xWM (xE X) xMC d 39 [(0, s)] xKZ H _))
  refine ⟨fun k_ => ?_, fun k_ => ?_⟩
  · replace h := h.2 (xbe_0.mp k_)
    exact ⟨trivial, rfl, h⟩
  · replace h := h.1 (xbe_1.mp k_)
    refine ⟨fun k_ => ?_, fun k_ => ?_⟩
    · replace h := h.1 k_
      refine xc_in (s_43g (by omega) c H (h.1) (h.2.1) ?_)
      intro h27 q_0
      replace h := h.2.2 h27 q_0
      show xq X d 44 Q 25 [(0, (2, 67)), (1, (0, c)), (2, (0, s))] [(0, xb (¬ soT (H 67 0) (H 67 1) (H 68) c < 1))] h27
      refine xq_run [5, 17, 25] 300 ?_
      show ((¬ xb (¬ soT (H 67 0) (H 67 1) (H 68) c < 1) = 0) → ((¬ s = (-1)) → ((0 : Int) ≤ s ∧ (s : Int) < 5) ∧ xfR 0 (h27 76 s) ∧ xKZ = xKZ ∧ Q (h27 76 s) h27) ∧ (¬ (¬ s = (-1)) → xfR 0 (h27 67 14) ∧ xKZ = xKZ ∧ Q (h27 67 14) h27)) ∧ (¬ (¬ xb (¬ soT (H 67 0) (H 67 1) (H 68) c < 1) = 0) → xfR 0 (-1) ∧ xKZ = xKZ ∧ Q (-1) h27)
      refine ⟨fun k_ => ?_, fun k_ => ?_⟩
      · replace h := h.1 (xbe_1.mp k_)
        refine ⟨fun k_ => ?_, fun k_ => ?_⟩
        · replace h := h.1 k_
          refine ⟨h.1, ?_⟩
          replace h := h.2
          exact ⟨trivial, rfl, h⟩
        · replace h := h.2 k_
          exact ⟨trivial, rfl, h⟩
      · replace h := h.2 (xbe_n.mp k_)
        exact ⟨trivial, rfl, h⟩
    · replace h := h.2 k_
      refine xc_in (s_39 (by omega) s H  ?_)
      replace h := h
      show xq X d 44 Q 17 [(0, (2, 67)), (1, (0, c)), (2, (0, s))] [(0, xb (0 ≤ s ∧ s ≤ 4))] H
      refine xq_run [5, 17, 25] 300 ?_
      show ((xb (0 ≤ s ∧ s ≤ 4) = 0) → xfR 0 (-1) ∧ xKZ = xKZ ∧ Q (-1) H) ∧ (¬ (xb (0 ≤ s ∧ s ≤ 4) = 0) → xWM (xE X) xMC d 43 [(2, 67), (0, c)] xKZ H _)
      refine ⟨fun k_ => ?_, fun k_ => ?_⟩
      · replace h := h.2 (xbe_0.mp k_)
        exact ⟨trivial, rfl, h⟩
      · replace h := h.1 (xbe_1.mp k_)
        refine xc_in (s_43g (by omega) c H (h.1) (h.2.1) ?_)
        intro h28 q_0
        replace h := h.2.2 h28 q_0
        show xq X d 44 Q 25 [(0, (2, 67)), (1, (0, c)), (2, (0, s))] [(0, xb (¬ soT (H 67 0) (H 67 1) (H 68) c < 1))] h28
        refine xq_run [5, 17, 25] 300 ?_
        show ((¬ xb (¬ soT (H 67 0) (H 67 1) (H 68) c < 1) = 0) → ((¬ s = (-1)) → ((0 : Int) ≤ s ∧ (s : Int) < 5) ∧ xfR 0 (h28 76 s) ∧ xKZ = xKZ ∧ Q (h28 76 s) h28) ∧ (¬ (¬ s = (-1)) → xfR 0 (h28 67 14) ∧ xKZ = xKZ ∧ Q (h28 67 14) h28)) ∧ (¬ (¬ xb (¬ soT (H 67 0) (H 67 1) (H 68) c < 1) = 0) → xfR 0 (-1) ∧ xKZ = xKZ ∧ Q (-1) h28)
        refine ⟨fun k_ => ?_, fun k_ => ?_⟩
        · replace h := h.1 (xbe_1.mp k_)
          refine ⟨fun k_ => ?_, fun k_ => ?_⟩
          · replace h := h.1 k_
            refine ⟨h.1, ?_⟩
            replace h := h.2
            exact ⟨trivial, rfl, h⟩
          · replace h := h.2 k_
            exact ⟨trivial, rfl, h⟩
        · replace h := h.2 (xbe_n.mp k_)
          exact ⟨trivial, rfl, h⟩

theorem s_44 {X : Int × (Int → Int)} {d : Nat} {Q : Int → XH → Prop} (hd : 8 ≤ d) (c s : Int) (H : XH) (hg : GOk (H 67 0) (H 67 1) (H 68)) (hQ : ∀ h1 : XH, frM H h1 → Q (vSoil (H 67 0) (H 67 1) (H 68) c s) h1) : xc X d 44 [(2, 67), (0, c), (0, s)] H Q := by
  cases d with
  | zero => omega
  | succ d =>
  have nn := hg.nn
  have ww := hg.ww
  have lyb := hg.lyb
  have bnd := hg.bnd
  unfold vSoil at hQ
  refine U_44 (by omega) c s H ?_
  refine ⟨?_, ?_⟩
  · first | omega | exact hg
  refine ⟨fun c1 => ?_, fun c1 => ?_⟩
  · skip
    refine ⟨fun c2 => ?_, fun c2 => ?_⟩
    · skip
      refine ⟨?_, ?_⟩
      · first | omega | exact hg
      refine ⟨?_, ?_⟩
      · first | omega | exact hg
      intro h29 c3
      have ff := c3
      refine ⟨fun c4 => ?_, fun c4 => ?_⟩
      · skip
        refine ⟨fun c5 => ?_, fun c5 => ?_⟩
        · skip
          refine ⟨?_, ?_⟩
          · first | omega | exact hg
          first | (exfalso; omega) | (have k := hQ _ (frM_refl H); rw [if_neg (by omega)] at k; exact k) | (have k := hQ _ ff.1; rw [if_neg (by omega)] at k; exact k) | (have k := hQ _ ff.1; rw [if_pos (by omega), if_pos (by omega), ← ff.2.1] at k; exact k) | (have k := hQ _ ff.1; rw [if_pos (by omega), if_neg (by omega), ← ff.2.2 s (by omega) (by omega)] at k; exact k)
        · skip
          first | (exfalso; omega) | (have k := hQ _ (frM_refl H); rw [if_neg (by omega)] at k; exact k) | (have k := hQ _ ff.1; rw [if_neg (by omega)] at k; exact k) | (have k := hQ _ ff.1; rw [if_pos (by omega), if_pos (by omega), ← ff.2.1] at k; exact k) | (have k := hQ _ ff.1; rw [if_pos (by omega), if_neg (by omega), ← ff.2.2 s (by omega) (by omega)] at k; exact k)
      · skip
        first | (exfalso; omega) | (have k := hQ _ (frM_refl H); rw [if_neg (by omega)] at k; exact k) | (have k := hQ _ ff.1; rw [if_neg (by omega)] at k; exact k) | (have k := hQ _ ff.1; rw [if_pos (by omega), if_pos (by omega), ← ff.2.1] at k; exact k) | (have k := hQ _ ff.1; rw [if_pos (by omega), if_neg (by omega), ← ff.2.2 s (by omega) (by omega)] at k; exact k)
    · skip
      refine ⟨fun c6 => ?_, fun c6 => ?_⟩
      · skip
        refine ⟨?_, ?_⟩
        · first | omega | exact hg
        refine ⟨?_, ?_⟩
        · first | omega | exact hg
        intro h30 c7
        have ff := c7
        refine ⟨fun c8 => ?_, fun c8 => ?_⟩
        · skip
          refine ⟨fun c9 => ?_, fun c9 => ?_⟩
          · skip
            refine ⟨?_, ?_⟩
            · first | omega | exact hg
            first | (exfalso; omega) | (have k := hQ _ (frM_refl H); rw [if_neg (by omega)] at k; exact k) | (have k := hQ _ ff.1; rw [if_neg (by omega)] at k; exact k) | (have k := hQ _ ff.1; rw [if_pos (by omega), if_pos (by omega), ← ff.2.1] at k; exact k) | (have k := hQ _ ff.1; rw [if_pos (by omega), if_neg (by omega), ← ff.2.2 s (by omega) (by omega)] at k; exact k)
          · skip
            first | (exfalso; omega) | (have k := hQ _ (frM_refl H); rw [if_neg (by omega)] at k; exact k) | (have k := hQ _ ff.1; rw [if_neg (by omega)] at k; exact k) | (have k := hQ _ ff.1; rw [if_pos (by omega), if_pos (by omega), ← ff.2.1] at k; exact k) | (have k := hQ _ ff.1; rw [if_pos (by omega), if_neg (by omega), ← ff.2.2 s (by omega) (by omega)] at k; exact k)
        · skip
          first | (exfalso; omega) | (have k := hQ _ (frM_refl H); rw [if_neg (by omega)] at k; exact k) | (have k := hQ _ ff.1; rw [if_neg (by omega)] at k; exact k) | (have k := hQ _ ff.1; rw [if_pos (by omega), if_pos (by omega), ← ff.2.1] at k; exact k) | (have k := hQ _ ff.1; rw [if_pos (by omega), if_neg (by omega), ← ff.2.2 s (by omega) (by omega)] at k; exact k)
      · skip
        first | (exfalso; omega) | (have k := hQ _ (frM_refl H); rw [if_neg (by omega)] at k; exact k) | (have k := hQ _ ff.1; rw [if_neg (by omega)] at k; exact k) | (have k := hQ _ ff.1; rw [if_pos (by omega), if_pos (by omega), ← ff.2.1] at k; exact k) | (have k := hQ _ ff.1; rw [if_pos (by omega), if_neg (by omega), ← ff.2.2 s (by omega) (by omega)] at k; exact k)
  · skip
    first | (exfalso; omega) | (have k := hQ _ (frM_refl H); rw [if_neg (by omega)] at k; exact k) | (have k := hQ _ ff.1; rw [if_neg (by omega)] at k; exact k) | (have k := hQ _ ff.1; rw [if_pos (by omega), if_pos (by omega), ← ff.2.1] at k; exact k) | (have k := hQ _ ff.1; rw [if_pos (by omega), if_neg (by omega), ← ff.2.2 s (by omega) (by omega)] at k; exact k)

theorem p_soil {X : Int × (Int → Int)} {d : Nat} (hd : 8 ≤ d) (c s : Int) (H : XH) (hi : InvS H) : xc X d 38 [(2, 0), (0, c), (0, s)] H (fun r H1 => xc X d 44 [(2, 67), (0, c), (0, s)] H1 (qOk H r)) :=
  s_38 (by omega) c s H hi (fun h1 f => s_44 (by omega) c s h1 (frC_S f hi).1 (fun h2 f' => ⟨by rw [f 67 (by decide) (by decide), f 68 (by decide) (by decide)], frQ_CM f f'⟩))
