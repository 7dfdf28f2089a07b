/-! THE PURE LAYER 7: dig, carry, bar, start: the plain changes -/
theorem U_26 {X : Int × (Int → Int)} {d : Nat} {Q : Int → XH → Prop} (hd : 0 ≤ d) (c e : Int) (H : XH) (h : xq X d 26 Q 5 [(0, (2, 2)), (2, (0, e)), (3, (0, c)), (4, (0, 0))] [] H) : xc X (d + 1) 26 [(2, 2), (0, c), (0, e)] H Q := by
  refine ⟨rfl, ?_⟩
  show xq X d 26 Q 100000 [(0, (2, 2)), (1, (0, c)), (2, (0, e))] [] H
  refine xq_run [5, 17] 300 ?_
  show xq X d 26 Q 5 [(0, (2, 2)), (2, (0, e)), (3, (0, c)), (4, (0, 0))] [] H
  exact h
theorem U_26_5 {X : Int × (Int → Int)} {d : Nat} {Q : Int → XH → Prop} (hd : 1 ≤ d) (v2 v3 v4 : Int) (H : XH) (h : ((64 < v4) → Q 0 H) ∧ (¬ (64 < v4) → ((((0 ≤ v3 ∧ v3 < H 2 2)) → ((¬ v3 = v2) → ((0 : Int) ≤ v3 ∧ (v3 : Int) < 64) ∧ (xI (v4 + 1)) ∧ xq X d 26 Q 5 [(0, (2, 2)), (2, (0, v2)), (3, (0, H 5 v3)), (4, (0, v4 + 1))] [] H) ∧ (¬ (¬ v3 = v2) → Q 1 H)) ∧ (¬ ((0 ≤ v3 ∧ v3 < H 2 2)) → Q 0 H)))) : xq X d 26 Q 5 [(0, (2, 2)), (2, (0, v2)), (3, (0, v3)), (4, (0, v4))] [] H := by
  show xq X d 26 Q 5 [(0, (2, 2)), (2, (0, v2)), (3, (0, v3)), (4, (0, v4))] [] H
  refine xq_run [5, 17] 300 ?_
  show ((64 < v4) → xfR 3 0 ∧ xKZ = xKZ ∧ Q 0 H) ∧ (¬ (64 < v4) → xWM (xE X) xMC d 18 [(2, 2), (0, v3)] xKZ H _)
  refine ⟨fun k_ => ?_, fun k_ => ?_⟩
  · replace h := h.1 k_
    exact ⟨xfR3_0, rfl, h⟩
  · replace h := h.2 k_
    refine xc_in (s_18 (by omega) v3 H  ?_)
    replace h := h
    show xq X d 26 Q 17 [(0, (2, 2)), (2, (0, v2)), (3, (0, v3)), (4, (0, v4))] [(0, xb (0 ≤ v3 ∧ v3 < H 2 2))] H
    refine xq_run [5, 17] 300 ?_
    show ((xb (0 ≤ v3 ∧ v3 < H 2 2) = 0) → xfR 3 0 ∧ xKZ = xKZ ∧ Q 0 H) ∧ (¬ (xb (0 ≤ v3 ∧ v3 < H 2 2) = 0) → ((¬ v3 = v2) → ((0 : Int) ≤ v3 ∧ (v3 : Int) < 64) ∧ (xI (v4 + 1)) ∧ xq X d 26 Q 5 [(0, (2, 2)), (2, (0, v2)), (3, (0, H 5 v3)), (4, (0, v4 + 1))] [] H) ∧ (¬ (¬ v3 = v2) → xfR 3 1 ∧ xKZ = xKZ ∧ Q 1 H))
    refine ⟨fun k_ => ?_, fun k_ => ?_⟩
    · replace h := h.2 (xbe_0.mp k_)
      exact ⟨xfR3_0, rfl, h⟩
    · replace h := h.1 (xbe_1.mp k_)
      refine ⟨fun k_ => ?_, fun k_ => ?_⟩
      · replace h := h.1 k_
        refine ⟨h.1, ?_⟩
        replace h := h.2
        refine ⟨h.1, ?_⟩
        replace h := h.2
        exact h
      · replace h := h.2 k_
        exact ⟨xfR3_1, rfl, h⟩

/-- 1: e is met on the way of what was carried from c on, in k steps -/
def hitR (n : Int) (og : Int → Int) : Nat → Int → Int → Int
  | 0, _, _ => 0
  | k + 1, c, e => if 0 ≤ c ∧ c < n then (if c = e then 1 else hitR n og k (og c) e) else 0
theorem hitR_01 {n : Int} {og : Int → Int} : ∀ (k : Nat) (c e : Int), hitR n og k c e = 0 ∨ hitR n og k c e = 1
  | 0, _, _ => Or.inl rfl
  | k + 1, c, e => by
    unfold hitR
    split
    · split
      · exact Or.inr rfl
      · exact hitR_01 k _ e
    · exact Or.inl rfl
theorem hitR_none {n : Int} {og : Int → Int} : ∀ (k : Nat) (e : Int), hitR n og k (-1) e = 0
  | 0, _ => rfl
  | k + 1, e => if_neg (by omega)
theorem hitR_mono {n : Int} {og : Int → Int} {e : Int} : ∀ (k m : Nat) (c : Int), itf (stp og) k c = -1 → k ≤ m → hitR n og m c e = hitR n og k c e
  | 0, m, c, h, _ => by
    have h' : c = -1 := h
    rw [h', hitR_none, hitR_none]
  | k + 1, m, c, h, hm => by
    cases m with
    | zero => omega
    | succ m =>
      unfold hitR
      split
      · next q =>
        split
        · rfl
        · refine hitR_mono k m (og c) ?_ (by omega)
          have h' : itf (stp og) k (stp og c) = -1 := h
          rw [show stp og c = og c from if_neg (by omega)] at h'
          exact h'
      · rfl
theorem hitR_hits {n : Int} {og : Int → Int} (ho : OgR n og) {e : Int} (he : ¬ e = -1) : ∀ (k : Nat) (c : Int), (c = -1 ∨ (0 ≤ c ∧ c < n)) → itf (stp og) k c = -1 → hitR n og k c e = 0 → ¬ hits og c e
  | 0, c, _, h, _ => by
    rintro ⟨m, hm⟩
    have h' : c = -1 := h
    rw [h', itf_none] at hm
    exact he hm.symm
  | k + 1, c, hc, h, hz => by
    by_cases q : c = -1
    · rintro ⟨m, hm⟩
      rw [q, itf_none] at hm
      exact he hm.symm
    · have hc' : 0 ≤ c ∧ c < n := hc.elim (fun x => absurd x q) id
      unfold hitR at hz
      rw [if_pos hc'] at hz
      by_cases qe : c = e
      · rw [if_pos qe] at hz
        omega
      · rw [if_neg qe] at hz
        rw [hits_up q qe]
        refine hitR_hits ho he k (og c) (ho c hc'.1 hc'.2) ?_ hz
        have h' : itf (stp og) k (stp og c) = -1 := h
        rw [show stp og c = og c from if_neg q] at h'
        exact h'
theorem hitR_congr {n : Int} {og og' : Int → Int} (ho : ∀ e, 0 ≤ e → e < n → og e = og' e) : ∀ (k : Nat) (c e : Int), hitR n og k c e = hitR n og' k c e
  | 0, _, _ => rfl
  | k + 1, c, e => by
    unfold hitR
    split
    · next q =>
      rw [ho c q.1 q.2]
      split
      · rfl
      · exact hitR_congr ho k _ e
    · rfl
theorem s_26 {X : Int × (Int → Int)} {d : Nat} {Q : Int → XH → Prop} (hd : 2 ≤ d) (c e : Int) (H : XH) (pn : 0 ≤ H 2 2 ∧ H 2 2 ≤ 64) (hQ : Q (hitR (H 2 2) (H 5) 65 c e) H) : xc X d 26 [(2, 2), (0, c), (0, e)] H Q := by
  cases d with
  | zero => omega
  | succ d =>
  refine U_26 (by omega) c e H ?_
  have key : ∀ (k : Nat) (j c : Int), j = 65 - (k : Int) → k ≤ 65 → Q (hitR (H 2 2) (H 5) k c e) H → xq X d 26 Q 5 [(0, (2, 2)), (2, (0, e)), (3, (0, c)), (4, (0, j))] [] H := by
    intro k
    induction k with
    | zero =>
      intro j c hj hk hQ
      exact U_26_5 (by omega) e c j H ⟨fun _ => hQ, fun q => absurd (by omega) q⟩
    | succ k ih =>
      intro j c hj hk hQ
      refine U_26_5 (by omega) e c j H ⟨fun q => absurd q (by omega), fun _ => ⟨fun q => ⟨fun q2 => ⟨⟨q.1, by omega⟩, by unfold xI; omega, ?_⟩, fun q2 => ?_⟩, fun q => ?_⟩⟩
      · unfold hitR at hQ
        rw [if_pos q, if_neg q2] at hQ
        exact ih (j + 1) (H 5 c) (by omega) (by omega) hQ
      · unfold hitR at hQ
        rw [if_pos q, if_pos (Classical.not_not.mp q2)] at hQ
        exact hQ
      · unfold hitR at hQ
        rw [if_neg q] at hQ
        exact hQ
  exact key 65 0 c (by omega) (by omega) hQ

theorem U_28 {X : Int × (Int → Int)} {d : Nat} {Q : Int → XH → Prop} (hd : 2 ≤ d) (c f : Int) (H : XH) (h : (-2147483648 < H 67 1 ∧ H 67 1 ≤ 2147483647) ∧ ((((0 ≤ c ∧ c < H 67 1)) → ((f = (-1)) → xq X d 28 Q 25 [(0, (2, 67)), (1, (0, c)), (2, (0, f)), (3, (0, f))] [] H) ∧ (¬ (f = (-1)) → (-2147483648 < H 67 1 ∧ H 67 1 ≤ 2147483647) ∧ ((((0 ≤ f ∧ f < H 67 1)) → xq X d 28 Q 25 [(0, (2, 67)), (1, (0, c)), (2, (0, f)), (3, (0, f))] [] H) ∧ (¬ ((0 ≤ f ∧ f < H 67 1)) → Q 0 H)))) ∧ (¬ ((0 ≤ c ∧ c < H 67 1)) → Q 0 H))) : xc X (d + 1) 28 [(2, 67), (0, c), (0, f)] H Q := by
  refine ⟨rfl, ?_⟩
  show xq X d 28 Q 100000 [(0, (2, 67)), (1, (0, c)), (2, (0, f))] [] H
  refine xq_run [5, 18, 25] 300 ?_
  show xWM (xE X) xMC d 24 [(2, 67), (0, c)] xKZ H _
  refine xc_in (s_24 (by omega) c H (h.1) ?_)
  replace h := h.2
  show xq X d 28 Q 5 [(0, (2, 67)), (1, (0, c)), (2, (0, f))] [(0, xb (0 ≤ c ∧ c < H 67 1))] H
  refine xq_run [5, 18, 25] 300 ?_
  show ((xb (0 ≤ c ∧ c < H 67 1) = 0) → xfR 3 0 ∧ xKZ = xKZ ∧ Q 0 H) ∧ (¬ (xb (0 ≤ c ∧ c < H 67 1) = 0) → ((f = (-1)) → xq X d 28 Q 25 [(0, (2, 67)), (1, (0, c)), (2, (0, f)), (3, (0, f))] [] H) ∧ (¬ (f = (-1)) → xWM (xE X) xMC d 24 [(2, 67), (0, f)] xKZ H _))
  refine ⟨fun k_ => ?_, fun k_ => ?_⟩
  · replace h := h.2 (xbe_0.mp k_)
    exact ⟨xfR3_0, rfl, h⟩
  · replace h := h.1 (xbe_1.mp k_)
    refine ⟨fun k_ => ?_, fun k_ => ?_⟩
    · replace h := h.1 k_
      exact h
    · replace h := h.2 k_
      refine xc_in (s_24 (by omega) f H (h.1) ?_)
      replace h := h.2
      show xq X d 28 Q 18 [(0, (2, 67)), (1, (0, c)), (2, (0, f))] [(0, xb (0 ≤ f ∧ f < H 67 1))] H
      refine xq_run [5, 18, 25] 300 ?_
      show ((¬ xb (0 ≤ f ∧ f < H 67 1) = 0) → xq X d 28 Q 25 [(0, (2, 67)), (1, (0, c)), (2, (0, f)), (3, (0, f))] [] H) ∧ (¬ (¬ xb (0 ≤ f ∧ f < H 67 1) = 0) → xfR 3 0 ∧ xKZ = xKZ ∧ Q 0 H)
      refine ⟨fun k_ => ?_, fun k_ => ?_⟩
      · replace h := h.1 (xbe_1.mp k_)
        exact h
      · replace h := h.2 (xbe_n.mp k_)
        exact ⟨xfR3_0, rfl, h⟩
theorem U_28_25 {X : Int × (Int → Int)} {d : Nat} {Q : Int → XH → Prop} (hd : 0 ≤ d) (v1 v2 v3 : Int) (H : XH) (h : ((v3 = (-1)) → ((v3 = (-1)) → (xI (90 + v1)) ∧ ((0 : Int) ≤ 90 + v1 ∧ (90 + v1 : Int) < 1180) ∧ Q 1 (xup H 68 (90 + v1) v2)) ∧ (¬ (v3 = (-1)) → Q 0 H)) ∧ (¬ (v3 = (-1)) → ((v3 = v1) → ((v3 = (-1)) → (xI (90 + v1)) ∧ ((0 : Int) ≤ 90 + v1 ∧ (90 + v1 : Int) < 1180) ∧ Q 1 (xup H 68 (90 + v1) v2)) ∧ (¬ (v3 = (-1)) → Q 0 H)) ∧ (¬ (v3 = v1) → (xI (90 + v3)) ∧ ((0 : Int) ≤ 90 + v3 ∧ (90 + v3 : Int) < 1180) ∧ xq X d 28 Q 25 [(0, (2, 67)), (1, (0, v1)), (2, (0, v2)), (3, (0, H 68 (90 + v3)))] [] H))) : xq X d 28 Q 25 [(0, (2, 67)), (1, (0, v1)), (2, (0, v2)), (3, (0, v3))] [] H := by
  show xq X d 28 Q 25 [(0, (2, 67)), (1, (0, v1)), (2, (0, v2)), (3, (0, v3))] [] H
  refine xq_run [5, 18, 25] 300 ?_
  show ((v3 = (-1)) → ((v3 = (-1)) → (xI (90 + v1)) ∧ ((0 : Int) ≤ 90 + v1 ∧ (90 + v1 : Int) < 1180) ∧ xfR 3 1 ∧ xKZ = xKZ ∧ Q 1 (xup H 68 (90 + v1) v2)) ∧ (¬ (v3 = (-1)) → xfR 3 0 ∧ xKZ = xKZ ∧ Q 0 H)) ∧ (¬ (v3 = (-1)) → ((v3 = v1) → ((v3 = (-1)) → (xI (90 + v1)) ∧ ((0 : Int) ≤ 90 + v1 ∧ (90 + v1 : Int) < 1180) ∧ xfR 3 1 ∧ xKZ = xKZ ∧ Q 1 (xup H 68 (90 + v1) v2)) ∧ (¬ (v3 = (-1)) → xfR 3 0 ∧ xKZ = xKZ ∧ Q 0 H)) ∧ (¬ (v3 = v1) → (xI (90 + v3)) ∧ ((0 : Int) ≤ 90 + v3 ∧ (90 + v3 : Int) < 1180) ∧ xq X d 28 Q 25 [(0, (2, 67)), (1, (0, v1)), (2, (0, v2)), (3, (0, H 68 (90 + v3)))] [] H))
  refine ⟨fun k_ => ?_, fun k_ => ?_⟩
  · replace h := h.1 k_
    refine ⟨fun k_ => ?_, fun k_ => ?_⟩
    · replace h := h.1 k_
      refine ⟨h.1, ?_⟩
      replace h := h.2
      refine ⟨h.1, ?_⟩
      replace h := h.2
      exact ⟨xfR3_1, rfl, h⟩
    · replace h := h.2 k_
      exact ⟨xfR3_0, rfl, h⟩
  · replace h := h.2 k_
    refine ⟨fun k_ => ?_, fun k_ => ?_⟩
    · replace h := h.1 k_
      refine ⟨fun k_ => ?_, fun k_ => ?_⟩
      · replace h := h.1 k_
        refine ⟨h.1, ?_⟩
        replace h := h.2
        refine ⟨h.1, ?_⟩
        replace h := h.2
        exact ⟨xfR3_1, rfl, h⟩
      · replace h := h.2 k_
        exact ⟨xfR3_0, rfl, h⟩
    · replace h := h.2 k_
      refine ⟨h.1, ?_⟩
      replace h := h.2
      refine ⟨h.1, ?_⟩
      replace h := h.2
      exact h

/-- the model's carry -/
theorem s_28 {X : Int × (Int → Int)} {d : Nat} {Q : Int → XH → Prop} (hd : 3 ≤ d) (c f : Int) (H : XH) (pn : 0 ≤ H 67 1 ∧ H 67 1 ≤ 64) (po : OgR (H 67 1) (fun e => H 68 (90 + e))) (pe : Ends (H 67 1) (fun e => H 68 (90 + e)))
    (h1 : (0 ≤ c ∧ c < H 67 1) ∧ (f = -1 ∨ ((0 ≤ f ∧ f < H 67 1) ∧ hitR (H 67 1) (fun e => H 68 (90 + e)) 65 f c = 0)) → Q 1 (xup H 68 (90 + c) f)) (h0 : ¬ ((0 ≤ c ∧ c < H 67 1) ∧ (f = -1 ∨ ((0 ≤ f ∧ f < H 67 1) ∧ hitR (H 67 1) (fun e => H 68 (90 + e)) 65 f c = 0))) → Q 0 H) : xc X d 28 [(2, 67), (0, c), (0, f)] H Q := by
  cases d with
  | zero => omega
  | succ d =>
  have hcc : -2147483648 < H 67 1 ∧ H 67 1 ≤ 2147483647 := by omega
  have key : 0 ≤ c ∧ c < H 67 1 → ∀ (k : Nat) (x : Int), (x = -1 ∨ (0 ≤ x ∧ x < H 67 1)) → itf (stp (fun e => H 68 (90 + e))) k x = -1 → (hitR (H 67 1) (fun e => H 68 (90 + e)) k x c = 0 → Q 1 (xup H 68 (90 + c) f)) → (¬ hitR (H 67 1) (fun e => H 68 (90 + e)) k x c = 0 → Q 0 H) → xq X d 28 Q 25 [(0, (2, 67)), (1, (0, c)), (2, (0, f)), (3, (0, x))] [] H := by
    intro hc k
    induction k with
    | zero =>
      intro x _ hx h1 _
      have hx' : x = -1 := hx
      exact U_28_25 (by omega) c f x H ⟨fun _ => ⟨fun _ => ⟨by unfold xI; omega, ⟨by omega, by omega⟩, h1 rfl⟩, fun q => absurd hx' q⟩, fun q => absurd hx' q⟩
    | succ k ih =>
      intro x hxr hx h1 h0
      refine U_28_25 (by omega) c f x H ⟨fun q0 => ⟨fun _ => ⟨by unfold xI; omega, ⟨by omega, by omega⟩, h1 (by rw [q0]; exact hitR_none _ _)⟩, fun q => absurd q0 q⟩, fun q0 => ⟨fun q1 => ⟨fun q => absurd q q0, fun _ => h0 ?_⟩, fun q1 => ⟨by unfold xI; omega, ⟨by omega, by omega⟩, ?_⟩⟩⟩
      · unfold hitR
        rw [if_pos (by omega), if_pos q1]
        omega
      · have hx' : itf (stp (fun e => H 68 (90 + e))) k (stp (fun e => H 68 (90 + e)) x) = -1 := hx
        rw [show stp (fun e => H 68 (90 + e)) x = H 68 (90 + x) from if_neg q0] at hx'
        have hh : hitR (H 67 1) (fun e => H 68 (90 + e)) (k + 1) x c = hitR (H 67 1) (fun e => H 68 (90 + e)) k (H 68 (90 + x)) c := by
          rw [hitR, if_pos (by omega), if_neg q1]
        rw [hh] at h1 h0
        exact ih _ (po x (by omega) (by omega)) hx' h1 h0
  refine U_28 (by omega) c f H ⟨hcc, fun qc => ⟨fun qf => ?_, fun qf => ⟨hcc, fun qf2 => ?_, fun qf2 => h0 (fun q => q.2.elim qf (fun z => qf2 z.1))⟩⟩, fun qc => h0 (fun q => qc q.1)⟩
  · refine key qc 0 f (Or.inl qf) qf (fun _ => h1 ⟨qc, Or.inl qf⟩) (fun q => absurd rfl q)
  · have hz := ends_n po pe qf2.1 qf2.2
    have hm := hitR_mono (n := H 67 1) (e := c) (H 67 1).toNat 65 f hz (by omega)
    refine key qc (H 67 1).toNat f (Or.inr qf2) hz (fun q => h1 ⟨qc, Or.inr ⟨qf2, hm.trans q⟩⟩) (fun q => h0 (fun z => z.2.elim qf (fun y => q (hm.symm.trans y.2))))
