/-! THE PURE LAYER 1: leaves -/
theorem xQr {Q : Int → XH → Prop} {r r' : Int} {H : XH} (h : Q r H) (e : r' = r) : Q r' H := e ▸ h
def iabs (x : Int) : Int := if x < 0 then -x else x
theorem xQrh {Q : Int → XH → Prop} {r r' : Int} {H H' : XH} (h : Q r H) (e : r' = r) (e2 : H' = H) : Q r' H' := e ▸ e2 ▸ h

theorem U_19 {X : Int × (Int → Int)} {d : Nat} {Q : Int → XH → Prop} (hd : 0 ≤ d) (v l m : Int) (H : XH) (h : ((v < l) → Q 0 H) ∧ (¬ (v < l) → ((m < v) → Q 0 H) ∧ (¬ (m < v) → Q 1 H))) : xc X (d + 1) 19 [(0, v), (0, l), (0, m)] H Q := by
  refine ⟨rfl, ?_⟩
  show xq X d 19 Q 100000 [(0, (0, v)), (1, (0, l)), (2, (0, m))] [] H
  refine xq_run [] 300 ?_
  show ((v < l) → xfR 3 0 ∧ xKZ = xKZ ∧ Q 0 H) ∧ (¬ (v < l) → ((m < v) → xfR 3 0 ∧ xKZ = xKZ ∧ Q 0 H) ∧ (¬ (m < v) → xfR 3 1 ∧ xKZ = xKZ ∧ Q 1 H))
  refine ⟨fun k_ => ?_, fun k_ => ?_⟩
  · replace h := h.1 k_
    exact ⟨xfR3_0, rfl, h⟩
  · replace h := h.2 k_
    refine ⟨fun k_ => ?_, fun k_ => ?_⟩
    · replace h := h.1 k_
      exact ⟨xfR3_0, rfl, h⟩
    · replace h := h.2 k_
      exact ⟨xfR3_1, rfl, h⟩

theorem s_19 {X : Int × (Int → Int)} {d : Nat} {Q : Int → XH → Prop} (hd : 1 ≤ d) (v l m : Int) (H : XH) (hQ : Q (xb (l ≤ v ∧ v ≤ m)) H) : xc X d 19 [(0, v), (0, l), (0, m)] H Q := by
  cases d with
  | zero => omega
  | succ d =>
  refine U_19 (by omega) v l m H ?_
  refine ⟨fun c1 => ?_, fun c1 => ?_⟩
  · skip
    exact xQr hQ (by unfold xb; split <;> omega)
  · skip
    refine ⟨fun c2 => ?_, fun c2 => ?_⟩
    · skip
      exact xQr hQ (by unfold xb; split <;> omega)
    · skip
      exact xQr hQ (by unfold xb; split <;> omega)

theorem U_23 {X : Int × (Int → Int)} {d : Nat} {Q : Int → XH → Prop} (hd : 0 ≤ d) (v l m : Int) (H : XH) (h : ((v < l) → Q 0 H) ∧ (¬ (v < l) → ((m < v) → Q 0 H) ∧ (¬ (m < v) → Q 1 H))) : xc X (d + 1) 23 [(0, v), (0, l), (0, m)] H Q := by
  refine ⟨rfl, ?_⟩
  show xq X d 23 Q 100000 [(0, (0, v)), (1, (0, l)), (2, (0, m))] [] H
  refine xq_run [] 300 ?_
  show ((v < l) → xfR 3 0 ∧ xKZ = xKZ ∧ Q 0 H) ∧ (¬ (v < l) → ((m < v) → xfR 3 0 ∧ xKZ = xKZ ∧ Q 0 H) ∧ (¬ (m < v) → xfR 3 1 ∧ xKZ = xKZ ∧ Q 1 H))
  refine ⟨fun k_ => ?_, fun k_ => ?_⟩
  · replace h := h.1 k_
    exact ⟨xfR3_0, rfl, h⟩
  · replace h := h.2 k_
    refine ⟨fun k_ => ?_, fun k_ => ?_⟩
    · replace h := h.1 k_
      exact ⟨xfR3_0, rfl, h⟩
    · replace h := h.2 k_
      exact ⟨xfR3_1, rfl, h⟩

theorem s_23 {X : Int × (Int → Int)} {d : Nat} {Q : Int → XH → Prop} (hd : 1 ≤ d) (v l m : Int) (H : XH) (hQ : Q (xb (l ≤ v ∧ v ≤ m)) H) : xc X d 23 [(0, v), (0, l), (0, m)] H Q := by
  cases d with
  | zero => omega
  | succ d =>
  refine U_23 (by omega) v l m H ?_
  refine ⟨fun c1 => ?_, fun c1 => ?_⟩
  · skip
    exact xQr hQ (by unfold xb; split <;> omega)
  · skip
    refine ⟨fun c2 => ?_, fun c2 => ?_⟩
    · skip
      exact xQr hQ (by unfold xb; split <;> omega)
    · skip
      exact xQr hQ (by unfold xb; split <;> omega)

theorem U_31 {X : Int × (Int → Int)} {d : Nat} {Q : Int → XH → Prop} (hd : 0 ≤ d) (v : Int) (H : XH) (h : ((v < 0) → Q 0 H) ∧ (¬ (v < 0) → ((5 ≤ v) → Q 0 H) ∧ (¬ (5 ≤ v) → Q 1 H))) : xc X (d + 1) 31 [(0, v)] H Q := by
  refine ⟨rfl, ?_⟩
  show xq X d 31 Q 100000 [(0, (0, v))] [] H
  refine xq_run [] 300 ?_
  show ((v < 0) → xfR 3 0 ∧ xKZ = xKZ ∧ Q 0 H) ∧ (¬ (v < 0) → ((5 ≤ v) → xfR 3 0 ∧ xKZ = xKZ ∧ Q 0 H) ∧ (¬ (5 ≤ v) → xfR 3 1 ∧ xKZ = xKZ ∧ Q 1 H))
  refine ⟨fun k_ => ?_, fun k_ => ?_⟩
  · replace h := h.1 k_
    exact ⟨xfR3_0, rfl, h⟩
  · replace h := h.2 k_
    refine ⟨fun k_ => ?_, fun k_ => ?_⟩
    · replace h := h.1 k_
      exact ⟨xfR3_0, rfl, h⟩
    · replace h := h.2 k_
      exact ⟨xfR3_1, rfl, h⟩

theorem s_31 {X : Int × (Int → Int)} {d : Nat} {Q : Int → XH → Prop} (hd : 1 ≤ d) (v : Int) (H : XH) (hQ : Q (xb (0 ≤ v ∧ v ≤ 4)) H) : xc X d 31 [(0, v)] H Q := by
  cases d with
  | zero => omega
  | succ d =>
  refine U_31 (by omega) v H ?_
  refine ⟨fun c1 => ?_, fun c1 => ?_⟩
  · skip
    exact xQr hQ (by unfold xb; split <;> omega)
  · skip
    refine ⟨fun c2 => ?_, fun c2 => ?_⟩
    · skip
      exact xQr hQ (by unfold xb; split <;> omega)
    · skip
      exact xQr hQ (by unfold xb; split <;> omega)

theorem U_198 {X : Int × (Int → Int)} {d : Nat} {Q : Int → XH → Prop} (hd : 0 ≤ d) (v : Int) (H : XH) (h : ((v < 0) → Q 0 H) ∧ (¬ (v < 0) → ((4 ≤ v) → Q 0 H) ∧ (¬ (4 ≤ v) → Q 1 H))) : xc X (d + 1) 198 [(0, v)] H Q := by
  refine ⟨rfl, ?_⟩
  show xq X d 198 Q 100000 [(0, (0, v))] [] H
  refine xq_run [] 300 ?_
  show ((v < 0) → xfR 3 0 ∧ xKZ = xKZ ∧ Q 0 H) ∧ (¬ (v < 0) → ((4 ≤ v) → xfR 3 0 ∧ xKZ = xKZ ∧ Q 0 H) ∧ (¬ (4 ≤ v) → xfR 3 1 ∧ xKZ = xKZ ∧ Q 1 H))
  refine ⟨fun k_ => ?_, fun k_ => ?_⟩
  · replace h := h.1 k_
    exact ⟨xfR3_0, rfl, h⟩
  · replace h := h.2 k_
    refine ⟨fun k_ => ?_, fun k_ => ?_⟩
    · replace h := h.1 k_
      exact ⟨xfR3_0, rfl, h⟩
    · replace h := h.2 k_
      exact ⟨xfR3_1, rfl, h⟩

theorem s_198 {X : Int × (Int → Int)} {d : Nat} {Q : Int → XH → Prop} (hd : 1 ≤ d) (v : Int) (H : XH) (hQ : Q (xb (0 ≤ v ∧ v ≤ 3)) H) : xc X d 198 [(0, v)] H Q := by
  cases d with
  | zero => omega
  | succ d =>
  refine U_198 (by omega) v H ?_
  refine ⟨fun c1 => ?_, fun c1 => ?_⟩
  · skip
    exact xQr hQ (by unfold xb; split <;> omega)
  · skip
    refine ⟨fun c2 => ?_, fun c2 => ?_⟩
    · skip
      exact xQr hQ (by unfold xb; split <;> omega)
    · skip
      exact xQr hQ (by unfold xb; split <;> omega)

theorem U_39 {X : Int × (Int → Int)} {d : Nat} {Q : Int → XH → Prop} (hd : 1 ≤ d) (v : Int) (H : XH) (h : (Q (xb (0 ≤ v ∧ v ≤ 4)) H)) : xc X (d + 1) 39 [(0, v)] H Q := by
  refine ⟨rfl, ?_⟩
  show xq X d 39 Q 100000 [(0, (0, v))] [] H
  refine xq_run [6] 300 ?_
  show xWM (xE X) xMC d 23 [(0, v), (0, 0), (0, 4)] xKZ H _
  refine xc_in (s_23 (by omega) v 0 4 H  ?_)
  replace h := h
  show xq X d 39 Q 6 [(0, (0, v))] [(0, xb (0 ≤ v ∧ v ≤ 4))] H
  refine xq_run [6] 300 ?_
  show xfR 3 (xb (0 ≤ v ∧ v ≤ 4)) ∧ xKZ = xKZ ∧ Q (xb (0 ≤ v ∧ v ≤ 4)) H
  exact ⟨xfR3_b, rfl, h⟩

theorem s_39 {X : Int × (Int → Int)} {d : Nat} {Q : Int → XH → Prop} (hd : 2 ≤ d) (v : Int) (H : XH) (hQ : Q (xb (0 ≤ v ∧ v ≤ 4)) H) : xc X d 39 [(0, v)] H Q := by
  cases d with
  | zero => omega
  | succ d =>
  refine U_39 (by omega) v H ?_
  exact xQr hQ (by unfold xb; split <;> omega)

theorem U_18 {X : Int × (Int → Int)} {d : Nat} {Q : Int → XH → Prop} (hd : 0 ≤ d) (v : Int) (H : XH) (h : ((v < 0) → Q 0 H) ∧ (¬ (v < 0) → ((H 2 2 ≤ v) → Q 0 H) ∧ (¬ (H 2 2 ≤ v) → Q 1 H))) : xc X (d + 1) 18 [(2, 2), (0, v)] H Q := by
  refine ⟨rfl, ?_⟩
  show xq X d 18 Q 100000 [(0, (2, 2)), (1, (0, v))] [] H
  refine xq_run [] 300 ?_
  show ((v < 0) → xfR 3 0 ∧ xKZ = xKZ ∧ Q 0 H) ∧ (¬ (v < 0) → ((H 2 2 ≤ v) → xfR 3 0 ∧ xKZ = xKZ ∧ Q 0 H) ∧ (¬ (H 2 2 ≤ v) → xfR 3 1 ∧ xKZ = xKZ ∧ Q 1 H))
  refine ⟨fun k_ => ?_, fun k_ => ?_⟩
  · replace h := h.1 k_
    exact ⟨xfR3_0, rfl, h⟩
  · replace h := h.2 k_
    refine ⟨fun k_ => ?_, fun k_ => ?_⟩
    · replace h := h.1 k_
      exact ⟨xfR3_0, rfl, h⟩
    · replace h := h.2 k_
      exact ⟨xfR3_1, rfl, h⟩

theorem s_18 {X : Int × (Int → Int)} {d : Nat} {Q : Int → XH → Prop} (hd : 1 ≤ d) (v : Int) (H : XH) (hQ : Q (xb (0 ≤ v ∧ v < H 2 2)) H) : xc X d 18 [(2, 2), (0, v)] H Q := by
  cases d with
  | zero => omega
  | succ d =>
  refine U_18 (by omega) v H ?_
  refine ⟨fun c1 => ?_, fun c1 => ?_⟩
  · skip
    exact xQr hQ (by unfold xb; split <;> omega)
  · skip
    refine ⟨fun c2 => ?_, fun c2 => ?_⟩
    · skip
      exact xQr hQ (by unfold xb; split <;> omega)
    · skip
      exact xQr hQ (by unfold xb; split <;> omega)

theorem U_49_o7 {X : Int × (Int → Int)} {d : Nat} {Q : Int → XH → Prop} (hd : 0 ≤ d) (v : Int) (H : XH) (h : ((v < 0) → Q 0 H) ∧ (¬ (v < 0) → ((H 7 1 ≤ v) → Q 0 H) ∧ (¬ (H 7 1 ≤ v) → Q 1 H))) : xc X (d + 1) 49 [(2, 7), (0, v)] H Q := by
  refine ⟨rfl, ?_⟩
  show xq X d 49 Q 100000 [(0, (2, 7)), (1, (0, v))] [] H
  refine xq_run [] 300 ?_
  show ((v < 0) → xfR 3 0 ∧ xKZ = xKZ ∧ Q 0 H) ∧ (¬ (v < 0) → ((H 7 1 ≤ v) → xfR 3 0 ∧ xKZ = xKZ ∧ Q 0 H) ∧ (¬ (H 7 1 ≤ v) → xfR 3 1 ∧ xKZ = xKZ ∧ Q 1 H))
  refine ⟨fun k_ => ?_, fun k_ => ?_⟩
  · replace h := h.1 k_
    exact ⟨xfR3_0, rfl, h⟩
  · replace h := h.2 k_
    refine ⟨fun k_ => ?_, fun k_ => ?_⟩
    · replace h := h.1 k_
      exact ⟨xfR3_0, rfl, h⟩
    · replace h := h.2 k_
      exact ⟨xfR3_1, rfl, h⟩

theorem s_49_o7 {X : Int × (Int → Int)} {d : Nat} {Q : Int → XH → Prop} (hd : 1 ≤ d) (v : Int) (H : XH) (hQ : Q (xb (0 ≤ v ∧ v < H 7 1)) H) : xc X d 49 [(2, 7), (0, v)] H Q := by
  cases d with
  | zero => omega
  | succ d =>
  refine U_49_o7 (by omega) v H ?_
  refine ⟨fun c1 => ?_, fun c1 => ?_⟩
  · skip
    exact xQr hQ (by unfold xb; split <;> omega)
  · skip
    refine ⟨fun c2 => ?_, fun c2 => ?_⟩
    · skip
      exact xQr hQ (by unfold xb; split <;> omega)
    · skip
      exact xQr hQ (by unfold xb; split <;> omega)

theorem U_49_o59 {X : Int × (Int → Int)} {d : Nat} {Q : Int → XH → Prop} (hd : 0 ≤ d) (v : Int) (H : XH) (h : ((v < 0) → Q 0 H) ∧ (¬ (v < 0) → ((H 59 1 ≤ v) → Q 0 H) ∧ (¬ (H 59 1 ≤ v) → Q 1 H))) : xc X (d + 1) 49 [(2, 59), (0, v)] H Q := by
  refine ⟨rfl, ?_⟩
  show xq X d 49 Q 100000 [(0, (2, 59)), (1, (0, v))] [] H
  refine xq_run [] 300 ?_
  show ((v < 0) → xfR 3 0 ∧ xKZ = xKZ ∧ Q 0 H) ∧ (¬ (v < 0) → ((H 59 1 ≤ v) → xfR 3 0 ∧ xKZ = xKZ ∧ Q 0 H) ∧ (¬ (H 59 1 ≤ v) → xfR 3 1 ∧ xKZ = xKZ ∧ Q 1 H))
  refine ⟨fun k_ => ?_, fun k_ => ?_⟩
  · replace h := h.1 k_
    exact ⟨xfR3_0, rfl, h⟩
  · replace h := h.2 k_
    refine ⟨fun k_ => ?_, fun k_ => ?_⟩
    · replace h := h.1 k_
      exact ⟨xfR3_0, rfl, h⟩
    · replace h := h.2 k_
      exact ⟨xfR3_1, rfl, h⟩

theorem s_49_o59 {X : Int × (Int → Int)} {d : Nat} {Q : Int → XH → Prop} (hd : 1 ≤ d) (v : Int) (H : XH) (hQ : Q (xb (0 ≤ v ∧ v < H 59 1)) H) : xc X d 49 [(2, 59), (0, v)] H Q := by
  cases d with
  | zero => omega
  | succ d =>
  refine U_49_o59 (by omega) v H ?_
  refine ⟨fun c1 => ?_, fun c1 => ?_⟩
  · skip
    exact xQr hQ (by unfold xb; split <;> omega)
  · skip
    refine ⟨fun c2 => ?_, fun c2 => ?_⟩
    · skip
      exact xQr hQ (by unfold xb; split <;> omega)
    · skip
      exact xQr hQ (by unfold xb; split <;> omega)

theorem U_1 {X : Int × (Int → Int)} {d : Nat} {Q : Int → XH → Prop} (hd : 0 ≤ d) (v l : Int) (H : XH) (h : ((l < v) → Q l H) ∧ (¬ (l < v) → Q v H)) : xc X (d + 1) 1 [(0, v), (0, l)] H Q := by
  refine ⟨rfl, ?_⟩
  show xq X d 1 Q 100000 [(0, (0, v)), (1, (0, l))] [] H
  refine xq_run [] 300 ?_
  show ((l < v) → xfR 0 l ∧ xKZ = xKZ ∧ Q l H) ∧ (¬ (l < v) → xfR 0 v ∧ xKZ = xKZ ∧ Q v H)
  refine ⟨fun k_ => ?_, fun k_ => ?_⟩
  · replace h := h.1 k_
    exact ⟨trivial, rfl, h⟩
  · replace h := h.2 k_
    exact ⟨trivial, rfl, h⟩

theorem s_1 {X : Int × (Int → Int)} {d : Nat} {Q : Int → XH → Prop} (hd : 1 ≤ d) (v l : Int) (H : XH) (hQ : Q (min v l) H) : xc X d 1 [(0, v), (0, l)] H Q := by
  cases d with
  | zero => omega
  | succ d =>
  refine U_1 (by omega) v l H ?_
  refine ⟨fun c1 => ?_, fun c1 => ?_⟩
  · skip
    exact xQr hQ (by omega)
  · skip
    exact xQr hQ (by omega)

theorem U_2 {X : Int × (Int → Int)} {d : Nat} {Q : Int → XH → Prop} (hd : 0 ≤ d) (v l : Int) (H : XH) (h : ((v < l) → Q l H) ∧ (¬ (v < l) → Q v H)) : xc X (d + 1) 2 [(0, v), (0, l)] H Q := by
  refine ⟨rfl, ?_⟩
  show xq X d 2 Q 100000 [(0, (0, v)), (1, (0, l))] [] H
  refine xq_run [] 300 ?_
  show ((v < l) → xfR 0 l ∧ xKZ = xKZ ∧ Q l H) ∧ (¬ (v < l) → xfR 0 v ∧ xKZ = xKZ ∧ Q v H)
  refine ⟨fun k_ => ?_, fun k_ => ?_⟩
  · replace h := h.1 k_
    exact ⟨trivial, rfl, h⟩
  · replace h := h.2 k_
    exact ⟨trivial, rfl, h⟩

theorem s_2 {X : Int × (Int → Int)} {d : Nat} {Q : Int → XH → Prop} (hd : 1 ≤ d) (v l : Int) (H : XH) (hQ : Q (max v l) H) : xc X d 2 [(0, v), (0, l)] H Q := by
  cases d with
  | zero => omega
  | succ d =>
  refine U_2 (by omega) v l H ?_
  refine ⟨fun c1 => ?_, fun c1 => ?_⟩
  · skip
    exact xQr hQ (by omega)
  · skip
    exact xQr hQ (by omega)

theorem U_33 {X : Int × (Int → Int)} {d : Nat} {Q : Int → XH → Prop} (hd : 0 ≤ d) (v : Int) (H : XH) (h : ((0 ≤ v) → Q v H) ∧ (¬ (0 ≤ v) → (xI (-v)) ∧ Q (-v) H)) : xc X (d + 1) 33 [(0, v)] H Q := by
  refine ⟨rfl, ?_⟩
  show xq X d 33 Q 100000 [(0, (0, v))] [] H
  refine xq_run [] 300 ?_
  show ((0 ≤ v) → xfR 0 v ∧ xKZ = xKZ ∧ Q v H) ∧ (¬ (0 ≤ v) → (xI (-v)) ∧ xfR 0 (-v) ∧ xKZ = xKZ ∧ Q (-v) H)
  refine ⟨fun k_ => ?_, fun k_ => ?_⟩
  · replace h := h.1 k_
    exact ⟨trivial, rfl, h⟩
  · replace h := h.2 k_
    refine ⟨h.1, ?_⟩
    replace h := h.2
    exact ⟨trivial, rfl, h⟩

theorem s_33 {X : Int × (Int → Int)} {d : Nat} {Q : Int → XH → Prop} (hd : 1 ≤ d) (v : Int) (H : XH) (p0 : -2147483648 < v ∧ v ≤ 2147483647) (hQ : Q (iabs v) H) : xc X d 33 [(0, v)] H Q := by
  cases d with
  | zero => omega
  | succ d =>
  refine U_33 (by omega) v H ?_
  refine ⟨fun c1 => ?_, fun c1 => ?_⟩
  · skip
    exact xQr hQ (by unfold iabs; split <;> omega)
  · skip
    refine ⟨?_, ?_⟩
    · unfold xI; omega
    exact xQr hQ (by unfold iabs; split <;> omega)
