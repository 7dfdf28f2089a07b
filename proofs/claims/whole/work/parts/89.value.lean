/-! THE PURE LAYER 59: what a law says: the class -/
def skR (f : Int → Int) : List Int → Prop
  | [] => True
  | v :: s => f (s.length : Int) = v ∧ skR f s
def hSk (s : List Int) (c : Int) (f : Int → Int) : Prop := c = (s.length : Int) ∧ skR f s
theorem skR_up {f f' : Int → Int} : ∀ s : List Int, (∀ k : Int, 0 ≤ k → k < s.length → f' k = f k) → skR f s → skR f' s
  | [], _, _ => trivial
  | v :: s, h1, h => by
    have l : ((v :: s).length : Int) = (s.length : Int) + 1 := rfl
    exact ⟨by rw [h1 _ (by omega) (by omega)]; exact h.1, skR_up s (fun k a b => h1 k a (by omega)) h.2⟩
def jF (H h : XH) : Prop := (∀ o, ¬ o = 58 → ¬ o = 63 → h o = H o) ∧ ∀ k, ¬ k = 5 → h 58 k = H 58 k
theorem jF_refl (H : XH) : jF H H := ⟨fun _ _ _ => rfl, fun _ _ => rfl⟩
theorem jF_trans {H h h1 : XH} (a : jF H h) (b : jF h h1) : jF H h1 := ⟨fun o p q => (b.1 o p q).trans (a.1 o p q), fun k p => (b.2 k p).trans (a.2 k p)⟩

theorem U_206 {X : Int × (Int → Int)} {d : Nat} {Q : Int → XH → Prop} (hd : 0 ≤ d) (v : Int) (H : XH) (h : ((H 58 5 < 64) → ((0 : Int) ≤ H 58 5 ∧ (H 58 5 : Int) < 64) ∧ (xI ((H 58 5) + 1)) ∧ Q 0 (xup (xup H 63 (H 58 5) v) 58 5 ((H 58 5) + 1))) ∧ (¬ (H 58 5 < 64) → Q 0 H)) : xc X (d + 1) 206 [(2, 58), (0, v)] H Q := by
  refine ⟨rfl, ?_⟩
  show xq X d 206 Q 100000 [(0, (2, 58)), (1, (0, v))] [] H
  refine xq_run [] 300 ?_
  show ((H 58 5 < 64) → ((0 : Int) ≤ H 58 5 ∧ (H 58 5 : Int) < 64) ∧ (xI ((H 58 5) + 1)) ∧ xfR 2 0 ∧ xKZ = xKZ ∧ Q 0 (xup (xup H 63 (H 58 5) v) 58 5 ((H 58 5) + 1))) ∧ (¬ (H 58 5 < 64) → xfR 2 0 ∧ xKZ = xKZ ∧ Q 0 H)
  refine ⟨fun k_ => ?_, fun k_ => ?_⟩
  · replace h := h.1 k_
    refine ⟨h.1, ?_⟩
    replace h := h.2
    refine ⟨h.1, ?_⟩
    replace h := h.2
    exact ⟨trivial, rfl, h⟩
  · replace h := h.2 k_
    exact ⟨trivial, rfl, h⟩

theorem U_207 {X : Int × (Int → Int)} {d : Nat} {Q : Int → XH → Prop} (hd : 0 ≤ d) (H : XH) (h : ((1 ≤ H 58 5) → (xI ((H 58 5) - 1)) ∧ ((0 : Int) ≤ (H 58 5) - 1 ∧ ((H 58 5) - 1 : Int) < 64) ∧ Q (H 63 ((H 58 5) - 1)) (xup H 58 5 ((H 58 5) - 1))) ∧ (¬ (1 ≤ H 58 5) → Q 0 H)) : xc X (d + 1) 207 [(2, 58)] H Q := by
  refine ⟨rfl, ?_⟩
  show xq X d 207 Q 100000 [(0, (2, 58))] [] H
  refine xq_run [] 300 ?_
  show ((1 ≤ H 58 5) → (xI ((H 58 5) - 1)) ∧ ((0 : Int) ≤ (H 58 5) - 1 ∧ ((H 58 5) - 1 : Int) < 64) ∧ xfR 0 (H 63 ((H 58 5) - 1)) ∧ xKZ = xKZ ∧ Q (H 63 ((H 58 5) - 1)) (xup H 58 5 ((H 58 5) - 1))) ∧ (¬ (1 ≤ H 58 5) → xfR 0 0 ∧ xKZ = xKZ ∧ Q 0 H)
  refine ⟨fun k_ => ?_, fun k_ => ?_⟩
  · replace h := h.1 k_
    refine ⟨h.1, ?_⟩
    replace h := h.2
    refine ⟨h.1, ?_⟩
    replace h := h.2
    exact ⟨trivial, rfl, h⟩
  · replace h := h.2 k_
    exact ⟨trivial, rfl, h⟩

theorem s_206m {X : Int × (Int → Int)} {d : Nat} {Q : Int → XH → Prop} (hd : 1 ≤ d) (v : Int) {s : List Int} {h : XH} (K : hSk s (h 58 5) (h 63)) (l : s.length < 64) (hQ : ∀ h1, jF h h1 → hSk (v :: s) (h1 58 5) (h1 63) → Q 0 h1) : xc X d 206 [(2, 58), (0, v)] h Q := by
  cases d with
  | zero => omega
  | succ d =>
  have e := K.1
  have z := hQ (xup (xup h 63 (s.length : Int) v) 58 5 ((s.length : Int) + 1)) ⟨fun o a b => by rw [xup_ne a, xup_ne b], fun k a => by rw [xup_k a, xup_ne (by decide)]⟩ ⟨rfl, xup_self _ _ _ _, skR_up (f := h 63) s (fun k a b => (xup_k (by omega) : xup h 63 (s.length : Int) v 63 k = h 63 k)) K.2⟩
  refine U_206 (by omega) v h ?_
  rw [e]
  refine ⟨fun c1 => ?_, fun c1 => ?_⟩
  · skip
    refine ⟨?_, ?_⟩
    · first | omega | (unfold xI; omega) | (unfold xJ; omega) | (exfalso; omega)
    refine ⟨?_, ?_⟩
    · first | omega | (unfold xI; omega) | (unfold xJ; omega) | (exfalso; omega)
    first | exact z | (exfalso; omega)
  · skip
    first | exact z | (exfalso; omega)

theorem s_207m {X : Int × (Int → Int)} {d : Nat} {Q : Int → XH → Prop} (hd : 1 ≤ d) {v : Int} {s : List Int} {h : XH} (K : hSk (v :: s) (h 58 5) (h 63)) (l : s.length < 64) (hQ : ∀ h1, jF h h1 → hSk s (h1 58 5) (h1 63) → Q v h1) : xc X d 207 [(2, 58)] h Q := by
  cases d with
  | zero => omega
  | succ d =>
  have e := K.1
  have e1 : ((v :: s).length : Int) - 1 = (s.length : Int) := by
    simp only [List.length_cons]
    omega
  have e2 : ((v :: s).length : Int) = (s.length : Int) + 1 := rfl
  have z := hQ (xup h 58 5 (s.length : Int)) ⟨fun o a b => by rw [xup_ne a], fun k a => by rw [xup_k a]⟩ ⟨rfl, K.2.2⟩
  refine U_207 (by omega) h ?_
  rw [e, e1, K.2.1]
  refine ⟨fun c1 => ?_, fun c1 => ?_⟩
  · skip
    refine ⟨?_, ?_⟩
    · first | omega | (unfold xI; omega) | (unfold xJ; omega) | (exfalso; omega)
    refine ⟨?_, ?_⟩
    · first | omega | (unfold xI; omega) | (unfold xJ; omega) | (exfalso; omega)
    first | exact z | (exfalso; omega)
  · skip
    first | exact z | (exfalso; omega)

theorem U_210 {X : Int × (Int → Int)} {d : Nat} {Q : Int → XH → Prop} (hd : 3 ≤ d) (k : Int) (H : XH) (h : ((((7 ≤ k ∧ k ≤ 17)) → (xI (k - 7)) ∧ ((0 : Int) ≤ k - 7 ∧ (k - 7 : Int) < 11) ∧ (xc X d 206 [(2, 58), (0, H 62 (k - 7))] H (fun (J1651 : Int) (h1650 : XH) => Q 0 h1650))) ∧ (¬ ((7 ≤ k ∧ k ≤ 17)) → ((¬ k = 43) → ((¬ k = 6) → (xc X d 207 [(2, 58)] H (fun (J1637 : Int) (h1636 : XH) => (xc X d 207 [(2, 58)] h1636 (fun (J1639 : Int) (h1638 : XH) => (tw2P k J1639 J1637) ∧ ((xc X d 206 [(2, 58), (0, rkV k J1639 J1637)] h1638 (fun (J1641 : Int) (h1640 : XH) => Q 0 h1640)))))))) ∧ (¬ (¬ k = 6) → (xc X d 207 [(2, 58)] H (fun (J1643 : Int) (h1642 : XH) => (xI (1 - J1643)) ∧ (xc X d 206 [(2, 58), (0, 1 - J1643)] h1642 (fun (J1645 : Int) (h1644 : XH) => Q 0 h1644)))))) ∧ (¬ (¬ k = 43) → (xc X d 207 [(2, 58)] H (fun (J1647 : Int) (h1646 : XH) => (xI (-J1647)) ∧ (xc X d 206 [(2, 58), (0, -J1647)] h1646 (fun (J1649 : Int) (h1648 : XH) => Q 0 h1648)))))))) : xc X (d + 1) 210 [(2, 58), (0, k)] H Q := by
  refine ⟨rfl, ?_⟩
  show xq X d 210 Q 100000 [(0, (2, 58)), (1, (0, k))] [] H
  refine xq_run [8, 24, 38, 42, 57, 61, 68, 73, 81, 84] 300 ?_
  show xWM (xE X) xMC d 19 [(0, k), (0, 7), (0, 17)] xKZ H _
  refine xc_in (s_19 (by omega) k 7 17 H  ?_)
  replace h := h
  show xq X d 210 Q 8 [(0, (2, 58)), (1, (0, k))] [(0, xb (7 ≤ k ∧ k ≤ 17))] H
  refine xq_run [8, 24, 38, 42, 57, 61, 68, 73, 81, 84] 300 ?_
  show ((xb (7 ≤ k ∧ k ≤ 17) = 0) → ((¬ k = 43) → ((¬ k = 6) → xWM (xE X) xMC d 207 [(2, 58)] xKZ H _) ∧ (¬ (¬ k = 6) → xWM (xE X) xMC d 207 [(2, 58)] xKZ H _)) ∧ (¬ (¬ k = 43) → xWM (xE X) xMC d 207 [(2, 58)] xKZ H _)) ∧ (¬ (xb (7 ≤ k ∧ k ≤ 17) = 0) → (xI (k - 7)) ∧ ((0 : Int) ≤ k - 7 ∧ (k - 7 : Int) < 11) ∧ xWM (xE X) xMC d 206 [(2, 58), (0, H 62 (k - 7))] xKZ H _)
  refine ⟨fun k_ => ?_, fun k_ => ?_⟩
  · replace h := h.2 (xbe_0.mp k_)
    refine ⟨fun k_ => ?_, fun k_ => ?_⟩
    · replace h := h.1 k_
      refine ⟨fun k_ => ?_, fun k_ => ?_⟩
      · replace h := h.1 k_
        refine xc_in (xc_mono (fun J1637 h1636 q_ => ?_) h)
        replace h := q_
        show xq X d 210 Q 68 [(0, (2, 58)), (1, (0, k))] [(0, J1637)] h1636
        refine xq_run [8, 24, 38, 42, 57, 61, 68, 73, 81, 84] 300 ?_
        show xWM (xE X) xMC d 207 [(2, 58)] xKZ h1636 _
        refine xc_in (xc_mono (fun J1639 h1638 q_ => ?_) h)
        replace h := q_
        show xq X d 210 Q 73 [(2, (0, J1637)), (0, (2, 58)), (1, (0, k))] [(0, J1639)] h1638
        refine xq_run [8, 24, 38, 42, 57, 61, 68, 73, 81, 84] 300 ?_
        show xWM (xE X) xMC d 209 [(0, k), (0, J1639), (0, J1637)] xKZ h1638 _
        refine xc_in (s_209 (by omega) k J1639 J1637 h1638 (h.1) ?_)
        replace h := h.2
        show xq X d 210 Q 81 [(3, (0, J1639)), (2, (0, J1637)), (0, (2, 58)), (1, (0, k))] [(0, rkV k J1639 J1637), (2, 58)] h1638
        refine xq_run [8, 24, 38, 42, 57, 61, 68, 73, 81, 84] 300 ?_
        show xWM (xE X) xMC d 206 [(2, 58), (0, rkV k J1639 J1637)] xKZ h1638 _
        refine xc_in (xc_mono (fun J1641 h1640 q_ => ?_) h)
        replace h := q_
        show xq X d 210 Q 84 [(3, (0, J1639)), (2, (0, J1637)), (0, (2, 58)), (1, (0, k))] [] h1640
        refine xq_run [8, 24, 38, 42, 57, 61, 68, 73, 81, 84] 300 ?_
        show xfR 2 0 ∧ xKZ = xKZ ∧ Q 0 h1640
        exact ⟨trivial, rfl, h⟩
      · replace h := h.2 k_
        refine xc_in (xc_mono (fun J1643 h1642 q_ => ?_) h)
        replace h := q_
        show xq X d 210 Q 57 [(0, (2, 58)), (1, (0, k))] [(0, J1643), (0, 1), (2, 58)] h1642
        refine xq_run [8, 24, 38, 42, 57, 61, 68, 73, 81, 84] 300 ?_
        show (xI (1 - J1643)) ∧ xWM (xE X) xMC d 206 [(2, 58), (0, 1 - J1643)] xKZ h1642 _
        refine ⟨h.1, ?_⟩
        replace h := h.2
        refine xc_in (xc_mono (fun J1645 h1644 q_ => ?_) h)
        replace h := q_
        show xq X d 210 Q 61 [(0, (2, 58)), (1, (0, k))] [] h1644
        refine xq_run [8, 24, 38, 42, 57, 61, 68, 73, 81, 84] 300 ?_
        show xq X d 210 Q 84 [(0, (2, 58)), (1, (0, k))] [] h1644
        show xq X d 210 Q 84 [(0, (2, 58)), (1, (0, k))] [] h1644
        refine xq_run [8, 24, 38, 42, 57, 61, 68, 73, 81, 84] 300 ?_
        show xfR 2 0 ∧ xKZ = xKZ ∧ Q 0 h1644
        exact ⟨trivial, rfl, h⟩
    · replace h := h.2 k_
      refine xc_in (xc_mono (fun J1647 h1646 q_ => ?_) h)
      replace h := q_
      show xq X d 210 Q 38 [(0, (2, 58)), (1, (0, k))] [(0, J1647), (2, 58)] h1646
      refine xq_run [8, 24, 38, 42, 57, 61, 68, 73, 81, 84] 300 ?_
      show (xI (-J1647)) ∧ xWM (xE X) xMC d 206 [(2, 58), (0, -J1647)] xKZ h1646 _
      refine ⟨h.1, ?_⟩
      replace h := h.2
      refine xc_in (xc_mono (fun J1649 h1648 q_ => ?_) h)
      replace h := q_
      show xq X d 210 Q 42 [(0, (2, 58)), (1, (0, k))] [] h1648
      refine xq_run [8, 24, 38, 42, 57, 61, 68, 73, 81, 84] 300 ?_
      show xq X d 210 Q 84 [(0, (2, 58)), (1, (0, k))] [] h1648
      show xq X d 210 Q 84 [(0, (2, 58)), (1, (0, k))] [] h1648
      refine xq_run [8, 24, 38, 42, 57, 61, 68, 73, 81, 84] 300 ?_
      show xfR 2 0 ∧ xKZ = xKZ ∧ Q 0 h1648
      exact ⟨trivial, rfl, h⟩
  · replace h := h.1 (xbe_1.mp k_)
    refine ⟨h.1, ?_⟩
    replace h := h.2
    refine ⟨h.1, ?_⟩
    replace h := h.2
    refine xc_in (xc_mono (fun J1651 h1650 q_ => ?_) h)
    replace h := q_
    show xq X d 210 Q 24 [(0, (2, 58)), (1, (0, k))] [] h1650
    refine xq_run [8, 24, 38, 42, 57, 61, 68, 73, 81, 84] 300 ?_
    show xq X d 210 Q 84 [(0, (2, 58)), (1, (0, k))] [] h1650
    show xq X d 210 Q 84 [(0, (2, 58)), (1, (0, k))] [] h1650
    refine xq_run [8, 24, 38, 42, 57, 61, 68, 73, 81, 84] 300 ?_
    show xfR 2 0 ∧ xKZ = xKZ ∧ Q 0 h1650
    exact ⟨trivial, rfl, h⟩

theorem s_210m {X : Int × (Int → Int)} {d : Nat} {Q : Int → XH → Prop} (hd : 6 ≤ d) (k : Int) {b b' : List Bool} {s : List Int} {H : XH} (K_H : hSk s (H 58 5) (H 63)) (hk : 4 ≤ k) (hw : ∀ i, 0 ≤ i → i ≤ 10 → -1000000 ≤ H 62 i ∧ H 62 i ≤ 1000000) (tc : tcS (10000 + k) b = some b') (ty : tyS b s) (ls : s.length ≤ 60) (hQ : ∀ h1, jF H h1 → hSk (evS (H 62) (10000 + k) s) (h1 58 5) (h1 63) → Q 0 h1) : xc X d 210 [(2, 58), (0, k)] H Q := by
  cases d with
  | zero => omega
  | succ d =>
  have hw62 : H 62 = H 62 := rfl
  rcases tcS_cases tc ty with ⟨q, l60, -⟩ | ⟨q, v, r, e, hv, -⟩ | ⟨q, v, r, e, hv, -⟩ | ⟨l, v, r, e, z⟩
  · have k17 : 7 ≤ k ∧ k ≤ 17 := by omega
    have evS_here : evS (H 62) (10000 + k) s = H 62 (k - 7) :: s := by
      unfold evS
      rw [if_neg (by omega), if_pos (by omega), show 10000 + k - 10007 = k - 7 by omega]
    refine U_210 (by omega) k H ?_
    refine ⟨fun cz1 => ?_, fun cz1 => ?_⟩
    · skip
      refine ⟨?_, ?_⟩
      · first | omega | exact tw | (rw [hw62]; exact hwk) | (unfold xI; omega) | (exfalso; omega)
      refine ⟨?_, ?_⟩
      · first | omega | exact tw | (rw [hw62]; exact hwk) | (unfold xI; omega) | (exfalso; omega)
      refine s_206m (by omega) _ K_H (by simp only [List.length_cons] at *; omega) (fun h1666 g_h1666 K_h1666 => ?_)
      have F_h1666 : jF H h1666 := g_h1666
      exact hQ _ F_h1666 (by rw [evS_here]; exact K_h1666)
    · skip
      refine ⟨fun cz2 => ?_, fun cz2 => ?_⟩
      · skip
        refine ⟨fun cz3 => ?_, fun cz3 => ?_⟩
        · skip
          exfalso
          omega
        · skip
          exfalso
          omega
      · skip
        exfalso
        omega
  · have k43 : k = 43 := by omega
    have evS_here : evS (H 62) (10000 + k) s = -v :: r := by
      rw [e]
      unfold evS
      rw [if_neg (by omega), if_neg (by omega)]
      dsimp only
      rw [if_pos q]
    rw [e] at K_H ls
    refine U_210 (by omega) k H ?_
    refine ⟨fun cz1 => ?_, fun cz1 => ?_⟩
    · skip
      refine ⟨?_, ?_⟩
      · first | omega | exact tw | (rw [hw62]; exact hwk) | (unfold xI; omega) | (exfalso; omega)
      refine ⟨?_, ?_⟩
      · first | omega | exact tw | (rw [hw62]; exact hwk) | (unfold xI; omega) | (exfalso; omega)
      exfalso
      omega
    · skip
      refine ⟨fun cz2 => ?_, fun cz2 => ?_⟩
      · skip
        refine ⟨fun cz3 => ?_, fun cz3 => ?_⟩
        · skip
          exfalso
          omega
        · skip
          exfalso
          omega
      · skip
        refine s_207m (by omega) K_H (by simp only [List.length_cons] at *; omega) (fun h1678 g_h1678 K_h1678 => ?_)
        have F_h1678 : jF H h1678 := g_h1678
        refine ⟨?_, ?_⟩
        · first | omega | exact tw | (rw [hw62]; exact hwk) | (unfold xI; omega) | (exfalso; omega)
        refine s_206m (by omega) _ K_h1678 (by simp only [List.length_cons] at *; omega) (fun h1680 g_h1680 K_h1680 => ?_)
        have F_h1680 : jF H h1680 := jF_trans F_h1678 g_h1680
        exact hQ _ F_h1680 (by rw [evS_here]; exact K_h1680)
  · have k6 : k = 6 := by omega
    have evS_here : evS (H 62) (10000 + k) s = (1 - v) :: r := by
      rw [e]
      unfold evS
      rw [if_neg (by omega), if_neg (by omega)]
      dsimp only
      rw [if_neg (by omega), if_pos q]
    rw [e] at K_H ls
    refine U_210 (by omega) k H ?_
    refine ⟨fun cz1 => ?_, fun cz1 => ?_⟩
    · skip
      refine ⟨?_, ?_⟩
      · first | omega | exact tw | (rw [hw62]; exact hwk) | (unfold xI; omega) | (exfalso; omega)
      refine ⟨?_, ?_⟩
      · first | omega | exact tw | (rw [hw62]; exact hwk) | (unfold xI; omega) | (exfalso; omega)
      exfalso
      omega
    · skip
      refine ⟨fun cz2 => ?_, fun cz2 => ?_⟩
      · skip
        refine ⟨fun cz3 => ?_, fun cz3 => ?_⟩
        · skip
          exfalso
          omega
        · skip
          refine s_207m (by omega) K_H (by simp only [List.length_cons] at *; omega) (fun h1690 g_h1690 K_h1690 => ?_)
          have F_h1690 : jF H h1690 := g_h1690
          refine ⟨?_, ?_⟩
          · first | omega | exact tw | (rw [hw62]; exact hwk) | (unfold xI; omega) | (exfalso; omega)
          refine s_206m (by omega) _ K_h1690 (by simp only [List.length_cons] at *; omega) (fun h1692 g_h1692 K_h1692 => ?_)
          have F_h1692 : jF H h1692 := jF_trans F_h1690 g_h1692
          exact hQ _ F_h1692 (by rw [evS_here]; exact K_h1692)
      · skip
        exfalso
        omega
  · have k2 : ¬ (7 ≤ k ∧ k ≤ 17) ∧ ¬ k = 43 ∧ ¬ k = 6 := by rcases z with ⟨q, -⟩ | ⟨q, -⟩ | ⟨q, -⟩ <;> omega
    have tw : tw2P k l v := by
      rcases z with ⟨q, hl, hv, -⟩ | ⟨q, hl, hv, -⟩ | ⟨q, hl, hv, -⟩
      · exact Or.inl ⟨by omega, hl, hv⟩
      · exact Or.inl ⟨by omega, hl, hv⟩
      · exact Or.inr ⟨by omega, hl, hv⟩
    have evS_here : evS (H 62) (10000 + k) s = rkV k l v :: r := by
      rw [e]
      unfold evS
      rw [if_neg (by omega), if_neg (by omega)]
      dsimp only
      rw [if_neg (by omega), if_neg (by omega), show 10000 + k - 10000 = k by omega]
    rw [e] at K_H ls
    clear z
    refine U_210 (by omega) k H ?_
    refine ⟨fun cz1 => ?_, fun cz1 => ?_⟩
    · skip
      refine ⟨?_, ?_⟩
      · first | omega | exact tw | (rw [hw62]; exact hwk) | (unfold xI; omega) | (exfalso; omega)
      refine ⟨?_, ?_⟩
      · first | omega | exact tw | (rw [hw62]; exact hwk) | (unfold xI; omega) | (exfalso; omega)
      exfalso
      omega
    · skip
      refine ⟨fun cz2 => ?_, fun cz2 => ?_⟩
      · skip
        refine ⟨fun cz3 => ?_, fun cz3 => ?_⟩
        · skip
          refine s_207m (by omega) K_H (by simp only [List.length_cons] at *; omega) (fun h1700 g_h1700 K_h1700 => ?_)
          have F_h1700 : jF H h1700 := g_h1700
          refine s_207m (by omega) K_h1700 (by simp only [List.length_cons] at *; omega) (fun h1702 g_h1702 K_h1702 => ?_)
          have F_h1702 : jF H h1702 := jF_trans F_h1700 g_h1702
          refine ⟨?_, ?_⟩
          · first | omega | exact tw | (rw [hw62]; exact hwk) | (unfold xI; omega) | (exfalso; omega)
          refine s_206m (by omega) _ K_h1702 (by simp only [List.length_cons] at *; omega) (fun h1704 g_h1704 K_h1704 => ?_)
          have F_h1704 : jF H h1704 := jF_trans F_h1702 g_h1704
          exact hQ _ F_h1704 (by rw [evS_here]; exact K_h1704)
        · skip
          exfalso
          omega
      · skip
        exfalso
        omega

theorem U_211 {X : Int × (Int → Int)} {d : Nat} {Q : Int → XH → Prop} (hd : 1 ≤ d) (c u : Int) (H : XH) (h : (H 58 6 = 51) ∧ ((((0 ≤ (H 58 7) ∧ (H 58 7) ≤ 3)) → xq X d 211 Q 31 [(0, (2, 58)), (1, (0, c)), (3, (0, u)), (4, (0, 0))] [] (xup H 58 5 0)) ∧ (¬ ((0 ≤ (H 58 7) ∧ (H 58 7) ≤ 3)) → Q u H))) : xc X (d + 1) 211 [(2, 58), (0, c), (0, u)] H Q := by
  refine ⟨rfl, ?_⟩
  show xq X d 211 Q 100000 [(0, (2, 58)), (1, (0, c)), (2, (0, u))] [] H
  refine xq_run [16, 31, 91, 94, 105, 108, 112, 168, 178, 184] 300 ?_
  show (H 58 6 = 51) ∧ xWM (xE X) xMC d 19 [(0, H 58 7), (0, 0), (0, 3)] xKZ H _
  refine ⟨h.1, ?_⟩
  replace h := h.2
  refine xc_in (s_19 (by omega) (H 58 7) 0 3 H  ?_)
  replace h := h
  show xq X d 211 Q 16 [(0, (2, 58)), (1, (0, c)), (2, (0, u))] [(0, xb (0 ≤ (H 58 7) ∧ (H 58 7) ≤ 3))] H
  refine xq_run [16, 31, 91, 94, 105, 108, 112, 168, 178, 184] 300 ?_
  show ((¬ xb (0 ≤ (H 58 7) ∧ (H 58 7) ≤ 3) = 0) → xq X d 211 Q 31 [(0, (2, 58)), (1, (0, c)), (3, (0, u)), (4, (0, 0))] [] (xup H 58 5 0)) ∧ (¬ (¬ xb (0 ≤ (H 58 7) ∧ (H 58 7) ≤ 3) = 0) → xfR 0 u ∧ xKZ = xKZ ∧ Q u H)
  refine ⟨fun k_ => ?_, fun k_ => ?_⟩
  · replace h := h.1 (xbe_1.mp k_)
    exact h
  · replace h := h.2 (xbe_n.mp k_)
    exact ⟨trivial, rfl, h⟩
theorem U_211_31 {X : Int × (Int → Int)} {d : Nat} {Q : Int → XH → Prop} (hd : 0 ≤ d) (v1 v3 v4 : Int) (H : XH) (h : (H 58 6 = 51) ∧ ((0 : Int) ≤ H 58 7 ∧ (H 58 7 : Int) < 4) ∧ ((H 54 (H 58 7) ≤ v4) → xq X d 211 Q 184 [(0, (2, 58)), (1, (0, v1)), (3, (0, v3)), (4, (0, v4))] [] H) ∧ (¬ (H 54 (H 58 7) ≤ v4) → ((300 ≤ v4) → xq X d 211 Q 184 [(0, (2, 58)), (1, (0, v1)), (3, (0, v3)), (4, (0, v4))] [] H) ∧ (¬ (300 ≤ v4) → (H 58 6 = 51) ∧ (xI ((H 58 7) * 300)) ∧ (xI (((H 58 7) * 300) + v4)) ∧ ((0 : Int) ≤ ((H 58 7) * 300) + v4 ∧ (((H 58 7) * 300) + v4 : Int) < 1200) ∧ ((10000 ≤ H 53 (((H 58 7) * 300) + v4)) → xq X d 211 Q 94 [(5, (0, H 53 (((H 58 7) * 300) + v4))), (0, (2, 58)), (1, (0, v1)), (3, (0, v3)), (4, (0, v4))] [] H) ∧ (¬ (10000 ≤ H 53 (((H 58 7) * 300) + v4)) → (xc X d 206 [(2, 58), (0, H 53 (((H 58 7) * 300) + v4))] H (fun (J1717 : Int) (h1716 : XH) => (xI (v4 + 1)) ∧ xq X d 211 Q 31 [(0, (2, 58)), (1, (0, v1)), (3, (0, v3)), (4, (0, v4 + 1))] [] h1716)))))) : xq X d 211 Q 31 [(0, (2, 58)), (1, (0, v1)), (3, (0, v3)), (4, (0, v4))] [] H := by
  show xq X d 211 Q 31 [(0, (2, 58)), (1, (0, v1)), (3, (0, v3)), (4, (0, v4))] [] H
  refine xq_run [16, 31, 91, 94, 105, 108, 112, 168, 178, 184] 300 ?_
  show (H 58 6 = 51) ∧ ((0 : Int) ≤ H 58 7 ∧ (H 58 7 : Int) < 4) ∧ ((H 54 (H 58 7) ≤ v4) → xq X d 211 Q 184 [(0, (2, 58)), (1, (0, v1)), (3, (0, v3)), (4, (0, v4))] [] H) ∧ (¬ (H 54 (H 58 7) ≤ v4) → ((300 ≤ v4) → xq X d 211 Q 184 [(0, (2, 58)), (1, (0, v1)), (3, (0, v3)), (4, (0, v4))] [] H) ∧ (¬ (300 ≤ v4) → (H 58 6 = 51) ∧ (xI ((H 58 7) * 300)) ∧ (xI (((H 58 7) * 300) + v4)) ∧ ((0 : Int) ≤ ((H 58 7) * 300) + v4 ∧ (((H 58 7) * 300) + v4 : Int) < 1200) ∧ ((10000 ≤ H 53 (((H 58 7) * 300) + v4)) → xq X d 211 Q 94 [(5, (0, H 53 (((H 58 7) * 300) + v4))), (0, (2, 58)), (1, (0, v1)), (3, (0, v3)), (4, (0, v4))] [] H) ∧ (¬ (10000 ≤ H 53 (((H 58 7) * 300) + v4)) → xWM (xE X) xMC d 206 [(2, 58), (0, H 53 (((H 58 7) * 300) + v4))] xKZ H _)))
  refine ⟨h.1, ?_⟩
  replace h := h.2
  refine ⟨h.1, ?_⟩
  replace h := h.2
  refine ⟨fun k_ => ?_, fun k_ => ?_⟩
  · replace h := h.1 k_
    exact h
  · replace h := h.2 k_
    refine ⟨fun k_ => ?_, fun k_ => ?_⟩
    · replace h := h.1 k_
      exact h
    · replace h := h.2 k_
      refine ⟨h.1, ?_⟩
      replace h := h.2
      refine ⟨h.1, ?_⟩
      replace h := h.2
      refine ⟨h.1, ?_⟩
      replace h := h.2
      refine ⟨h.1, ?_⟩
      replace h := h.2
      refine ⟨fun k_ => ?_, fun k_ => ?_⟩
      · replace h := h.1 k_
        exact h
      · replace h := h.2 k_
        refine xc_in (xc_mono (fun J1717 h1716 q_ => ?_) h)
        replace h := q_
        show xq X d 211 Q 91 [(5, (0, H 53 (((H 58 7) * 300) + v4))), (0, (2, 58)), (1, (0, v1)), (3, (0, v3)), (4, (0, v4))] [] h1716
        refine xq_run [16, 31, 91, 94, 105, 108, 112, 168, 178, 184] 300 ?_
        show xq X d 211 Q 178 [(5, (0, H 53 (((H 58 7) * 300) + v4))), (0, (2, 58)), (1, (0, v1)), (3, (0, v3)), (4, (0, v4))] [] h1716
        show xq X d 211 Q 178 [(5, (0, H 53 (((H 58 7) * 300) + v4))), (0, (2, 58)), (1, (0, v1)), (3, (0, v3)), (4, (0, v4))] [] h1716
        refine xq_run [16, 31, 91, 94, 105, 108, 112, 168, 178, 184] 300 ?_
        show (xI (v4 + 1)) ∧ xq X d 211 Q 31 [(0, (2, 58)), (1, (0, v1)), (3, (0, v3)), (4, (0, v4 + 1))] [] h1716
        refine ⟨h.1, ?_⟩
        replace h := h.2
        exact h
theorem U_211_184 {X : Int × (Int → Int)} {d : Nat} {Q : Int → XH → Prop} (hd : 0 ≤ d) (v1 v3 v4 : Int) (H : XH) (h : Q v3 H) : xq X d 211 Q 184 [(0, (2, 58)), (1, (0, v1)), (3, (0, v3)), (4, (0, v4))] [] H := by
  show xq X d 211 Q 184 [(0, (2, 58)), (1, (0, v1)), (3, (0, v3)), (4, (0, v4))] [] H
  refine xq_run [16, 31, 91, 94, 105, 108, 112, 168, 178, 184] 300 ?_
  show xfR 0 v3 ∧ xKZ = xKZ ∧ Q v3 H
  exact ⟨trivial, rfl, h⟩
theorem U_211_94 {X : Int × (Int → Int)} {d : Nat} {Q : Int → XH → Prop} (hd : 1 ≤ d) (v5 v1 v3 v4 : Int) (H : XH) (h : (xI (v5 - 10000)) ∧ ((((0 ≤ (v5 - 10000) ∧ (v5 - 10000) ≤ 3)) → xq X d 211 Q 108 [(5, (0, v5)), (0, (2, 58)), (1, (0, v1)), (3, (0, v3)), (4, (0, v4))] [] H) ∧ (¬ ((0 ≤ (v5 - 10000) ∧ (v5 - 10000) ≤ 3)) → xq X d 211 Q 168 [(5, (0, v5)), (0, (2, 58)), (1, (0, v1)), (3, (0, v3)), (4, (0, v4))] [] H))) : xq X d 211 Q 94 [(5, (0, v5)), (0, (2, 58)), (1, (0, v1)), (3, (0, v3)), (4, (0, v4))] [] H := by
  show xq X d 211 Q 94 [(5, (0, v5)), (0, (2, 58)), (1, (0, v1)), (3, (0, v3)), (4, (0, v4))] [] H
  refine xq_run [16, 31, 91, 94, 105, 108, 112, 168, 178, 184] 300 ?_
  show (xI (v5 - 10000)) ∧ xWM (xE X) xMC d 19 [(0, v5 - 10000), (0, 0), (0, 3)] xKZ H _
  refine ⟨h.1, ?_⟩
  replace h := h.2
  refine xc_in (s_19 (by omega) (v5 - 10000) 0 3 H  ?_)
  replace h := h
  show xq X d 211 Q 105 [(5, (0, v5)), (0, (2, 58)), (1, (0, v1)), (3, (0, v3)), (4, (0, v4))] [(0, xb (0 ≤ (v5 - 10000) ∧ (v5 - 10000) ≤ 3))] H
  refine xq_run [16, 31, 91, 94, 105, 108, 112, 168, 178, 184] 300 ?_
  show ((xb (0 ≤ (v5 - 10000) ∧ (v5 - 10000) ≤ 3) = 0) → xq X d 211 Q 168 [(5, (0, v5)), (0, (2, 58)), (1, (0, v1)), (3, (0, v3)), (4, (0, v4))] [] H) ∧ (¬ (xb (0 ≤ (v5 - 10000) ∧ (v5 - 10000) ≤ 3) = 0) → xq X d 211 Q 108 [(5, (0, v5)), (0, (2, 58)), (1, (0, v1)), (3, (0, v3)), (4, (0, v4))] [] H)
  refine ⟨fun k_ => ?_, fun k_ => ?_⟩
  · replace h := h.2 (xbe_0.mp k_)
    exact h
  · replace h := h.1 (xbe_1.mp k_)
    exact h
theorem U_211_168 {X : Int × (Int → Int)} {d : Nat} {Q : Int → XH → Prop} (hd : 0 ≤ d) (v5 v1 v3 v4 : Int) (H : XH) (h : (xI (v5 - 10000)) ∧ (xc X d 210 [(2, 58), (0, v5 - 10000)] H (fun (J1719 : Int) (h1718 : XH) => (xI (v4 + 1)) ∧ xq X d 211 Q 31 [(0, (2, 58)), (1, (0, v1)), (3, (0, v3)), (4, (0, v4 + 1))] [] h1718))) : xq X d 211 Q 168 [(5, (0, v5)), (0, (2, 58)), (1, (0, v1)), (3, (0, v3)), (4, (0, v4))] [] H := by
  show xq X d 211 Q 168 [(5, (0, v5)), (0, (2, 58)), (1, (0, v1)), (3, (0, v3)), (4, (0, v4))] [] H
  refine xq_run [16, 31, 91, 94, 105, 108, 112, 168, 178, 184] 300 ?_
  show (xI (v5 - 10000)) ∧ xWM (xE X) xMC d 210 [(2, 58), (0, v5 - 10000)] xKZ H _
  refine ⟨h.1, ?_⟩
  replace h := h.2
  refine xc_in (xc_mono (fun J1719 h1718 q_ => ?_) h)
  replace h := q_
  show xq X d 211 Q 178 [(5, (0, v5)), (0, (2, 58)), (1, (0, v1)), (3, (0, v3)), (4, (0, v4))] [] h1718
  refine xq_run [16, 31, 91, 94, 105, 108, 112, 168, 178, 184] 300 ?_
  show (xI (v4 + 1)) ∧ xq X d 211 Q 31 [(0, (2, 58)), (1, (0, v1)), (3, (0, v3)), (4, (0, v4 + 1))] [] h1718
  refine ⟨h.1, ?_⟩
  replace h := h.2
  exact h
theorem U_211_108 {X : Int × (Int → Int)} {d : Nat} {Q : Int → XH → Prop} (hd : 0 ≤ d) (v5 v1 v3 v4 : Int) (H : XH) (h : (xc X d 207 [(2, 58)] H (fun (J1721 : Int) (h1720 : XH) => (xI (v5 - 10000)) ∧ ((¬ v5 - 10000 = v1) → ((v1 = 0) → (xI (v4 + 1)) ∧ xq X d 211 Q 31 [(0, (2, 58)), (1, (0, v1)), (3, (0, v3)), (4, (0, v4 + 1))] [] h1720) ∧ (¬ (v1 = 0) → ((¬ v1 = 1) → (xI (v4 + 1)) ∧ xq X d 211 Q 31 [(0, (2, 58)), (1, (0, v1)), (3, (0, v3)), (4, (0, v4 + 1))] [] h1720) ∧ (¬ (¬ v1 = 1) → (xI (v4 + 1)) ∧ xq X d 211 Q 31 [(0, (2, 58)), (1, (0, v1)), (3, (0, v3)), (4, (0, v4 + 1))] [] h1720))) ∧ (¬ (¬ v5 - 10000 = v1) → ((v1 = 0) → (xI (v4 + 1)) ∧ xq X d 211 Q 31 [(0, (2, 58)), (1, (0, v1)), (3, (0, J1721)), (4, (0, v4 + 1))] [] h1720) ∧ (¬ (v1 = 0) → ((¬ v1 = 1) → ((J1721 = 0) → (xI (v4 + 1)) ∧ xq X d 211 Q 31 [(0, (2, 58)), (1, (0, v1)), (3, (0, v3)), (4, (0, v4 + 1))] [] h1720) ∧ (¬ (J1721 = 0) → (xI (v4 + 1)) ∧ xq X d 211 Q 31 [(0, (2, 58)), (1, (0, v1)), (3, (0, J1721)), (4, (0, v4 + 1))] [] h1720)) ∧ (¬ (¬ v1 = 1) → (xI (v4 + 1)) ∧ xq X d 211 Q 31 [(0, (2, 58)), (1, (0, v1)), (3, (0, J1721)), (4, (0, v4 + 1))] [] h1720)))))) : xq X d 211 Q 108 [(5, (0, v5)), (0, (2, 58)), (1, (0, v1)), (3, (0, v3)), (4, (0, v4))] [] H := by
  show xq X d 211 Q 108 [(5, (0, v5)), (0, (2, 58)), (1, (0, v1)), (3, (0, v3)), (4, (0, v4))] [] H
  refine xq_run [16, 31, 91, 94, 105, 108, 112, 168, 178, 184] 300 ?_
  show xWM (xE X) xMC d 207 [(2, 58)] xKZ H _
  refine xc_in (xc_mono (fun J1721 h1720 q_ => ?_) h)
  replace h := q_
  show xq X d 211 Q 112 [(5, (0, v5)), (0, (2, 58)), (1, (0, v1)), (3, (0, v3)), (4, (0, v4))] [(0, J1721)] h1720
  refine xq_run [16, 31, 91, 94, 105, 108, 112, 168, 178, 184] 300 ?_
  show (xI (v5 - 10000)) ∧ ((¬ v5 - 10000 = v1) → ((v1 = 0) → ((0 = 0) → xq X d 211 Q 178 [(8, (0, 1)), (7, (0, 0)), (6, (0, J1721)), (5, (0, v5)), (0, (2, 58)), (1, (0, v1)), (3, (0, v3)), (4, (0, v4))] [] h1720) ∧ (¬ (0 = 0) → _)) ∧ (¬ (v1 = 0) → ((¬ v1 = 1) → ((0 = 0) → xq X d 211 Q 178 [(8, (0, 0)), (7, (0, 0)), (6, (0, J1721)), (5, (0, v5)), (0, (2, 58)), (1, (0, v1)), (3, (0, v3)), (4, (0, v4))] [] h1720) ∧ (¬ (0 = 0) → _)) ∧ (¬ (¬ v1 = 1) → ((0 = 0) → xq X d 211 Q 178 [(8, (0, 1)), (7, (0, 0)), (6, (0, J1721)), (5, (0, v5)), (0, (2, 58)), (1, (0, v1)), (3, (0, v3)), (4, (0, v4))] [] h1720) ∧ (¬ (0 = 0) → _)))) ∧ (¬ (¬ v5 - 10000 = v1) → ((v1 = 0) → ((1 = 0) → _) ∧ (¬ (1 = 0) → ((¬ 1 = 0) → xq X d 211 Q 178 [(3, (0, J1721)), (8, (0, 1)), (7, (0, 1)), (6, (0, J1721)), (5, (0, v5)), (0, (2, 58)), (1, (0, v1)), (4, (0, v4))] [] h1720) ∧ (¬ (¬ 1 = 0) → _))) ∧ (¬ (v1 = 0) → ((¬ v1 = 1) → ((1 = 0) → _) ∧ (¬ (1 = 0) → ((¬ 0 = 0) → _) ∧ (¬ (¬ 0 = 0) → ((J1721 = 0) → xq X d 211 Q 178 [(8, (0, 0)), (7, (0, 1)), (6, (0, J1721)), (5, (0, v5)), (0, (2, 58)), (1, (0, v1)), (3, (0, v3)), (4, (0, v4))] [] h1720) ∧ (¬ (J1721 = 0) → xq X d 211 Q 178 [(3, (0, J1721)), (8, (0, 0)), (7, (0, 1)), (6, (0, J1721)), (5, (0, v5)), (0, (2, 58)), (1, (0, v1)), (4, (0, v4))] [] h1720)))) ∧ (¬ (¬ v1 = 1) → ((1 = 0) → _) ∧ (¬ (1 = 0) → ((¬ 1 = 0) → xq X d 211 Q 178 [(3, (0, J1721)), (8, (0, 1)), (7, (0, 1)), (6, (0, J1721)), (5, (0, v5)), (0, (2, 58)), (1, (0, v1)), (4, (0, v4))] [] h1720) ∧ (¬ (¬ 1 = 0) → _)))))
  refine ⟨h.1, ?_⟩
  replace h := h.2
  refine ⟨fun k_ => ?_, fun k_ => ?_⟩
  · replace h := h.1 k_
    refine ⟨fun k_ => ?_, fun k_ => ?_⟩
    · replace h := h.1 k_
      refine ⟨fun k_ => ?_, fun k_ => absurd (by decide) k_⟩
      show xq X d 211 Q 178 [(8, (0, 1)), (7, (0, 0)), (6, (0, J1721)), (5, (0, v5)), (0, (2, 58)), (1, (0, v1)), (3, (0, v3)), (4, (0, v4))] [] h1720
      refine xq_run [16, 31, 91, 94, 105, 108, 112, 168, 178, 184] 300 ?_
      show (xI (v4 + 1)) ∧ xq X d 211 Q 31 [(0, (2, 58)), (1, (0, v1)), (3, (0, v3)), (4, (0, v4 + 1))] [] h1720
      refine ⟨h.1, ?_⟩
      replace h := h.2
      exact h
    · replace h := h.2 k_
      refine ⟨fun k_ => ?_, fun k_ => ?_⟩
      · replace h := h.1 k_
        refine ⟨fun k_ => ?_, fun k_ => absurd (by decide) k_⟩
        show xq X d 211 Q 178 [(8, (0, 0)), (7, (0, 0)), (6, (0, J1721)), (5, (0, v5)), (0, (2, 58)), (1, (0, v1)), (3, (0, v3)), (4, (0, v4))] [] h1720
        refine xq_run [16, 31, 91, 94, 105, 108, 112, 168, 178, 184] 300 ?_
        show (xI (v4 + 1)) ∧ xq X d 211 Q 31 [(0, (2, 58)), (1, (0, v1)), (3, (0, v3)), (4, (0, v4 + 1))] [] h1720
        refine ⟨h.1, ?_⟩
        replace h := h.2
        exact h
      · replace h := h.2 k_
        refine ⟨fun k_ => ?_, fun k_ => absurd (by decide) k_⟩
        show xq X d 211 Q 178 [(8, (0, 1)), (7, (0, 0)), (6, (0, J1721)), (5, (0, v5)), (0, (2, 58)), (1, (0, v1)), (3, (0, v3)), (4, (0, v4))] [] h1720
        refine xq_run [16, 31, 91, 94, 105, 108, 112, 168, 178, 184] 300 ?_
        show (xI (v4 + 1)) ∧ xq X d 211 Q 31 [(0, (2, 58)), (1, (0, v1)), (3, (0, v3)), (4, (0, v4 + 1))] [] h1720
        refine ⟨h.1, ?_⟩
        replace h := h.2
        exact h
  · replace h := h.2 k_
    refine ⟨fun k_ => ?_, fun k_ => ?_⟩
    · replace h := h.1 k_
      refine ⟨fun k_ => absurd k_ (by decide), fun k_ => ?_⟩
      refine ⟨fun k_ => ?_, fun k_ => absurd (by decide) k_⟩
      show xq X d 211 Q 178 [(3, (0, J1721)), (8, (0, 1)), (7, (0, 1)), (6, (0, J1721)), (5, (0, v5)), (0, (2, 58)), (1, (0, v1)), (4, (0, v4))] [] h1720
      refine xq_run [16, 31, 91, 94, 105, 108, 112, 168, 178, 184] 300 ?_
      show (xI (v4 + 1)) ∧ xq X d 211 Q 31 [(0, (2, 58)), (1, (0, v1)), (3, (0, J1721)), (4, (0, v4 + 1))] [] h1720
      refine ⟨h.1, ?_⟩
      replace h := h.2
      exact h
    · replace h := h.2 k_
      refine ⟨fun k_ => ?_, fun k_ => ?_⟩
      · replace h := h.1 k_
        refine ⟨fun k_ => absurd k_ (by decide), fun k_ => ?_⟩
        refine ⟨fun k_ => absurd k_ (by decide), fun k_ => ?_⟩
        refine ⟨fun k_ => ?_, fun k_ => ?_⟩
        · replace h := h.1 k_
          show xq X d 211 Q 178 [(8, (0, 0)), (7, (0, 1)), (6, (0, J1721)), (5, (0, v5)), (0, (2, 58)), (1, (0, v1)), (3, (0, v3)), (4, (0, v4))] [] h1720
          refine xq_run [16, 31, 91, 94, 105, 108, 112, 168, 178, 184] 300 ?_
          show (xI (v4 + 1)) ∧ xq X d 211 Q 31 [(0, (2, 58)), (1, (0, v1)), (3, (0, v3)), (4, (0, v4 + 1))] [] h1720
          refine ⟨h.1, ?_⟩
          replace h := h.2
          exact h
        · replace h := h.2 k_
          show xq X d 211 Q 178 [(3, (0, J1721)), (8, (0, 0)), (7, (0, 1)), (6, (0, J1721)), (5, (0, v5)), (0, (2, 58)), (1, (0, v1)), (4, (0, v4))] [] h1720
          refine xq_run [16, 31, 91, 94, 105, 108, 112, 168, 178, 184] 300 ?_
          show (xI (v4 + 1)) ∧ xq X d 211 Q 31 [(0, (2, 58)), (1, (0, v1)), (3, (0, J1721)), (4, (0, v4 + 1))] [] h1720
          refine ⟨h.1, ?_⟩
          replace h := h.2
          exact h
      · replace h := h.2 k_
        refine ⟨fun k_ => absurd k_ (by decide), fun k_ => ?_⟩
        refine ⟨fun k_ => ?_, fun k_ => absurd (by decide) k_⟩
        show xq X d 211 Q 178 [(3, (0, J1721)), (8, (0, 1)), (7, (0, 1)), (6, (0, J1721)), (5, (0, v5)), (0, (2, 58)), (1, (0, v1)), (4, (0, v4))] [] h1720
        refine xq_run [16, 31, 91, 94, 105, 108, 112, 168, 178, 184] 300 ?_
        show (xI (v4 + 1)) ∧ xq X d 211 Q 31 [(0, (2, 58)), (1, (0, v1)), (3, (0, J1721)), (4, (0, v4 + 1))] [] h1720
        refine ⟨h.1, ?_⟩
        replace h := h.2
        exact h

/-- the code of law t of the class is that of the clauses L -/
def lawC (t : Int) (L : List (Int × List Int)) (H : XH) : Prop := (∀ p ∈ L, clOk p) ∧ (clF L).length ≤ 300 ∧ H 54 t = ((clF L).length : Int) ∧ ∀ k : Nat, k < (clF L).length → H 53 (300 * t + k) = (clF L).getD k 0
noncomputable def valS (w : Int → Int) (c : List Int) : Int := (evR w c []).headD 0
/-- what the clauses of one kind say; u without -/
noncomputable def jdV (w : Int → Int) (c : Int) : List (Int × List Int) → Int → Int
  | [], u => u
  | p :: L, u => jdV w c L (if p.1 = c ∧ (c ≤ 1 ∨ ¬ valS w p.2 = 0) then valS w p.2 else u)
theorem tyS_1 {b : Bool} {s : List Int} (h : tyS [b] s) : ∃ v, s = [v] ∧ -1000000 ≤ v ∧ v ≤ 1000000 ∧ (b = false → v = 0 ∨ v = 1) := by
  match b, s, h with
  | true, [v], h => exact ⟨v, rfl, h.1.1, h.1.2, fun q => by cases q⟩
  | false, [v], h => exact ⟨v, rfl, by rcases h.1 with q | q <;> omega, by rcases h.1 with q | q <;> omega, fun _ => h.1⟩
  | true, [], h => exact h.elim
  | false, [], h => exact h.elim
  | true, _ :: _ :: _, h => exact h.2.elim
  | false, _ :: _ :: _, h => exact h.2.elim
theorem evR_ty {w : Int → Int} (hw : ∀ i, 0 ≤ i → i ≤ 10 → -1000000 ≤ w i ∧ w i ≤ 1000000) : ∀ (c : List Int) (b b' : List Bool) (s : List Int), tcR c b = some b' → tyS b s → tyS b' (evR w c s)
  | [], b, b', s, h, t => by
    cases h
    exact t
  | x :: c, b, b', s, h, t => by
    have h' : (tcS x b).bind (tcR c) = some b' := h
    cases e : tcS x b with
    | none =>
      rw [e] at h'
      cases h'
    | some b1 =>
      rw [e] at h'
      exact evR_ty hw c b1 b' _ h' (evS_ty hw e t)
/-- the value of a clause -/
theorem val_cl {w : Int → Int} (hw : ∀ i, 0 ≤ i → i ≤ 10 → -1000000 ≤ w i ∧ w i ≤ 1000000) {p : Int × List Int} (h : clOk p) : ∃ b, tcR p.2 [] = some [b] ∧ evR w p.2 [] = [valS w p.2] ∧ (-1000000 ≤ valS w p.2 ∧ valS w p.2 ≤ 1000000) ∧ (2 ≤ p.1 → valS w p.2 = 0 ∨ valS w p.2 = 1) := by
  have key : ∀ b, tcR p.2 [] = some [b] → (2 ≤ p.1 → b = false) → ∃ b, tcR p.2 [] = some [b] ∧ evR w p.2 [] = [valS w p.2] ∧ (-1000000 ≤ valS w p.2 ∧ valS w p.2 ≤ 1000000) ∧ (2 ≤ p.1 → valS w p.2 = 0 ∨ valS w p.2 = 1) := fun b hb h2 => by
    obtain ⟨v, e, v1, v2, v3⟩ := tyS_1 (evR_ty hw p.2 [] [b] [] hb trivial)
    have ev : valS w p.2 = v := by
      unfold valS
      rw [e]
      rfl
    rw [ev]
    exact ⟨b, hb, e, ⟨v1, v2⟩, fun q => v3 (h2 q)⟩
  by_cases q : p.1 ≤ 1
  · exact key true (h.2.1 q [] (by decide)) (fun z => by omega)
  · exact key false (h.2.2 (by omega) [] (by decide)) (fun _ => rfl)
theorem jdV_rng {w : Int → Int} (hw : ∀ i, 0 ≤ i → i ≤ 10 → -1000000 ≤ w i ∧ w i ≤ 1000000) (c : Int) : ∀ (L : List (Int × List Int)) (u : Int), (∀ p ∈ L, clOk p) → (-1000000 ≤ u ∧ u ≤ 1000000) → -1000000 ≤ jdV w c L u ∧ jdV w c L u ≤ 1000000
  | [], u, _, hu => hu
  | p :: L, u, h, hu => by
    obtain ⟨b, -, -, v, -⟩ := val_cl hw (h p List.mem_cons_self)
    unfold jdV
    refine jdV_rng hw c L _ (fun q hq => h q (List.mem_cons_of_mem _ hq)) ?_
    split
    · exact v
    · exact hu
theorem tcS_no {x : Int} {b b' : List Bool} (h : tcS x b = some b') : ¬ (10000 ≤ x ∧ x ≤ 10003) ∧ (x ≤ 9999 → 0 ≤ x) ∧ x ≤ 10043 := by
  unfold tcS at h
  split at h
  · omega
  · split at h
    · split at h
      · omega
      · split at h
        · split at h
          · omega
          · split at h
            · omega
            · cases h
        · cases h
    · split at h
      · omega
      · split at h
        · split at h
          · omega
          · cases h
        · cases h
    · cases h

theorem s_211 {X : Int × (Int → Int)} {d : Nat} {Q : Int → XH → Prop} (hd : 8 ≤ d) (t c u : Int) (L : List (Int × List Int)) (H : XH) (h6 : H 58 6 = 51) (h7 : H 58 7 = t) (pt : 0 ≤ t ∧ t ≤ 3) (hl : lawC t L H) (hw : ∀ i, 0 ≤ i → i ≤ 10 → -1000000 ≤ H 62 i ∧ H 62 i ≤ 1000000) (pc : 0 ≤ c ∧ c ≤ 3) (hQ : ∀ h1, jF H h1 → Q (jdV (H 62) c L u) h1) : xc X d 211 [(2, 58), (0, c), (0, u)] H Q := by
  cases d with
  | zero => omega
  | succ d =>
  obtain ⟨l1, l2, l3, l4⟩ := hl
  -- a clause's own code
  have key : ∀ (cd : List Int) (b b' : List Bool) (s : List Int) (i : Nat) (a : Int) (h : XH), jF H h → hSk s (h 58 5) (h 63) → tcR cd b = some b' → tyS b s → s.length ≤ 60 → i + cd.length ≤ (clF L).length → (∀ k : Nat, k < cd.length → (clF L).getD (i + k) 0 = cd.getD k 0) → (∀ h1, jF H h1 → hSk (evR (H 62) cd s) (h1 58 5) (h1 63) → xq X d 211 Q 31 [(0, (2, 58)), (1, (0, c)), (3, (0, a)), (4, (0, ((i + cd.length : Nat) : Int)))] [] h1) → xq X d 211 Q 31 [(0, (2, 58)), (1, (0, c)), (3, (0, a)), (4, (0, (i : Int)))] [] h := by
    intro cd
    induction cd with
    | nil =>
      intro b b' s i a h f K _ _ _ _ _ k
      exact k h f K
    | cons x cd ih =>
      intro b b' s i a h f K_H tc ty ls li hx k
      have tc' : (tcS x b).bind (tcR cd) = some b' := tc
      obtain ⟨b1, eb⟩ : ∃ b1, tcS x b = some b1 := by
        cases e : tcS x b with
        | none =>
          rw [e] at tc'
          cases tc'
        | some b1 => exact ⟨b1, rfl⟩
      rw [eb] at tc'
      have tc2 : tcR cd b1 = some b' := tc'
      have no := tcS_no eb
      have ty2 := evS_ty hw eb ty
      have lb := tyS_len _ _ ty2
      have lc : (x :: cd).length = cd.length + 1 := rfl
      have ex : h 53 (t * 300 + i) = x := by
        rw [f.1 53 (by decide) (by decide), show t * 300 + (i : Int) = 300 * t + i by omega, l4 i (by omega)]
        have z := hx 0 (by omega)
        rw [Nat.add_zero] at z
        rw [z]
        rfl
      have g54 : h 54 t = ((clF L).length : Int) := (congrFun (f.1 54 (by decide) (by decide)) t).trans l3
      have g7 : h 58 7 = t := (f.2 7 (by decide)).trans h7
      have g6 : h 58 6 = 51 := (f.2 6 (by decide)).trans h6
      have g62 : h 62 = H 62 := f.1 62 (by decide) (by decide)
      have lsx : (evS (H 62) x s).length ≤ 60 := by
        rcases tcS_cases eb ty with ⟨q, l60, e⟩ | ⟨q, v, r, e, -, c', e2, t2⟩ | ⟨q, v, r, e, -, c', e2, t2⟩ | ⟨l, v, r, e, z⟩
        · rw [lb, e]
          have := tyS_len _ _ ty
          simp only [List.length_cons]
          omega
        · have := tyS_len _ _ t2
          rw [lb, e2]
          rw [e] at ls
          simp only [List.length_cons] at ls ⊢
          omega
        · have := tyS_len _ _ t2
          rw [lb, e2]
          rw [e] at ls
          simp only [List.length_cons] at ls ⊢
          omega
        · rw [e] at ls
          simp only [List.length_cons] at ls
          rcases z with ⟨-, -, -, c', e2, t2⟩ | ⟨-, -, -, c', e2, t2⟩ | ⟨-, -, -, c', e2, t2⟩ <;> (have := tyS_len _ _ t2; rw [lb, e2]; simp only [List.length_cons]; omega)
      have nx : ∀ h1, jF h h1 → hSk (evS (H 62) x s) (h1 58 5) (h1 63) → xq X d 211 Q 31 [(0, (2, 58)), (1, (0, c)), (3, (0, a)), (4, (0, (i : Int) + 1))] [] h1 := fun h1 f1 K1 => by
        refine ih b1 b' (evS (H 62) x s) (i + 1) a h1 (jF_trans f f1) K1 tc2 ty2 lsx (by omega) (fun j hj => ?_) (fun h2 f2 K2 => ?_)
        · have z := hx (j + 1) (by omega)
          rw [show i + 1 + j = i + (j + 1) by omega, z]
          rfl
        · have z := k h2 f2 K2
          rw [show i + 1 + cd.length = i + (x :: cd).length by omega]
          exact z
      have s60 : ((0 ≤ x ∧ x ≤ 9999) ∨ (10007 ≤ x ∧ x ≤ 10017)) → s.length < 60 := fun q => by
        unfold tcS at eb
        rw [if_pos q] at eb
        have := tyS_len _ _ ty
        split at eb
        · omega
        · cases eb
      refine U_211_31 (by omega) c a (i : Int) h ?_
      rw [g7, g54, ex]
      refine ⟨?_, ?_⟩
      · first | omega | (unfold xI; omega) | (unfold xJ; omega) | (exfalso; omega)
      refine ⟨?_, ?_⟩
      · first | omega | (unfold xI; omega) | (unfold xJ; omega) | (exfalso; omega)
      refine ⟨fun c1 => ?_, fun c1 => ?_⟩
      · skip
        exfalso
        omega
      · skip
        refine ⟨fun c2 => ?_, fun c2 => ?_⟩
        · skip
          exfalso
          omega
        · skip
          refine ⟨?_, ?_⟩
          · first | omega | (unfold xI; omega) | (unfold xJ; omega) | (exfalso; omega)
          refine ⟨?_, ?_⟩
          · first | omega | (unfold xI; omega) | (unfold xJ; omega) | (exfalso; omega)
          refine ⟨?_, ?_⟩
          · first | omega | (unfold xI; omega) | (unfold xJ; omega) | (exfalso; omega)
          refine ⟨?_, ?_⟩
          · first | omega | (unfold xI; omega) | (unfold xJ; omega) | (exfalso; omega)
          refine ⟨fun c3 => ?_, fun c3 => ?_⟩
          · skip
            refine U_211_94 (by omega) x c a (i : Int) h ?_
            refine ⟨?_, ?_⟩
            · first | omega | (unfold xI; omega) | (unfold xJ; omega) | (exfalso; omega)
            refine ⟨fun cd1 => ?_, fun cd1 => ?_⟩
            · skip
              exfalso
              omega
            · skip
              refine U_211_168 (by omega) x c a (i : Int) h ?_
              refine ⟨?_, ?_⟩
              · first | omega | (unfold xI; omega) | (unfold xJ; omega) | (exfalso; omega)
              refine s_210m (by omega) (x - 10000) (b := b) (b' := b1) K_H (by omega) (by rw [g62]; exact hw) (by rw [show 10000 + (x - 10000) = x by omega]; exact eb) ty ls (fun h1728 f1 K1 => ?_)
              rw [g62, show 10000 + (x - 10000) = x by omega] at K1
              refine ⟨?_, ?_⟩
              · first | omega | (unfold xI; omega) | (unfold xJ; omega) | (exfalso; omega)
              exact nx _ f1 K1
          · skip
            refine s_206m (by omega) x K_H (by omega) (fun h1722 f1 K1 => ?_)
            refine ⟨?_, ?_⟩
            · first | omega | (unfold xI; omega) | (unfold xJ; omega) | (exfalso; omega)
            exact nx _ f1 (by
              have e : evS (H 62) x s = x :: s := by
                unfold evS
                rw [if_pos (by omega)]
              rw [e]
              exact K1)
  have keyL : ∀ (M : List (Int × List Int)) (i : Nat) (a : Int) (h : XH), jF H h → hSk [] (h 58 5) (h 63) → (∀ p ∈ M, clOk p) → i + (clF M).length = (clF L).length → (∀ k : Nat, k < (clF M).length → (clF L).getD (i + k) 0 = (clF M).getD k 0) → jdV (H 62) c M a = jdV (H 62) c L u → xq X d 211 Q 31 [(0, (2, 58)), (1, (0, c)), (3, (0, a)), (4, (0, (i : Int)))] [] h := by
    intro M
    induction M with
    | nil =>
      intro i a h f K _ li hx hj
      have z := hQ h f
      rw [← hj] at z
      have g54 : h 54 t = ((clF L).length : Int) := (congrFun (f.1 54 (by decide) (by decide)) t).trans l3
      have g7 : h 58 7 = t := (f.2 7 (by decide)).trans h7
      have g6 : h 58 6 = 51 := (f.2 6 (by decide)).trans h6
      have e0 : (clF ([] : List (Int × List Int))).length = 0 := rfl
      refine U_211_31 (by omega) c a (i : Int) h ?_
      rw [g7, g54]
      refine ⟨?_, ?_⟩
      · first | omega | (unfold xI; omega) | (unfold xJ; omega) | (exfalso; omega)
      refine ⟨?_, ?_⟩
      · first | omega | (unfold xI; omega) | (unfold xJ; omega) | (exfalso; omega)
      refine ⟨fun c1 => ?_, fun c1 => ?_⟩
      · skip
        exact U_211_184 (by omega) c a (i : Int) h z
      · skip
        refine ⟨fun c2 => ?_, fun c2 => ?_⟩
        · skip
          exfalso
          omega
        · skip
          refine ⟨?_, ?_⟩
          · first | omega | (unfold xI; omega) | (unfold xJ; omega) | (exfalso; omega)
          refine ⟨?_, ?_⟩
          · first | omega | (unfold xI; omega) | (unfold xJ; omega) | (exfalso; omega)
          refine ⟨?_, ?_⟩
          · first | omega | (unfold xI; omega) | (unfold xJ; omega) | (exfalso; omega)
          refine ⟨?_, ?_⟩
          · first | omega | (unfold xI; omega) | (unfold xJ; omega) | (exfalso; omega)
          refine ⟨fun c3 => ?_, fun c3 => ?_⟩
          · skip
            exfalso
            omega
          · skip
            exfalso
            omega
    | cons p M ih =>
      intro i a h f K hM li hx hj
      obtain ⟨bb, tb, ev, vr, -⟩ := val_cl hw (hM p List.mem_cons_self)
      have pw := (hM p List.mem_cons_self).1
      have el : (clF (p :: M)).length = p.2.length + ((clF M).length + 1) := by
        show (p.2 ++ (10000 + p.1) :: clF M).length = _
        rw [List.length_append]
        rfl
      have gd : ∀ k : Nat, (clF (p :: M)).getD k 0 = if k < p.2.length then p.2.getD k 0 else if k = p.2.length then 10000 + p.1 else (clF M).getD (k - p.2.length - 1) 0 := fun k => by
        show (p.2 ++ (10000 + p.1) :: clF M).getD k 0 = _
        rw [List.getD_eq_getElem?_getD]
        by_cases q : k < p.2.length
        · rw [if_pos q, List.getElem?_append_left q, ← List.getD_eq_getElem?_getD]
        · rw [if_neg q, List.getElem?_append_right (by omega)]
          by_cases y : k = p.2.length
          · rw [if_pos y, y, Nat.sub_self]
            rfl
          · rw [if_neg y, show k - p.2.length = (k - p.2.length - 1) + 1 by omega, List.getElem?_cons_succ, ← List.getD_eq_getElem?_getD, show k - p.2.length - 1 + 1 - 1 = k - p.2.length - 1 by omega]
      refine key p.2 [] [bb] [] i a h f K tb trivial (by decide) (by omega) (fun k hk => ?_) (fun h1 f1 K1 => ?_)
      · rw [hx k (by omega), gd, if_pos hk]
      rw [ev] at K1
      have g54 : h1 54 t = ((clF L).length : Int) := (congrFun (f1.1 54 (by decide) (by decide)) t).trans l3
      have g7 : h1 58 7 = t := (f1.2 7 (by decide)).trans h7
      have g6 : h1 58 6 = 51 := (f1.2 6 (by decide)).trans h6
      have ex : h1 53 (t * 300 + ((i + p.2.length : Nat) : Int)) = 10000 + p.1 := by
        rw [f1.1 53 (by decide) (by decide), show t * 300 + ((i + p.2.length : Nat) : Int) = 300 * t + ((i + p.2.length : Nat) : Int) by omega, l4 (i + p.2.length) (by omega), hx p.2.length (by omega), gd, if_neg (Nat.lt_irrefl _), if_pos rfl]
      have nx : ∀ (x : Int) (h2 : XH), jF h1 h2 → hSk [] (h2 58 5) (h2 63) → x = (if p.1 = c ∧ (c ≤ 1 ∨ ¬ valS (H 62) p.2 = 0) then valS (H 62) p.2 else a) → xq X d 211 Q 31 [(0, (2, 58)), (1, (0, c)), (3, (0, x)), (4, (0, ((i + p.2.length : Nat) : Int) + 1))] [] h2 := fun x h2 f2 K2 hxx => by
        have z := ih (i + p.2.length + 1) x h2 (jF_trans f1 f2) K2 (fun q hq => hM q (List.mem_cons_of_mem _ hq)) (by omega) (fun k hk => ?_) (by rw [hxx]; exact hj)
        · rw [show ((i + p.2.length + 1 : Nat) : Int) = ((i + p.2.length : Nat) : Int) + 1 by omega] at z
          exact z
        · have y := hx (p.2.length + 1 + k) (by omega)
          rw [show i + p.2.length + 1 + k = i + (p.2.length + 1 + k) by omega, y, gd, if_neg (by omega), if_neg (by omega), show p.2.length + 1 + k - p.2.length - 1 = k by omega]
      refine U_211_31 (by omega) c a ((i + p.2.length : Nat) : Int) h1 ?_
      rw [g7, g54, ex]
      refine ⟨?_, ?_⟩
      · first | omega | (unfold xI; omega) | (unfold xJ; omega) | (exfalso; omega)
      refine ⟨?_, ?_⟩
      · first | omega | (unfold xI; omega) | (unfold xJ; omega) | (exfalso; omega)
      refine ⟨fun c1 => ?_, fun c1 => ?_⟩
      · skip
        exfalso
        omega
      · skip
        refine ⟨fun c2 => ?_, fun c2 => ?_⟩
        · skip
          exfalso
          omega
        · skip
          refine ⟨?_, ?_⟩
          · first | omega | (unfold xI; omega) | (unfold xJ; omega) | (exfalso; omega)
          refine ⟨?_, ?_⟩
          · first | omega | (unfold xI; omega) | (unfold xJ; omega) | (exfalso; omega)
          refine ⟨?_, ?_⟩
          · first | omega | (unfold xI; omega) | (unfold xJ; omega) | (exfalso; omega)
          refine ⟨?_, ?_⟩
          · first | omega | (unfold xI; omega) | (unfold xJ; omega) | (exfalso; omega)
          refine ⟨fun c3 => ?_, fun c3 => ?_⟩
          · skip
            refine U_211_94 (by omega) (10000 + p.1) c a ((i + p.2.length : Nat) : Int) h1 ?_
            refine ⟨?_, ?_⟩
            · first | omega | (unfold xI; omega) | (unfold xJ; omega) | (exfalso; omega)
            refine ⟨fun cd1 => ?_, fun cd1 => ?_⟩
            · skip
              refine U_211_108 (by omega) (10000 + p.1) c a ((i + p.2.length : Nat) : Int) h1 ?_
              refine s_207m (by omega) K1 (by decide) (fun h1740 f2 K2 => ?_)
              refine ⟨?_, ?_⟩
              · first | omega | (unfold xI; omega) | (unfold xJ; omega) | (exfalso; omega)
              refine ⟨fun ce1 => ?_, fun ce1 => ?_⟩
              · skip
                refine ⟨fun ce2 => ?_, fun ce2 => ?_⟩
                · skip
                  refine ⟨?_, ?_⟩
                  · first | omega | (unfold xI; omega) | (unfold xJ; omega) | (exfalso; omega)
                  first | exact nx _ _ f2 K2 (by rw [if_pos (by omega)]) | exact nx _ _ f2 K2 (by rw [if_neg (by omega)])
                · skip
                  refine ⟨fun ce3 => ?_, fun ce3 => ?_⟩
                  · skip
                    refine ⟨?_, ?_⟩
                    · first | omega | (unfold xI; omega) | (unfold xJ; omega) | (exfalso; omega)
                    first | exact nx _ _ f2 K2 (by rw [if_pos (by omega)]) | exact nx _ _ f2 K2 (by rw [if_neg (by omega)])
                  · skip
                    refine ⟨?_, ?_⟩
                    · first | omega | (unfold xI; omega) | (unfold xJ; omega) | (exfalso; omega)
                    first | exact nx _ _ f2 K2 (by rw [if_pos (by omega)]) | exact nx _ _ f2 K2 (by rw [if_neg (by omega)])
              · skip
                refine ⟨fun ce4 => ?_, fun ce4 => ?_⟩
                · skip
                  refine ⟨?_, ?_⟩
                  · first | omega | (unfold xI; omega) | (unfold xJ; omega) | (exfalso; omega)
                  first | exact nx _ _ f2 K2 (by rw [if_pos (by omega)]) | exact nx _ _ f2 K2 (by rw [if_neg (by omega)])
                · skip
                  refine ⟨fun ce5 => ?_, fun ce5 => ?_⟩
                  · skip
                    refine ⟨fun ce6 => ?_, fun ce6 => ?_⟩
                    · skip
                      refine ⟨?_, ?_⟩
                      · first | omega | (unfold xI; omega) | (unfold xJ; omega) | (exfalso; omega)
                      first | exact nx _ _ f2 K2 (by rw [if_pos (by omega)]) | exact nx _ _ f2 K2 (by rw [if_neg (by omega)])
                    · skip
                      refine ⟨?_, ?_⟩
                      · first | omega | (unfold xI; omega) | (unfold xJ; omega) | (exfalso; omega)
                      first | exact nx _ _ f2 K2 (by rw [if_pos (by omega)]) | exact nx _ _ f2 K2 (by rw [if_neg (by omega)])
                  · skip
                    refine ⟨?_, ?_⟩
                    · first | omega | (unfold xI; omega) | (unfold xJ; omega) | (exfalso; omega)
                    first | exact nx _ _ f2 K2 (by rw [if_pos (by omega)]) | exact nx _ _ f2 K2 (by rw [if_neg (by omega)])
            · skip
              exfalso
              omega
          · skip
            exfalso
            omega
  refine U_211 (by omega) c u H ?_
  rw [h7]
  refine ⟨?_, ?_⟩
  · first | omega | (unfold xI; omega) | (unfold xJ; omega) | (exfalso; omega)
  refine ⟨fun c1 => ?_, fun c1 => ?_⟩
  · skip
    exact keyL L 0 u _ ⟨fun o a b => xup_ne a, fun k a => xup_k a⟩ ⟨xup_self _ _ _ _, trivial⟩ l1 (Nat.zero_add _) (fun k _ => by rw [Nat.zero_add]) rfl
  · skip
    exfalso
    omega

theorem s_211n {X : Int × (Int → Int)} {d : Nat} {Q : Int → XH → Prop} (hd : 8 ≤ d) (c u : Int) (H : XH) (h6 : H 58 6 = 51) (h7 : H 58 7 = -1) (hQ : Q u H) : xc X d 211 [(2, 58), (0, c), (0, u)] H Q := by
  cases d with
  | zero => omega
  | succ d =>
  refine U_211 (by omega) c u H ?_
  rw [h7]
  refine ⟨?_, ?_⟩
  · first | omega | (unfold xI; omega) | (unfold xJ; omega) | (exfalso; omega)
  refine ⟨fun c1 => ?_, fun c1 => ?_⟩
  · skip
    exfalso
    omega
  · skip
    exact hQ
