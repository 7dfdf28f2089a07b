/-! THE PURE LAYER 74: believed: the pair -/
theorem U_240 {X : Int × (Int → Int)} {d : Nat} {Q : Int → XH → Prop} (hd : 1 ≤ d) (a : Int) (H : XH) (h : ((((1 ≤ a ∧ a ≤ 15)) → xq X d 240 Q 19 [(0, (2, 0)), (1, (0, a)), (2, (0, (-1))), (3, (0, 0)), (4, (0, 0))] [] H) ∧ (¬ ((1 ≤ a ∧ a ≤ 15)) → Q (-1) H))) : xc X (d + 1) 240 [(2, 0), (0, a)] H Q := by
  refine ⟨rfl, ?_⟩
  show xq X d 240 Q 100000 [(0, (2, 0)), (1, (0, a))] [] H
  refine xq_run [7, 19, 43] 300 ?_
  show xWM (xE X) xMC d 19 [(0, a), (0, 1), (0, 15)] xKZ H _
  refine xc_in (s_19 (by omega) a 1 15 H  ?_)
  replace h := h
  show xq X d 240 Q 7 [(0, (2, 0)), (1, (0, a))] [(0, xb (1 ≤ a ∧ a ≤ 15))] H
  refine xq_run [7, 19, 43] 300 ?_
  show ((¬ xb (1 ≤ a ∧ a ≤ 15) = 0) → xq X d 240 Q 19 [(0, (2, 0)), (1, (0, a)), (2, (0, (-1))), (3, (0, 0)), (4, (0, 0))] [] H) ∧ (¬ (¬ xb (1 ≤ a ∧ a ≤ 15) = 0) → xfR 0 (-1) ∧ xKZ = xKZ ∧ Q (-1) H)
  refine ⟨fun k_ => ?_, fun k_ => ?_⟩
  · replace h := h.1 (xbe_1.mp k_)
    exact h
  · replace h := h.2 (xbe_n.mp k_)
    exact ⟨trivial, rfl, h⟩
theorem U_240_19 {X : Int × (Int → Int)} {d : Nat} {Q : Int → XH → Prop} (hd : 0 ≤ d) (v1 v2 v3 v4 : Int) (H : XH) (h : ((4 ≤ v4) → Q v2 H) ∧ (¬ (4 ≤ v4) → ((¬ xand (xshr v1 v4) 1 = 0) → (xc X d 236 [(2, 0), (0, v4)] H (fun (J2409 : Int) (h2408 : XH) => ((v2 = (-1)) → (xI (v4 + 1)) ∧ xq X d 240 Q 19 [(0, (2, 0)), (1, (0, v1)), (2, (0, v4)), (3, (0, h2408 64 2)), (4, (0, v4 + 1))] [] h2408) ∧ (¬ (v2 = (-1)) → ((v3 ≤ h2408 64 2) → (xI (v4 + 1)) ∧ xq X d 240 Q 19 [(0, (2, 0)), (1, (0, v1)), (2, (0, v2)), (3, (0, v3)), (4, (0, v4 + 1))] [] h2408) ∧ (¬ (v3 ≤ h2408 64 2) → (xI (v4 + 1)) ∧ xq X d 240 Q 19 [(0, (2, 0)), (1, (0, v1)), (2, (0, v4)), (3, (0, h2408 64 2)), (4, (0, v4 + 1))] [] h2408))))) ∧ (¬ (¬ xand (xshr v1 v4) 1 = 0) → (xI (v4 + 1)) ∧ xq X d 240 Q 19 [(0, (2, 0)), (1, (0, v1)), (2, (0, v2)), (3, (0, v3)), (4, (0, v4 + 1))] [] H))) : xq X d 240 Q 19 [(0, (2, 0)), (1, (0, v1)), (2, (0, v2)), (3, (0, v3)), (4, (0, v4))] [] H := by
  show xq X d 240 Q 19 [(0, (2, 0)), (1, (0, v1)), (2, (0, v2)), (3, (0, v3)), (4, (0, v4))] [] H
  refine xq_run [7, 19, 43] 300 ?_
  show ((4 ≤ v4) → xfR 0 v2 ∧ xKZ = xKZ ∧ Q v2 H) ∧ (¬ (4 ≤ v4) → ((¬ xand (xshr v1 v4) 1 = 0) → xWM (xE X) xMC d 236 [(2, 0), (0, v4)] xKZ H _) ∧ (¬ (¬ xand (xshr v1 v4) 1 = 0) → (xI (v4 + 1)) ∧ xq X d 240 Q 19 [(0, (2, 0)), (1, (0, v1)), (2, (0, v2)), (3, (0, v3)), (4, (0, v4 + 1))] [] H))
  refine ⟨fun k_ => ?_, fun k_ => ?_⟩
  · replace h := h.1 k_
    exact ⟨trivial, rfl, h⟩
  · replace h := h.2 k_
    refine ⟨fun k_ => ?_, fun k_ => ?_⟩
    · replace h := h.1 k_
      refine xc_in (xc_mono (fun J2409 h2408 q_ => ?_) h)
      replace h := q_
      show xq X d 240 Q 43 [(0, (2, 0)), (1, (0, v1)), (2, (0, v2)), (3, (0, v3)), (4, (0, v4))] [] h2408
      refine xq_run [7, 19, 43] 300 ?_
      show ((v2 = (-1)) → (xI (v4 + 1)) ∧ xq X d 240 Q 19 [(0, (2, 0)), (1, (0, v1)), (2, (0, v4)), (3, (0, h2408 64 2)), (4, (0, v4 + 1))] [] h2408) ∧ (¬ (v2 = (-1)) → ((v3 ≤ h2408 64 2) → (xI (v4 + 1)) ∧ xq X d 240 Q 19 [(0, (2, 0)), (1, (0, v1)), (2, (0, v2)), (3, (0, v3)), (4, (0, v4 + 1))] [] h2408) ∧ (¬ (v3 ≤ h2408 64 2) → (xI (v4 + 1)) ∧ xq X d 240 Q 19 [(0, (2, 0)), (1, (0, v1)), (2, (0, v4)), (3, (0, h2408 64 2)), (4, (0, v4 + 1))] [] h2408))
      refine ⟨fun k_ => ?_, fun k_ => ?_⟩
      · replace h := h.1 k_
        refine ⟨h.1, ?_⟩
        replace h := h.2
        exact h
      · replace h := h.2 k_
        refine ⟨fun k_ => ?_, fun k_ => ?_⟩
        · replace h := h.1 k_
          refine ⟨h.1, ?_⟩
          replace h := h.2
          exact h
        · replace h := h.2 k_
          refine ⟨h.1, ?_⟩
          replace h := h.2
          exact h
    · replace h := h.2 k_
      refine ⟨h.1, ?_⟩
      replace h := h.2
      exact h

theorem U_241 {X : Int × (Int → Int)} {d : Nat} {Q : Int → XH → Prop} (hd : 1 ≤ d) (a : Int) (H : XH) (h : ((((1 ≤ a ∧ a ≤ 15)) → xq X d 241 Q 19 [(0, (2, 67)), (1, (0, a)), (2, (0, (-1))), (3, (0, 0)), (4, (0, 0))] [] H) ∧ (¬ ((1 ≤ a ∧ a ≤ 15)) → Q (-1) H))) : xc X (d + 1) 241 [(2, 67), (0, a)] H Q := by
  refine ⟨rfl, ?_⟩
  show xq X d 241 Q 100000 [(0, (2, 67)), (1, (0, a))] [] H
  refine xq_run [7, 19, 41] 300 ?_
  show xWM (xE X) xMC d 23 [(0, a), (0, 1), (0, 15)] xKZ H _
  refine xc_in (s_23 (by omega) a 1 15 H  ?_)
  replace h := h
  show xq X d 241 Q 7 [(0, (2, 67)), (1, (0, a))] [(0, xb (1 ≤ a ∧ a ≤ 15))] H
  refine xq_run [7, 19, 41] 300 ?_
  show ((¬ xb (1 ≤ a ∧ a ≤ 15) = 0) → xq X d 241 Q 19 [(0, (2, 67)), (1, (0, a)), (2, (0, (-1))), (3, (0, 0)), (4, (0, 0))] [] H) ∧ (¬ (¬ xb (1 ≤ a ∧ a ≤ 15) = 0) → xfR 0 (-1) ∧ xKZ = xKZ ∧ Q (-1) H)
  refine ⟨fun k_ => ?_, fun k_ => ?_⟩
  · replace h := h.1 (xbe_1.mp k_)
    exact h
  · replace h := h.2 (xbe_n.mp k_)
    exact ⟨trivial, rfl, h⟩
theorem U_241_19 {X : Int × (Int → Int)} {d : Nat} {Q : Int → XH → Prop} (hd : 0 ≤ d) (v1 v2 v3 v4 : Int) (H : XH) (h : ((4 ≤ v4) → Q v2 H) ∧ (¬ (4 ≤ v4) → ((¬ xand (xshr v1 v4) 1 = 1) → (xI (v4 + 1)) ∧ xq X d 241 Q 19 [(0, (2, 67)), (1, (0, v1)), (2, (0, v2)), (3, (0, v3)), (4, (0, v4 + 1))] [] H) ∧ (¬ (¬ xand (xshr v1 v4) 1 = 1) → (xc X d 238 [(2, 67), (0, v4)] H (fun (J2411 : Int) (h2410 : XH) => ((v2 = (-1)) → (xI (v4 + 1)) ∧ xq X d 241 Q 19 [(0, (2, 67)), (1, (0, v1)), (2, (0, v4)), (3, (0, h2410 97 0)), (4, (0, v4 + 1))] [] h2410) ∧ (¬ (v2 = (-1)) → ((v3 ≤ h2410 97 0) → (xI (v4 + 1)) ∧ xq X d 241 Q 19 [(0, (2, 67)), (1, (0, v1)), (2, (0, v2)), (3, (0, v3)), (4, (0, v4 + 1))] [] h2410) ∧ (¬ (v3 ≤ h2410 97 0) → (xI (v4 + 1)) ∧ xq X d 241 Q 19 [(0, (2, 67)), (1, (0, v1)), (2, (0, v4)), (3, (0, h2410 97 0)), (4, (0, v4 + 1))] [] h2410))))))) : xq X d 241 Q 19 [(0, (2, 67)), (1, (0, v1)), (2, (0, v2)), (3, (0, v3)), (4, (0, v4))] [] H := by
  show xq X d 241 Q 19 [(0, (2, 67)), (1, (0, v1)), (2, (0, v2)), (3, (0, v3)), (4, (0, v4))] [] H
  refine xq_run [7, 19, 41] 300 ?_
  show ((4 ≤ v4) → xfR 0 v2 ∧ xKZ = xKZ ∧ Q v2 H) ∧ (¬ (4 ≤ v4) → ((¬ xand (xshr v1 v4) 1 = 1) → (xI (v4 + 1)) ∧ xq X d 241 Q 19 [(0, (2, 67)), (1, (0, v1)), (2, (0, v2)), (3, (0, v3)), (4, (0, v4 + 1))] [] H) ∧ (¬ (¬ xand (xshr v1 v4) 1 = 1) → xWM (xE X) xMC d 238 [(2, 67), (0, v4)] xKZ H _))
  refine ⟨fun k_ => ?_, fun k_ => ?_⟩
  · replace h := h.1 k_
    exact ⟨trivial, rfl, h⟩
  · replace h := h.2 k_
    refine ⟨fun k_ => ?_, fun k_ => ?_⟩
    · replace h := h.1 k_
      refine ⟨h.1, ?_⟩
      replace h := h.2
      exact h
    · replace h := h.2 k_
      refine xc_in (xc_mono (fun J2411 h2410 q_ => ?_) h)
      replace h := q_
      show xq X d 241 Q 41 [(0, (2, 67)), (1, (0, v1)), (2, (0, v2)), (3, (0, v3)), (4, (0, v4))] [] h2410
      refine xq_run [7, 19, 41] 300 ?_
      show ((v2 = (-1)) → ((0 : Int) ≤ 0 ∧ (0 : Int) < 81) ∧ (xI (v4 + 1)) ∧ xq X d 241 Q 19 [(0, (2, 67)), (1, (0, v1)), (2, (0, v4)), (3, (0, h2410 97 0)), (4, (0, v4 + 1))] [] h2410) ∧ (¬ (v2 = (-1)) → ((0 : Int) ≤ 0 ∧ (0 : Int) < 81) ∧ ((v3 ≤ h2410 97 0) → (xI (v4 + 1)) ∧ xq X d 241 Q 19 [(0, (2, 67)), (1, (0, v1)), (2, (0, v2)), (3, (0, v3)), (4, (0, v4 + 1))] [] h2410) ∧ (¬ (v3 ≤ h2410 97 0) → ((0 : Int) ≤ 0 ∧ (0 : Int) < 81) ∧ (xI (v4 + 1)) ∧ xq X d 241 Q 19 [(0, (2, 67)), (1, (0, v1)), (2, (0, v4)), (3, (0, h2410 97 0)), (4, (0, v4 + 1))] [] h2410))
      refine ⟨fun k_ => ?_, fun k_ => ?_⟩
      · replace h := h.1 k_
        refine ⟨⟨by decide, by decide⟩, ?_⟩
        refine ⟨h.1, ?_⟩
        replace h := h.2
        exact h
      · replace h := h.2 k_
        refine ⟨⟨by decide, by decide⟩, ?_⟩
        refine ⟨fun k_ => ?_, fun k_ => ?_⟩
        · replace h := h.1 k_
          refine ⟨h.1, ?_⟩
          replace h := h.2
          exact h
        · replace h := h.2 k_
          refine ⟨⟨by decide, by decide⟩, ?_⟩
          refine ⟨h.1, ?_⟩
          replace h := h.2
          exact h

/-- the story of least cost among those asked of -/
def blV (c t : Int → Int) : Nat → Int → Int → Int → Int
  | 0, _, b, _ => b
  | r + 1, k, b, l => if t k = 0 then blV c t r (k + 1) b l else if b = -1 ∨ c k < l then blV c t r (k + 1) k (c k) else blV c t r (k + 1) b l
theorem blV_0 {c t : Int → Int} {k : Int} (q : t k = 0) (r : Nat) (b l : Int) : blV c t (r + 1) k b l = blV c t r (k + 1) b l := if_pos q
theorem blV_1 {c t : Int → Int} {k b l : Int} (q : ¬ t k = 0) (q2 : b = -1 ∨ c k < l) (r : Nat) : blV c t (r + 1) k b l = blV c t r (k + 1) k (c k) := (if_neg q).trans (if_pos q2)
theorem blV_2 {c t : Int → Int} {k b l : Int} (q : ¬ t k = 0) (q2 : ¬ (b = -1 ∨ c k < l)) (r : Nat) : blV c t (r + 1) k b l = blV c t r (k + 1) b l := (if_neg q).trans (if_neg q2)
theorem bit01 {a k : Int} (ha : 1 ≤ a ∧ a ≤ 15) (hk : 0 ≤ k ∧ k ≤ 3) : xand (xshr a k) 1 = 0 ∨ xand (xshr a k) 1 = 1 := by
  rcases (show k = 0 ∨ k = 1 ∨ k = 2 ∨ k = 3 by omega) with e | e | e | e <;> subst e <;> rcases (show a = 1 ∨ a = 2 ∨ a = 3 ∨ a = 4 ∨ a = 5 ∨ a = 6 ∨ a = 7 ∨ a = 8 ∨ a = 9 ∨ a = 10 ∨ a = 11 ∨ a = 12 ∨ a = 13 ∨ a = 14 ∨ a = 15 by omega) with e | e | e | e | e | e | e | e | e | e | e | e | e | e | e <;> subst e <;> decide
theorem loC_frC {lo : Option (List (Int × List Int))} {H h : XH} (F : frC H h) (l : loC lo H) : loC lo h := by
  have e1 : h 1 = H 1 := F 1 (by decide) (by decide)
  cases lo with
  | none => exact (congrFun e1 6).trans l
  | some L =>
    obtain ⟨t, l1, l2, l3, l4, l5, l6⟩ := l
    exact ⟨t, (congrFun e1 6).trans l1, l2, l3, l4, by rw [F 54 (by decide) (by decide)]; exact l5, fun k q => by rw [F 53 (by decide) (by decide)]; exact l6 k q⟩
theorem lwN_frM {lo : Option (List (Int × List Int))} {H h : XH} (F : frM H h) (l : lwN lo H) : lwN lo h := lwN_fr (fun o _ => F.1 o (by omega) (by omega)) l
/-- what believed answers -/
noncomputable def vBl (lo : Option (List (Int × List Int))) (w N : Int) (g : Int → Int) (a : Int) : Int := if 1 ≤ a ∧ a ≤ 15 then blV (fun k => hdC lo w N g k 0 0) (fun k => xand (xshr a k) 1) 4 0 (-1) 0 else -1
theorem s_240w {X : Int × (Int → Int)} {d : Nat} {Q : Int → XH → Prop} (hd : 15 ≤ d) {lo : Option (List (Int × List Int))} (a : Int) (H : XH) (hi : InvS H) (hl : loC lo H) (hQ : ∀ h1 : XH, frC H h1 → Q (vBl lo (H 67 0) (H 67 1) (H 68) a) h1) : xc X d 240 [(2, 0), (0, a)] H Q := by
  cases d with
  | zero => omega
  | succ d =>
  unfold vBl at hQ
  have key : 1 ≤ a ∧ a ≤ 15 → ∀ (r : Nat) (k b l : Int) (h' : XH), k + (r : Int) = 4 → 0 ≤ k → frC H h' → (∀ h1, frC H h1 → Q (blV (fun k => hdC lo (H 67 0) (H 67 1) (H 68) k 0 0) (fun k => xand (xshr a k) 1) r k b l) h1) → xq X d 240 Q 19 [(0, (2, 0)), (1, (0, a)), (2, (0, b)), (3, (0, l)), (4, (0, k))] [] h' := by
    intro pa r
    induction r with
    | zero =>
      intro k b l h' ek h0 F z
      have z := z h' F
      refine U_240_19 (by omega) a b l k h' ?_
      exact ⟨fun _ => z, fun q => absurd (by omega) q⟩
    | succ r ih =>
      intro k b l h' ek h0 F z
      have i0 : xand (xshr a k) 1 = 0 → ∀ h1, frC H h1 → xq X d 240 Q 19 [(0, (2, 0)), (1, (0, a)), (2, (0, b)), (3, (0, l)), (4, (0, k + 1))] [] h1 := fun q h1 F1 => ih (k + 1) b l h1 (by omega) (by omega) F1 (fun h2 F2 => by
        have y := z h2 F2
        rw [blV_0 (c := fun k => hdC lo (H 67 0) (H 67 1) (H 68) k 0 0) (t := fun k => xand (xshr a k) 1) (k := k) q] at y
        exact y)
      have i1 : ¬ xand (xshr a k) 1 = 0 → (b = -1 ∨ hdC lo (H 67 0) (H 67 1) (H 68) k 0 0 < l) → ∀ h1, frC H h1 → xq X d 240 Q 19 [(0, (2, 0)), (1, (0, a)), (2, (0, k)), (3, (0, hdC lo (H 67 0) (H 67 1) (H 68) k 0 0)), (4, (0, k + 1))] [] h1 := fun q q2 h1 F1 => ih (k + 1) k _ h1 (by omega) (by omega) F1 (fun h2 F2 => by
        have y := z h2 F2
        rw [blV_1 (c := fun k => hdC lo (H 67 0) (H 67 1) (H 68) k 0 0) (t := fun k => xand (xshr a k) 1) (k := k) q q2] at y
        exact y)
      have i2 : ¬ xand (xshr a k) 1 = 0 → ¬ (b = -1 ∨ hdC lo (H 67 0) (H 67 1) (H 68) k 0 0 < l) → ∀ h1, frC H h1 → xq X d 240 Q 19 [(0, (2, 0)), (1, (0, a)), (2, (0, b)), (3, (0, l)), (4, (0, k + 1))] [] h1 := fun q q2 h1 F1 => ih (k + 1) b l h1 (by omega) (by omega) F1 (fun h2 F2 => by
        have y := z h2 F2
        rw [blV_2 (c := fun k => hdC lo (H 67 0) (H 67 1) (H 68) k 0 0) (t := fun k => xand (xshr a k) 1) (k := k) q q2] at y
        exact y)
      have s236 := fun (Q1 : Int → XH → Prop) => s_236w (X := X) (d := d) (Q := Q1) (by omega) (lo := lo) k h' (frC_S F hi) (loC_frC F hl) (by omega)
      rw [F 67 (by decide) (by decide), F 68 (by decide) (by decide)] at s236
      clear ih z
      refine U_240_19 (by omega) a b l k h' ?_
      refine ⟨fun c1 => ?_, fun c1 => ?_⟩
      · skip
        first | (exfalso; omega) | exact i0 (by omega) _ F | (rw [g2]; first | exact i1 (by omega) (by omega) _ F2) | exact i2 (by omega) (by omega) _ F2
      · skip
        refine ⟨fun c2 => ?_, fun c2 => ?_⟩
        · skip
          refine s236 _ (fun h2412 F1 g2 g3 g4 g5 => ?_)
          have F2 := frC_trans F F1
          refine ⟨fun c3 => ?_, fun c3 => ?_⟩
          · skip
            refine ⟨?_, ?_⟩
            · first | omega | (unfold xI; omega) | (unfold xJ; omega) | (exfalso; omega)
            first | (exfalso; omega) | exact i0 (by omega) _ F | (rw [g2]; first | exact i1 (by omega) (by omega) _ F2) | exact i2 (by omega) (by omega) _ F2
          · skip
            refine ⟨fun c4 => ?_, fun c4 => ?_⟩
            · skip
              refine ⟨?_, ?_⟩
              · first | omega | (unfold xI; omega) | (unfold xJ; omega) | (exfalso; omega)
              first | (exfalso; omega) | exact i0 (by omega) _ F | (rw [g2]; first | exact i1 (by omega) (by omega) _ F2) | exact i2 (by omega) (by omega) _ F2
            · skip
              refine ⟨?_, ?_⟩
              · first | omega | (unfold xI; omega) | (unfold xJ; omega) | (exfalso; omega)
              first | (exfalso; omega) | exact i0 (by omega) _ F | (rw [g2]; first | exact i1 (by omega) (by omega) _ F2) | exact i2 (by omega) (by omega) _ F2
        · skip
          refine ⟨?_, ?_⟩
          · first | omega | (unfold xI; omega) | (unfold xJ; omega) | (exfalso; omega)
          first | (exfalso; omega) | exact i0 (by omega) _ F | (rw [g2]; first | exact i1 (by omega) (by omega) _ F2) | exact i2 (by omega) (by omega) _ F2
  refine U_240 (by omega) a H ?_
  refine ⟨fun c1 => ?_, fun c1 => ?_⟩
  · skip
    exact key (by omega) 4 0 (-1) 0 H (by decide) (by decide) (frC_refl H) (fun h1 F1 => by
      have z := hQ h1 F1
      rw [if_pos (by omega)] at z
      exact z)
  · skip
    have z := hQ H (frC_refl H)
    rw [if_neg (by omega)] at z
    exact z
theorem s_241w {X : Int × (Int → Int)} {d : Nat} {Q : Int → XH → Prop} (hd : 13 ≤ d) {lo : Option (List (Int × List Int))} (a : Int) (H : XH) (hg : GOk (H 67 0) (H 67 1) (H 68)) (hl : lwN lo H) (hQ : ∀ h1 : XH, frM H h1 → Q (vBl lo (H 67 0) (H 67 1) (H 68) a) h1) : xc X d 241 [(2, 67), (0, a)] H Q := by
  cases d with
  | zero => omega
  | succ d =>
  unfold vBl at hQ
  have key : 1 ≤ a ∧ a ≤ 15 → ∀ (r : Nat) (k b l : Int) (h' : XH), k + (r : Int) = 4 → 0 ≤ k → frM H h' → (∀ h1, frM H h1 → Q (blV (fun k => hdC lo (H 67 0) (H 67 1) (H 68) k 0 0) (fun k => xand (xshr a k) 1) r k b l) h1) → xq X d 241 Q 19 [(0, (2, 67)), (1, (0, a)), (2, (0, b)), (3, (0, l)), (4, (0, k))] [] h' := by
    intro pa r
    induction r with
    | zero =>
      intro k b l h' ek h0 F z
      have z := z h' F
      refine U_241_19 (by omega) a b l k h' ?_
      exact ⟨fun _ => z, fun q => absurd (by omega) q⟩
    | succ r ih =>
      intro k b l h' ek h0 F z
      have bit := bit01 pa (k := k) ⟨h0, by omega⟩
      have i0 : xand (xshr a k) 1 = 0 → ∀ h1, frM H h1 → xq X d 241 Q 19 [(0, (2, 67)), (1, (0, a)), (2, (0, b)), (3, (0, l)), (4, (0, k + 1))] [] h1 := fun q h1 F1 => ih (k + 1) b l h1 (by omega) (by omega) F1 (fun h2 F2 => by
        have y := z h2 F2
        rw [blV_0 (c := fun k => hdC lo (H 67 0) (H 67 1) (H 68) k 0 0) (t := fun k => xand (xshr a k) 1) (k := k) q] at y
        exact y)
      have i1 : ¬ xand (xshr a k) 1 = 0 → (b = -1 ∨ hdC lo (H 67 0) (H 67 1) (H 68) k 0 0 < l) → ∀ h1, frM H h1 → xq X d 241 Q 19 [(0, (2, 67)), (1, (0, a)), (2, (0, k)), (3, (0, hdC lo (H 67 0) (H 67 1) (H 68) k 0 0)), (4, (0, k + 1))] [] h1 := fun q q2 h1 F1 => ih (k + 1) k _ h1 (by omega) (by omega) F1 (fun h2 F2 => by
        have y := z h2 F2
        rw [blV_1 (c := fun k => hdC lo (H 67 0) (H 67 1) (H 68) k 0 0) (t := fun k => xand (xshr a k) 1) (k := k) q q2] at y
        exact y)
      have i2 : ¬ xand (xshr a k) 1 = 0 → ¬ (b = -1 ∨ hdC lo (H 67 0) (H 67 1) (H 68) k 0 0 < l) → ∀ h1, frM H h1 → xq X d 241 Q 19 [(0, (2, 67)), (1, (0, a)), (2, (0, b)), (3, (0, l)), (4, (0, k + 1))] [] h1 := fun q q2 h1 F1 => ih (k + 1) b l h1 (by omega) (by omega) F1 (fun h2 F2 => by
        have y := z h2 F2
        rw [blV_2 (c := fun k => hdC lo (H 67 0) (H 67 1) (H 68) k 0 0) (t := fun k => xand (xshr a k) 1) (k := k) q q2] at y
        exact y)
      have e0 : h' 67 0 = H 67 0 := F.2 0 (by decide)
      have e1 : h' 67 1 = H 67 1 := F.2 1 (by decide)
      have e68 : h' 68 = H 68 := F.1 68 (by decide) (by decide)
      have ok := (wkW_ok (lo := lo) hg (s := k) (by omega)).1
      have lyb := hg.lyb
      have s238 := fun (Q1 : Int → XH → Prop) => s_238w (X := X) (d := d) (Q := Q1) (by omega) (lo := lo) k h' (by rw [e0, e1, e68]; exact hg) (lwN_frM F hl) (by omega)
      rw [e0, e1, e68] at s238
      clear ih z
      refine U_241_19 (by omega) a b l k h' ?_
      refine ⟨fun c1 => ?_, fun c1 => ?_⟩
      · skip
        first | (exfalso; omega) | exact i0 (by omega) _ F | (rw [g2]; first | exact i1 (by omega) (by omega) _ F2) | exact i2 (by omega) (by omega) _ F2
      · skip
        refine ⟨fun c2 => ?_, fun c2 => ?_⟩
        · skip
          refine ⟨?_, ?_⟩
          · first | omega | (unfold xI; omega) | (unfold xJ; omega) | (exfalso; omega)
          first | (exfalso; omega) | exact i0 (by omega) _ F | (rw [g2]; first | exact i1 (by omega) (by omega) _ F2) | exact i2 (by omega) (by omega) _ F2
        · skip
          refine s238 _ (fun h2414 F1 _ g3 _ => ?_)
          have F2 := frM_trans F F1
          have g2 : h2414 97 0 = hdC lo (H 67 0) (H 67 1) (H 68) k 0 0 := g3 0 0 (by decide) ok.1 (by decide) lyb.1
          refine ⟨fun c3 => ?_, fun c3 => ?_⟩
          · skip
            refine ⟨?_, ?_⟩
            · first | omega | (unfold xI; omega) | (unfold xJ; omega) | (exfalso; omega)
            first | (exfalso; omega) | exact i0 (by omega) _ F | (rw [g2]; first | exact i1 (by omega) (by omega) _ F2) | exact i2 (by omega) (by omega) _ F2
          · skip
            refine ⟨fun c4 => ?_, fun c4 => ?_⟩
            · skip
              refine ⟨?_, ?_⟩
              · first | omega | (unfold xI; omega) | (unfold xJ; omega) | (exfalso; omega)
              first | (exfalso; omega) | exact i0 (by omega) _ F | (rw [g2]; first | exact i1 (by omega) (by omega) _ F2) | exact i2 (by omega) (by omega) _ F2
            · skip
              refine ⟨?_, ?_⟩
              · first | omega | (unfold xI; omega) | (unfold xJ; omega) | (exfalso; omega)
              first | (exfalso; omega) | exact i0 (by omega) _ F | (rw [g2]; first | exact i1 (by omega) (by omega) _ F2) | exact i2 (by omega) (by omega) _ F2
  refine U_241 (by omega) a H ?_
  refine ⟨fun c1 => ?_, fun c1 => ?_⟩
  · skip
    exact key (by omega) 4 0 (-1) 0 H (by decide) (by decide) (frM_refl H) (fun h1 F1 => by
      have z := hQ h1 F1
      rw [if_pos (by omega)] at z
      exact z)
  · skip
    have z := hQ H (frM_refl H)
    rw [if_neg (by omega)] at z
    exact z
theorem p_believed {X : Int × (Int → Int)} {d : Nat} (hd : 15 ≤ d) (a : Int) (H : XH) (hi : InvS H) (hl : InvL H) : xc X d 240 [(2, 0), (0, a)] H (fun r H1 => xc X d 241 [(2, 67), (0, a)] H1 (qOk H r)) := by
  obtain ⟨lo, l1, l2⟩ := law_lo hi hl
  exact s_240w (by omega) a H hi l1 (fun h1 f => s_241w (by omega) a h1 (frC_S f hi).1 (lwN_frC f l2) (fun h2 f' => ⟨by rw [f 67 (by decide) (by decide), f 68 (by decide) (by decide)], frQ_CM f f'⟩))
