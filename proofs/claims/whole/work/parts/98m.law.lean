/-! THE PURE LAYER 78: the law -/
noncomputable def xKL : XW := (xK0, 599901, 7278145)
/-- the script -/
def xX (X : Int × (Int → Int)) : Prop := 0 ≤ X.1 ∧ X.1 ≤ 100000 ∧ ∀ k, 0 ≤ k → k < X.1 → X.2 k ≤ 2147483647

noncomputable def kL_117 : List XK := []
set_option maxHeartbeats 8000000 in
set_option maxRecDepth 8000 in
theorem lc_0 {X : Int × (Int → Int)} {d : Nat} (hd : 40 ≤ d) (hX : xX X) (i : Int) (hi : 2 ≤ i ∧ i + 7 ≤ X.1) (H : XH) (h : InvZ H) (hN : ∀ H1, InvZ H1 → xkq X d 265 (fun r _ _ => r = 1) 1536 [(0, (4, 0)), (1, (2, 0)), (2, (2, 67)), (3, (0, i))] [] xKL H1) : xkq X d 265 (fun r _ _ => r = 1) 220 [(0, (4, 0)), (1, (2, 0)), (2, (2, 67)), (3, (0, i))] [] xKL H := by
  have hx := hX.2.1
  show xkq X d 265 (fun r _ _ => r = 1) 220 [(0, (4, 0)), (1, (2, 0)), (2, (2, 67)), (3, (0, i))] [] xKL H
  refine xkq_run [255, 290, 1536] 300 ?_
  show (xI (i + 1)) ∧ ((0 : Int) ≤ i + 1 ∧ (i + 1 : Int) < X.1) ∧ (xI (i + 2)) ∧ ((0 : Int) ≤ i + 2 ∧ (i + 2 : Int) < X.1) ∧ (xI (i + 3)) ∧ ((0 : Int) ≤ i + 3 ∧ (i + 3 : Int) < X.1) ∧ (xI (i + 4)) ∧ ((0 : Int) ≤ i + 4 ∧ (i + 4 : Int) < X.1) ∧ (xI (i + 5)) ∧ ((0 : Int) ≤ i + 5 ∧ (i + 5 : Int) < X.1) ∧ (xI (i + 6)) ∧ ((0 : Int) ≤ i + 6 ∧ (i + 6 : Int) < X.1) ∧ xWM (xE X) xMC d 22 [(2, 0), (0, X.2 (i + 1)), (0, X.2 (i + 2)), (0, X.2 (i + 3)), (0, X.2 (i + 4)), (0, X.2 (i + 5)), (0, X.2 (i + 6))] xKZ H _
  refine ⟨(by unfold xI; omega), ?_⟩
  refine ⟨⟨by omega, by omega⟩, ?_⟩
  refine ⟨(by unfold xI; omega), ?_⟩
  refine ⟨⟨by omega, by omega⟩, ?_⟩
  refine ⟨(by unfold xI; omega), ?_⟩
  refine ⟨⟨by omega, by omega⟩, ?_⟩
  refine ⟨(by unfold xI; omega), ?_⟩
  refine ⟨⟨by omega, by omega⟩, ?_⟩
  refine ⟨(by unfold xI; omega), ?_⟩
  refine ⟨⟨by omega, by omega⟩, ?_⟩
  refine ⟨(by unfold xI; omega), ?_⟩
  refine ⟨⟨by omega, by omega⟩, ?_⟩
  refine xc_in (xc_mono (fun r1 H1 q1 => ?_) (a_dig hd (X.2 (i + 1)) (X.2 (i + 2)) (X.2 (i + 3)) (X.2 (i + 4)) (X.2 (i + 5)) (X.2 (i + 6)) H  h))
  show xkq X d 265 (fun r _ _ => r = 1) 255 [(0, (4, 0)), (1, (2, 0)), (2, (2, 67)), (3, (0, i))] [(0, r1)] xKL H1
  refine xkq_run [255, 290, 1536] 300 ?_
  show (xI (i + 1)) ∧ ((0 : Int) ≤ i + 1 ∧ (i + 1 : Int) < X.1) ∧ (xI (i + 2)) ∧ ((0 : Int) ≤ i + 2 ∧ (i + 2 : Int) < X.1) ∧ (xI (i + 3)) ∧ ((0 : Int) ≤ i + 3 ∧ (i + 3 : Int) < X.1) ∧ (xI (i + 4)) ∧ ((0 : Int) ≤ i + 4 ∧ (i + 4 : Int) < X.1) ∧ (xI (i + 5)) ∧ ((0 : Int) ≤ i + 5 ∧ (i + 5 : Int) < X.1) ∧ (xI (i + 6)) ∧ ((0 : Int) ≤ i + 6 ∧ (i + 6 : Int) < X.1) ∧ xWM (xE X) xMC d 25 [(2, 67), (0, X.2 (i + 1)), (0, X.2 (i + 2)), (0, X.2 (i + 3)), (0, X.2 (i + 4)), (0, X.2 (i + 5)), (0, X.2 (i + 6))] xKZ H1 _
  refine ⟨(by unfold xI; omega), ?_⟩
  refine ⟨⟨by omega, by omega⟩, ?_⟩
  refine ⟨(by unfold xI; omega), ?_⟩
  refine ⟨⟨by omega, by omega⟩, ?_⟩
  refine ⟨(by unfold xI; omega), ?_⟩
  refine ⟨⟨by omega, by omega⟩, ?_⟩
  refine ⟨(by unfold xI; omega), ?_⟩
  refine ⟨⟨by omega, by omega⟩, ?_⟩
  refine ⟨(by unfold xI; omega), ?_⟩
  refine ⟨⟨by omega, by omega⟩, ?_⟩
  refine ⟨(by unfold xI; omega), ?_⟩
  refine ⟨⟨by omega, by omega⟩, ?_⟩
  refine xc_in (xc_mono (fun r2 H2 q2 => ?_) q1)
  show xkq X d 265 (fun r _ _ => r = 1) 290 [(0, (4, 0)), (1, (2, 0)), (2, (2, 67)), (3, (0, i))] [(0, r2), (0, r1)] xKL H2
  refine xkq_run [255, 290, 1536] 300 ?_
  show ((r1 = r2) → xkq X d 265 (fun r _ _ => r = 1) 1536 [(0, (4, 0)), (1, (2, 0)), (2, (2, 67)), (3, (0, i))] [] xKL H2) ∧ (¬ (r1 = r2) → xfR 3 0 ∧ (0 : Int) = 1)
  exact ⟨fun _ => hN _ q2.2, fun c => absurd q2.1.symm c⟩

set_option maxHeartbeats 8000000 in
set_option maxRecDepth 8000 in
theorem lc_1 {X : Int × (Int → Int)} {d : Nat} (hd : 40 ≤ d) (hX : xX X) (i : Int) (hi : 2 ≤ i ∧ i + 7 ≤ X.1) (H : XH) (h : InvZ H) (hN : ∀ H1, InvZ H1 → xkq X d 265 (fun r _ _ => r = 1) 1536 [(0, (4, 0)), (1, (2, 0)), (2, (2, 67)), (3, (0, i))] [] xKL H1) : xkq X d 265 (fun r _ _ => r = 1) 295 [(0, (4, 0)), (1, (2, 0)), (2, (2, 67)), (3, (0, i))] [] xKL H := by
  have hx := hX.2.1
  show xkq X d 265 (fun r _ _ => r = 1) 295 [(0, (4, 0)), (1, (2, 0)), (2, (2, 67)), (3, (0, i))] [] xKL H
  refine xkq_run [309, 323, 1536] 300 ?_
  show (xI (i + 1)) ∧ ((0 : Int) ≤ i + 1 ∧ (i + 1 : Int) < X.1) ∧ (xI (i + 2)) ∧ ((0 : Int) ≤ i + 2 ∧ (i + 2 : Int) < X.1) ∧ xWM (xE X) xMC d 27 [(2, 0), (0, X.2 (i + 1)), (0, X.2 (i + 2))] xKZ H _
  refine ⟨(by unfold xI; omega), ?_⟩
  refine ⟨⟨by omega, by omega⟩, ?_⟩
  refine ⟨(by unfold xI; omega), ?_⟩
  refine ⟨⟨by omega, by omega⟩, ?_⟩
  refine xc_in (xc_mono (fun r1 H1 q1 => ?_) (a_carry hd (X.2 (i + 1)) (X.2 (i + 2)) H  h))
  show xkq X d 265 (fun r _ _ => r = 1) 309 [(0, (4, 0)), (1, (2, 0)), (2, (2, 67)), (3, (0, i))] [(0, r1)] xKL H1
  refine xkq_run [309, 323, 1536] 300 ?_
  show (xI (i + 1)) ∧ ((0 : Int) ≤ i + 1 ∧ (i + 1 : Int) < X.1) ∧ (xI (i + 2)) ∧ ((0 : Int) ≤ i + 2 ∧ (i + 2 : Int) < X.1) ∧ xWM (xE X) xMC d 28 [(2, 67), (0, X.2 (i + 1)), (0, X.2 (i + 2))] xKZ H1 _
  refine ⟨(by unfold xI; omega), ?_⟩
  refine ⟨⟨by omega, by omega⟩, ?_⟩
  refine ⟨(by unfold xI; omega), ?_⟩
  refine ⟨⟨by omega, by omega⟩, ?_⟩
  refine xc_in (xc_mono (fun r2 H2 q2 => ?_) q1)
  show xkq X d 265 (fun r _ _ => r = 1) 323 [(0, (4, 0)), (1, (2, 0)), (2, (2, 67)), (3, (0, i))] [(0, r2), (0, r1)] xKL H2
  refine xkq_run [309, 323, 1536] 300 ?_
  show ((r1 = r2) → xkq X d 265 (fun r _ _ => r = 1) 1536 [(0, (4, 0)), (1, (2, 0)), (2, (2, 67)), (3, (0, i))] [] xKL H2) ∧ (¬ (r1 = r2) → xfR 3 0 ∧ (0 : Int) = 1)
  exact ⟨fun _ => hN _ q2.2, fun c => absurd q2.1.symm c⟩

set_option maxHeartbeats 8000000 in
set_option maxRecDepth 8000 in
theorem lc_2 {X : Int × (Int → Int)} {d : Nat} (hd : 40 ≤ d) (hX : xX X) (i : Int) (hi : 2 ≤ i ∧ i + 7 ≤ X.1) (H : XH) (h : InvZ H) (hN : ∀ H1, InvZ H1 → xkq X d 265 (fun r _ _ => r = 1) 1536 [(0, (4, 0)), (1, (2, 0)), (2, (2, 67)), (3, (0, i))] [] xKL H1) : xkq X d 265 (fun r _ _ => r = 1) 328 [(0, (4, 0)), (1, (2, 0)), (2, (2, 67)), (3, (0, i))] [] xKL H := by
  have hx := hX.2.1
  show xkq X d 265 (fun r _ _ => r = 1) 328 [(0, (4, 0)), (1, (2, 0)), (2, (2, 67)), (3, (0, i))] [] xKL H
  refine xkq_run [350, 372, 1536] 300 ?_
  show (xI (i + 1)) ∧ ((0 : Int) ≤ i + 1 ∧ (i + 1 : Int) < X.1) ∧ (xI (i + 2)) ∧ ((0 : Int) ≤ i + 2 ∧ (i + 2 : Int) < X.1) ∧ ((X.2 (i + 2) = 0) → xWM (xE X) xMC d 29 [(2, 0), (0, X.2 (i + 1)), (0, 0)] xKZ H _) ∧ (¬ (X.2 (i + 2) = 0) → xWM (xE X) xMC d 29 [(2, 0), (0, X.2 (i + 1)), (0, 1)] xKZ H _)
  refine ⟨(by unfold xI; omega), ?_⟩
  refine ⟨⟨by omega, by omega⟩, ?_⟩
  refine ⟨(by unfold xI; omega), ?_⟩
  refine ⟨⟨by omega, by omega⟩, ?_⟩
  refine ⟨fun c1 => ?_, fun c1 => ?_⟩
  · skip
    refine xc_in (xc_mono (fun r2 H2 q2 => ?_) (a_bar hd (X.2 (i + 1)) 0 H (Or.inl rfl) h))
    show xkq X d 265 (fun r _ _ => r = 1) 350 [(0, (4, 0)), (1, (2, 0)), (2, (2, 67)), (3, (0, i))] [(0, r2)] xKL H2
    refine xkq_run [350, 372, 1536] 300 ?_
    show (xI (i + 1)) ∧ ((0 : Int) ≤ i + 1 ∧ (i + 1 : Int) < X.1) ∧ (xI (i + 2)) ∧ ((0 : Int) ≤ i + 2 ∧ (i + 2 : Int) < X.1) ∧ ((X.2 (i + 2) = 0) → xWM (xE X) xMC d 30 [(2, 67), (0, X.2 (i + 1)), (0, 0)] xKZ H2 _) ∧ (¬ (X.2 (i + 2) = 0) → xWM (xE X) xMC d 30 [(2, 67), (0, X.2 (i + 1)), (0, 1)] xKZ H2 _)
    refine ⟨(by unfold xI; omega), ?_⟩
    refine ⟨⟨by omega, by omega⟩, ?_⟩
    refine ⟨(by unfold xI; omega), ?_⟩
    refine ⟨⟨by omega, by omega⟩, ?_⟩
    refine ⟨fun _ => ?_, fun c => absurd c1 c⟩
    refine xc_in (xc_mono (fun r4 H4 q4 => ?_) q2)
    show xkq X d 265 (fun r _ _ => r = 1) 372 [(0, (4, 0)), (1, (2, 0)), (2, (2, 67)), (3, (0, i))] [(0, r4), (0, r2)] xKL H4
    refine xkq_run [350, 372, 1536] 300 ?_
    show ((r2 = r4) → xkq X d 265 (fun r _ _ => r = 1) 1536 [(0, (4, 0)), (1, (2, 0)), (2, (2, 67)), (3, (0, i))] [] xKL H4) ∧ (¬ (r2 = r4) → xfR 3 0 ∧ (0 : Int) = 1)
    exact ⟨fun _ => hN _ q4.2, fun c => absurd q4.1.symm c⟩
  · skip
    refine xc_in (xc_mono (fun r5 H5 q5 => ?_) (a_bar hd (X.2 (i + 1)) 1 H (Or.inr rfl) h))
    show xkq X d 265 (fun r _ _ => r = 1) 350 [(0, (4, 0)), (1, (2, 0)), (2, (2, 67)), (3, (0, i))] [(0, r5)] xKL H5
    refine xkq_run [350, 372, 1536] 300 ?_
    show (xI (i + 1)) ∧ ((0 : Int) ≤ i + 1 ∧ (i + 1 : Int) < X.1) ∧ (xI (i + 2)) ∧ ((0 : Int) ≤ i + 2 ∧ (i + 2 : Int) < X.1) ∧ ((X.2 (i + 2) = 0) → xWM (xE X) xMC d 30 [(2, 67), (0, X.2 (i + 1)), (0, 0)] xKZ H5 _) ∧ (¬ (X.2 (i + 2) = 0) → xWM (xE X) xMC d 30 [(2, 67), (0, X.2 (i + 1)), (0, 1)] xKZ H5 _)
    refine ⟨(by unfold xI; omega), ?_⟩
    refine ⟨⟨by omega, by omega⟩, ?_⟩
    refine ⟨(by unfold xI; omega), ?_⟩
    refine ⟨⟨by omega, by omega⟩, ?_⟩
    refine ⟨fun c => absurd c c1, fun _ => ?_⟩
    refine xc_in (xc_mono (fun r7 H7 q7 => ?_) q5)
    show xkq X d 265 (fun r _ _ => r = 1) 372 [(0, (4, 0)), (1, (2, 0)), (2, (2, 67)), (3, (0, i))] [(0, r7), (0, r5)] xKL H7
    refine xkq_run [350, 372, 1536] 300 ?_
    show ((r5 = r7) → xkq X d 265 (fun r _ _ => r = 1) 1536 [(0, (4, 0)), (1, (2, 0)), (2, (2, 67)), (3, (0, i))] [] xKL H7) ∧ (¬ (r5 = r7) → xfR 3 0 ∧ (0 : Int) = 1)
    exact ⟨fun _ => hN _ q7.2, fun c => absurd q7.1.symm c⟩

set_option maxHeartbeats 8000000 in
set_option maxRecDepth 8000 in
theorem lc_3 {X : Int × (Int → Int)} {d : Nat} (hd : 40 ≤ d) (hX : xX X) (i : Int) (hi : 2 ≤ i ∧ i + 7 ≤ X.1) (H : XH) (h : InvZ H) (hN : ∀ H1, InvZ H1 → xkq X d 265 (fun r _ _ => r = 1) 1536 [(0, (4, 0)), (1, (2, 0)), (2, (2, 67)), (3, (0, i))] [] xKL H1) : xkq X d 265 (fun r _ _ => r = 1) 377 [(0, (4, 0)), (1, (2, 0)), (2, (2, 67)), (3, (0, i))] [] xKL H := by
  have hx := hX.2.1
  show xkq X d 265 (fun r _ _ => r = 1) 377 [(0, (4, 0)), (1, (2, 0)), (2, (2, 67)), (3, (0, i))] [] xKL H
  refine xkq_run [391, 405, 1536] 300 ?_
  show (xI (i + 1)) ∧ ((0 : Int) ≤ i + 1 ∧ (i + 1 : Int) < X.1) ∧ (xI (i + 2)) ∧ ((0 : Int) ≤ i + 2 ∧ (i + 2 : Int) < X.1) ∧ xWM (xE X) xMC d 38 [(2, 0), (0, X.2 (i + 1)), (0, X.2 (i + 2))] xKZ H _
  refine ⟨(by unfold xI; omega), ?_⟩
  refine ⟨⟨by omega, by omega⟩, ?_⟩
  refine ⟨(by unfold xI; omega), ?_⟩
  refine ⟨⟨by omega, by omega⟩, ?_⟩
  refine xc_in (xc_mono (fun r1 H1 q1 => ?_) (a_soil hd (X.2 (i + 1)) (X.2 (i + 2)) H  h))
  show xkq X d 265 (fun r _ _ => r = 1) 391 [(0, (4, 0)), (1, (2, 0)), (2, (2, 67)), (3, (0, i))] [(0, r1)] xKL H1
  refine xkq_run [391, 405, 1536] 300 ?_
  show (xI (i + 1)) ∧ ((0 : Int) ≤ i + 1 ∧ (i + 1 : Int) < X.1) ∧ (xI (i + 2)) ∧ ((0 : Int) ≤ i + 2 ∧ (i + 2 : Int) < X.1) ∧ xWM (xE X) xMC d 44 [(2, 67), (0, X.2 (i + 1)), (0, X.2 (i + 2))] xKZ H1 _
  refine ⟨(by unfold xI; omega), ?_⟩
  refine ⟨⟨by omega, by omega⟩, ?_⟩
  refine ⟨(by unfold xI; omega), ?_⟩
  refine ⟨⟨by omega, by omega⟩, ?_⟩
  refine xc_in (xc_mono (fun r2 H2 q2 => ?_) q1)
  show xkq X d 265 (fun r _ _ => r = 1) 405 [(0, (4, 0)), (1, (2, 0)), (2, (2, 67)), (3, (0, i))] [(0, r2), (0, r1)] xKL H2
  refine xkq_run [391, 405, 1536] 300 ?_
  show ((r1 = r2) → xkq X d 265 (fun r _ _ => r = 1) 1536 [(0, (4, 0)), (1, (2, 0)), (2, (2, 67)), (3, (0, i))] [] xKL H2) ∧ (¬ (r1 = r2) → xfR 3 0 ∧ (0 : Int) = 1)
  exact ⟨fun _ => hN _ q2.2, fun c => absurd q2.1.symm c⟩

set_option maxHeartbeats 8000000 in
set_option maxRecDepth 8000 in
theorem lc_4 {X : Int × (Int → Int)} {d : Nat} (hd : 40 ≤ d) (hX : xX X) (i : Int) (hi : 2 ≤ i ∧ i + 7 ≤ X.1) (H : XH) (h : InvZ H) (hN : ∀ H1, InvZ H1 → xkq X d 265 (fun r _ _ => r = 1) 1536 [(0, (4, 0)), (1, (2, 0)), (2, (2, 67)), (3, (0, i))] [] xKL H1) : xkq X d 265 (fun r _ _ => r = 1) 410 [(0, (4, 0)), (1, (2, 0)), (2, (2, 67)), (3, (0, i))] [] xKL H := by
  have hx := hX.2.1
  show xkq X d 265 (fun r _ _ => r = 1) 410 [(0, (4, 0)), (1, (2, 0)), (2, (2, 67)), (3, (0, i))] [] xKL H
  refine xkq_run [437, 464, 1536] 300 ?_
  show (xI (i + 1)) ∧ ((0 : Int) ≤ i + 1 ∧ (i + 1 : Int) < X.1) ∧ (xI (i + 2)) ∧ ((0 : Int) ≤ i + 2 ∧ (i + 2 : Int) < X.1) ∧ (xI (i + 3)) ∧ ((0 : Int) ≤ i + 3 ∧ (i + 3 : Int) < X.1) ∧ ((X.2 (i + 3) = 0) → xWM (xE X) xMC d 47 [(2, 0), (0, X.2 (i + 1)), (0, X.2 (i + 2)), (0, 0)] xKZ H _) ∧ (¬ (X.2 (i + 3) = 0) → xWM (xE X) xMC d 47 [(2, 0), (0, X.2 (i + 1)), (0, X.2 (i + 2)), (0, 1)] xKZ H _)
  refine ⟨(by unfold xI; omega), ?_⟩
  refine ⟨⟨by omega, by omega⟩, ?_⟩
  refine ⟨(by unfold xI; omega), ?_⟩
  refine ⟨⟨by omega, by omega⟩, ?_⟩
  refine ⟨(by unfold xI; omega), ?_⟩
  refine ⟨⟨by omega, by omega⟩, ?_⟩
  refine ⟨fun c1 => ?_, fun c1 => ?_⟩
  · skip
    refine xc_in (xc_mono (fun r2 H2 q2 => ?_) (a_span hd (X.2 (i + 1)) (X.2 (i + 2)) 0 H  h))
    show xkq X d 265 (fun r _ _ => r = 1) 437 [(0, (4, 0)), (1, (2, 0)), (2, (2, 67)), (3, (0, i))] [(0, r2)] xKL H2
    refine xkq_run [437, 464, 1536] 300 ?_
    show (xI (i + 1)) ∧ ((0 : Int) ≤ i + 1 ∧ (i + 1 : Int) < X.1) ∧ (xI (i + 2)) ∧ ((0 : Int) ≤ i + 2 ∧ (i + 2 : Int) < X.1) ∧ (xI (i + 3)) ∧ ((0 : Int) ≤ i + 3 ∧ (i + 3 : Int) < X.1) ∧ ((X.2 (i + 3) = 0) → xWM (xE X) xMC d 48 [(2, 67), (0, X.2 (i + 1)), (0, X.2 (i + 2)), (0, 0)] xKZ H2 _) ∧ (¬ (X.2 (i + 3) = 0) → xWM (xE X) xMC d 48 [(2, 67), (0, X.2 (i + 1)), (0, X.2 (i + 2)), (0, 1)] xKZ H2 _)
    refine ⟨(by unfold xI; omega), ?_⟩
    refine ⟨⟨by omega, by omega⟩, ?_⟩
    refine ⟨(by unfold xI; omega), ?_⟩
    refine ⟨⟨by omega, by omega⟩, ?_⟩
    refine ⟨(by unfold xI; omega), ?_⟩
    refine ⟨⟨by omega, by omega⟩, ?_⟩
    refine ⟨fun _ => ?_, fun c => absurd c1 c⟩
    refine xc_in (xc_mono (fun r4 H4 q4 => ?_) q2)
    show xkq X d 265 (fun r _ _ => r = 1) 464 [(0, (4, 0)), (1, (2, 0)), (2, (2, 67)), (3, (0, i))] [(0, r4), (0, r2)] xKL H4
    refine xkq_run [437, 464, 1536] 300 ?_
    show ((r2 = r4) → xkq X d 265 (fun r _ _ => r = 1) 1536 [(0, (4, 0)), (1, (2, 0)), (2, (2, 67)), (3, (0, i))] [] xKL H4) ∧ (¬ (r2 = r4) → xfR 3 0 ∧ (0 : Int) = 1)
    exact ⟨fun _ => hN _ q4.2, fun c => absurd q4.1.symm c⟩
  · skip
    refine xc_in (xc_mono (fun r5 H5 q5 => ?_) (a_span hd (X.2 (i + 1)) (X.2 (i + 2)) 1 H  h))
    show xkq X d 265 (fun r _ _ => r = 1) 437 [(0, (4, 0)), (1, (2, 0)), (2, (2, 67)), (3, (0, i))] [(0, r5)] xKL H5
    refine xkq_run [437, 464, 1536] 300 ?_
    show (xI (i + 1)) ∧ ((0 : Int) ≤ i + 1 ∧ (i + 1 : Int) < X.1) ∧ (xI (i + 2)) ∧ ((0 : Int) ≤ i + 2 ∧ (i + 2 : Int) < X.1) ∧ (xI (i + 3)) ∧ ((0 : Int) ≤ i + 3 ∧ (i + 3 : Int) < X.1) ∧ ((X.2 (i + 3) = 0) → xWM (xE X) xMC d 48 [(2, 67), (0, X.2 (i + 1)), (0, X.2 (i + 2)), (0, 0)] xKZ H5 _) ∧ (¬ (X.2 (i + 3) = 0) → xWM (xE X) xMC d 48 [(2, 67), (0, X.2 (i + 1)), (0, X.2 (i + 2)), (0, 1)] xKZ H5 _)
    refine ⟨(by unfold xI; omega), ?_⟩
    refine ⟨⟨by omega, by omega⟩, ?_⟩
    refine ⟨(by unfold xI; omega), ?_⟩
    refine ⟨⟨by omega, by omega⟩, ?_⟩
    refine ⟨(by unfold xI; omega), ?_⟩
    refine ⟨⟨by omega, by omega⟩, ?_⟩
    refine ⟨fun c => absurd c c1, fun _ => ?_⟩
    refine xc_in (xc_mono (fun r7 H7 q7 => ?_) q5)
    show xkq X d 265 (fun r _ _ => r = 1) 464 [(0, (4, 0)), (1, (2, 0)), (2, (2, 67)), (3, (0, i))] [(0, r7), (0, r5)] xKL H7
    refine xkq_run [437, 464, 1536] 300 ?_
    show ((r5 = r7) → xkq X d 265 (fun r _ _ => r = 1) 1536 [(0, (4, 0)), (1, (2, 0)), (2, (2, 67)), (3, (0, i))] [] xKL H7) ∧ (¬ (r5 = r7) → xfR 3 0 ∧ (0 : Int) = 1)
    exact ⟨fun _ => hN _ q7.2, fun c => absurd q7.1.symm c⟩

set_option maxHeartbeats 8000000 in
set_option maxRecDepth 8000 in
theorem lc_5 {X : Int × (Int → Int)} {d : Nat} (hd : 40 ≤ d) (hX : xX X) (i : Int) (hi : 2 ≤ i ∧ i + 7 ≤ X.1) (H : XH) (h : InvZ H) (hN : ∀ H1, InvZ H1 → xkq X d 265 (fun r _ _ => r = 1) 1536 [(0, (4, 0)), (1, (2, 0)), (2, (2, 67)), (3, (0, i))] [] xKL H1) : xkq X d 265 (fun r _ _ => r = 1) 469 [(0, (4, 0)), (1, (2, 0)), (2, (2, 67)), (3, (0, i))] [] xKL H := by
  have hx := hX.2.1
  show xkq X d 265 (fun r _ _ => r = 1) 469 [(0, (4, 0)), (1, (2, 0)), (2, (2, 67)), (3, (0, i))] [] xKL H
  refine xkq_run [498, 527, 1536] 300 ?_
  show (xI (i + 1)) ∧ ((0 : Int) ≤ i + 1 ∧ (i + 1 : Int) < X.1) ∧ (xI (i + 2)) ∧ ((0 : Int) ≤ i + 2 ∧ (i + 2 : Int) < X.1) ∧ (xI (i + 3)) ∧ ((0 : Int) ≤ i + 3 ∧ (i + 3 : Int) < X.1) ∧ (xI (i + 4)) ∧ ((0 : Int) ≤ i + 4 ∧ (i + 4 : Int) < X.1) ∧ (xI (i + 5)) ∧ ((0 : Int) ≤ i + 5 ∧ (i + 5 : Int) < X.1) ∧ xWM (xE X) xMC d 52 [(2, 0), (0, X.2 (i + 1)), (0, X.2 (i + 2)), (0, X.2 (i + 3)), (0, X.2 (i + 4)), (0, X.2 (i + 5))] xKZ H _
  refine ⟨(by unfold xI; omega), ?_⟩
  refine ⟨⟨by omega, by omega⟩, ?_⟩
  refine ⟨(by unfold xI; omega), ?_⟩
  refine ⟨⟨by omega, by omega⟩, ?_⟩
  refine ⟨(by unfold xI; omega), ?_⟩
  refine ⟨⟨by omega, by omega⟩, ?_⟩
  refine ⟨(by unfold xI; omega), ?_⟩
  refine ⟨⟨by omega, by omega⟩, ?_⟩
  refine ⟨(by unfold xI; omega), ?_⟩
  refine ⟨⟨by omega, by omega⟩, ?_⟩
  refine xc_in (xc_mono (fun r1 H1 q1 => ?_) (a_layer hd (X.2 (i + 1)) (X.2 (i + 2)) (X.2 (i + 3)) (X.2 (i + 4)) (X.2 (i + 5)) H  h))
  show xkq X d 265 (fun r _ _ => r = 1) 498 [(0, (4, 0)), (1, (2, 0)), (2, (2, 67)), (3, (0, i))] [(0, r1)] xKL H1
  refine xkq_run [498, 527, 1536] 300 ?_
  show (xI (i + 1)) ∧ ((0 : Int) ≤ i + 1 ∧ (i + 1 : Int) < X.1) ∧ (xI (i + 2)) ∧ ((0 : Int) ≤ i + 2 ∧ (i + 2 : Int) < X.1) ∧ (xI (i + 3)) ∧ ((0 : Int) ≤ i + 3 ∧ (i + 3 : Int) < X.1) ∧ (xI (i + 4)) ∧ ((0 : Int) ≤ i + 4 ∧ (i + 4 : Int) < X.1) ∧ (xI (i + 5)) ∧ ((0 : Int) ≤ i + 5 ∧ (i + 5 : Int) < X.1) ∧ xWM (xE X) xMC d 53 [(2, 67), (0, X.2 (i + 1)), (0, X.2 (i + 2)), (0, X.2 (i + 3)), (0, X.2 (i + 4)), (0, X.2 (i + 5))] xKZ H1 _
  refine ⟨(by unfold xI; omega), ?_⟩
  refine ⟨⟨by omega, by omega⟩, ?_⟩
  refine ⟨(by unfold xI; omega), ?_⟩
  refine ⟨⟨by omega, by omega⟩, ?_⟩
  refine ⟨(by unfold xI; omega), ?_⟩
  refine ⟨⟨by omega, by omega⟩, ?_⟩
  refine ⟨(by unfold xI; omega), ?_⟩
  refine ⟨⟨by omega, by omega⟩, ?_⟩
  refine ⟨(by unfold xI; omega), ?_⟩
  refine ⟨⟨by omega, by omega⟩, ?_⟩
  refine xc_in (xc_mono (fun r2 H2 q2 => ?_) q1)
  show xkq X d 265 (fun r _ _ => r = 1) 527 [(0, (4, 0)), (1, (2, 0)), (2, (2, 67)), (3, (0, i))] [(0, r2), (0, r1)] xKL H2
  refine xkq_run [498, 527, 1536] 300 ?_
  show ((r1 = r2) → xkq X d 265 (fun r _ _ => r = 1) 1536 [(0, (4, 0)), (1, (2, 0)), (2, (2, 67)), (3, (0, i))] [] xKL H2) ∧ (¬ (r1 = r2) → xfR 3 0 ∧ (0 : Int) = 1)
  exact ⟨fun _ => hN _ q2.2, fun c => absurd q2.1.symm c⟩

set_option maxHeartbeats 8000000 in
set_option maxRecDepth 8000 in
theorem lc_6 {X : Int × (Int → Int)} {d : Nat} (hd : 40 ≤ d) (hX : xX X) (i : Int) (hi : 2 ≤ i ∧ i + 7 ≤ X.1) (H : XH) (h : InvZ H) (hN : ∀ H1, InvZ H1 → xkq X d 265 (fun r _ _ => r = 1) 1536 [(0, (4, 0)), (1, (2, 0)), (2, (2, 67)), (3, (0, i))] [] xKL H1) : xkq X d 265 (fun r _ _ => r = 1) 532 [(0, (4, 0)), (1, (2, 0)), (2, (2, 67)), (3, (0, i))] [] xKL H := by
  have hx := hX.2.1
  show xkq X d 265 (fun r _ _ => r = 1) 532 [(0, (4, 0)), (1, (2, 0)), (2, (2, 67)), (3, (0, i))] [] xKL H
  refine xkq_run [536, 540, 1536] 300 ?_
  show xWM (xE X) xMC d 54 [(2, 0)] xKZ H _
  refine xc_in (xc_mono (fun r1 H1 q1 => ?_) (a_clean hd  H  h))
  show xkq X d 265 (fun r _ _ => r = 1) 536 [(0, (4, 0)), (1, (2, 0)), (2, (2, 67)), (3, (0, i))] [(0, r1)] xKL H1
  refine xkq_run [536, 540, 1536] 300 ?_
  show xWM (xE X) xMC d 55 [(2, 67)] xKZ H1 _
  refine xc_in (xc_mono (fun r2 H2 q2 => ?_) q1)
  show xkq X d 265 (fun r _ _ => r = 1) 540 [(0, (4, 0)), (1, (2, 0)), (2, (2, 67)), (3, (0, i))] [(0, r2), (0, r1)] xKL H2
  refine xkq_run [536, 540, 1536] 300 ?_
  show ((r1 = r2) → xkq X d 265 (fun r _ _ => r = 1) 1536 [(0, (4, 0)), (1, (2, 0)), (2, (2, 67)), (3, (0, i))] [] xKL H2) ∧ (¬ (r1 = r2) → xfR 3 0 ∧ (0 : Int) = 1)
  exact ⟨fun _ => hN _ q2.2, fun c => absurd q2.1.symm c⟩

set_option maxHeartbeats 8000000 in
set_option maxRecDepth 8000 in
theorem lc_7 {X : Int × (Int → Int)} {d : Nat} (hd : 40 ≤ d) (hX : xX X) (i : Int) (hi : 2 ≤ i ∧ i + 7 ≤ X.1) (H : XH) (h : InvZ H) (hN : ∀ H1, InvZ H1 → xkq X d 265 (fun r _ _ => r = 1) 1536 [(0, (4, 0)), (1, (2, 0)), (2, (2, 67)), (3, (0, i))] [] xKL H1) : xkq X d 265 (fun r _ _ => r = 1) 545 [(0, (4, 0)), (1, (2, 0)), (2, (2, 67)), (3, (0, i))] [] xKL H := by
  have hx := hX.2.1
  show xkq X d 265 (fun r _ _ => r = 1) 545 [(0, (4, 0)), (1, (2, 0)), (2, (2, 67)), (3, (0, i))] [] xKL H
  refine xkq_run [574, 603, 1536] 300 ?_
  show (xI (i + 1)) ∧ ((0 : Int) ≤ i + 1 ∧ (i + 1 : Int) < X.1) ∧ (xI (i + 2)) ∧ ((0 : Int) ≤ i + 2 ∧ (i + 2 : Int) < X.1) ∧ (xI (i + 3)) ∧ ((0 : Int) ≤ i + 3 ∧ (i + 3 : Int) < X.1) ∧ (xI (i + 4)) ∧ ((0 : Int) ≤ i + 4 ∧ (i + 4 : Int) < X.1) ∧ (xI (i + 5)) ∧ ((0 : Int) ≤ i + 5 ∧ (i + 5 : Int) < X.1) ∧ xWM (xE X) xMC d 56 [(2, 0), (0, X.2 (i + 1)), (0, X.2 (i + 2)), (0, X.2 (i + 3)), (0, X.2 (i + 4)), (0, X.2 (i + 5))] xKZ H _
  refine ⟨(by unfold xI; omega), ?_⟩
  refine ⟨⟨by omega, by omega⟩, ?_⟩
  refine ⟨(by unfold xI; omega), ?_⟩
  refine ⟨⟨by omega, by omega⟩, ?_⟩
  refine ⟨(by unfold xI; omega), ?_⟩
  refine ⟨⟨by omega, by omega⟩, ?_⟩
  refine ⟨(by unfold xI; omega), ?_⟩
  refine ⟨⟨by omega, by omega⟩, ?_⟩
  refine ⟨(by unfold xI; omega), ?_⟩
  refine ⟨⟨by omega, by omega⟩, ?_⟩
  refine xc_in (xc_mono (fun r1 H1 q1 => ?_) (a_rules hd (X.2 (i + 1)) (X.2 (i + 2)) (X.2 (i + 3)) (X.2 (i + 4)) (X.2 (i + 5)) H  h))
  show xkq X d 265 (fun r _ _ => r = 1) 574 [(0, (4, 0)), (1, (2, 0)), (2, (2, 67)), (3, (0, i))] [(0, r1)] xKL H1
  refine xkq_run [574, 603, 1536] 300 ?_
  show (xI (i + 1)) ∧ ((0 : Int) ≤ i + 1 ∧ (i + 1 : Int) < X.1) ∧ (xI (i + 2)) ∧ ((0 : Int) ≤ i + 2 ∧ (i + 2 : Int) < X.1) ∧ (xI (i + 3)) ∧ ((0 : Int) ≤ i + 3 ∧ (i + 3 : Int) < X.1) ∧ (xI (i + 4)) ∧ ((0 : Int) ≤ i + 4 ∧ (i + 4 : Int) < X.1) ∧ (xI (i + 5)) ∧ ((0 : Int) ≤ i + 5 ∧ (i + 5 : Int) < X.1) ∧ xWM (xE X) xMC d 57 [(2, 67), (0, X.2 (i + 1)), (0, X.2 (i + 2)), (0, X.2 (i + 3)), (0, X.2 (i + 4)), (0, X.2 (i + 5))] xKZ H1 _
  refine ⟨(by unfold xI; omega), ?_⟩
  refine ⟨⟨by omega, by omega⟩, ?_⟩
  refine ⟨(by unfold xI; omega), ?_⟩
  refine ⟨⟨by omega, by omega⟩, ?_⟩
  refine ⟨(by unfold xI; omega), ?_⟩
  refine ⟨⟨by omega, by omega⟩, ?_⟩
  refine ⟨(by unfold xI; omega), ?_⟩
  refine ⟨⟨by omega, by omega⟩, ?_⟩
  refine ⟨(by unfold xI; omega), ?_⟩
  refine ⟨⟨by omega, by omega⟩, ?_⟩
  refine xc_in (xc_mono (fun r2 H2 q2 => ?_) q1)
  show xkq X d 265 (fun r _ _ => r = 1) 603 [(0, (4, 0)), (1, (2, 0)), (2, (2, 67)), (3, (0, i))] [(0, r2), (0, r1)] xKL H2
  refine xkq_run [574, 603, 1536] 300 ?_
  show ((r1 = r2) → xkq X d 265 (fun r _ _ => r = 1) 1536 [(0, (4, 0)), (1, (2, 0)), (2, (2, 67)), (3, (0, i))] [] xKL H2) ∧ (¬ (r1 = r2) → xfR 3 0 ∧ (0 : Int) = 1)
  exact ⟨fun _ => hN _ q2.2, fun c => absurd q2.1.symm c⟩

set_option maxHeartbeats 8000000 in
set_option maxRecDepth 8000 in
theorem lc_8 {X : Int × (Int → Int)} {d : Nat} (hd : 40 ≤ d) (hX : xX X) (i : Int) (hi : 2 ≤ i ∧ i + 7 ≤ X.1) (H : XH) (h : InvZ H) (hN : ∀ H1, InvZ H1 → xkq X d 265 (fun r _ _ => r = 1) 1536 [(0, (4, 0)), (1, (2, 0)), (2, (2, 67)), (3, (0, i))] [] xKL H1) : xkq X d 265 (fun r _ _ => r = 1) 608 [(0, (4, 0)), (1, (2, 0)), (2, (2, 67)), (3, (0, i))] [] xKL H := by
  have hx := hX.2.1
  show xkq X d 265 (fun r _ _ => r = 1) 608 [(0, (4, 0)), (1, (2, 0)), (2, (2, 67)), (3, (0, i))] [] xKL H
  refine xkq_run [622, 636, 1536] 300 ?_
  show (xI (i + 1)) ∧ ((0 : Int) ≤ i + 1 ∧ (i + 1 : Int) < X.1) ∧ (xI (i + 2)) ∧ ((0 : Int) ≤ i + 2 ∧ (i + 2 : Int) < X.1) ∧ xWM (xE X) xMC d 62 [(2, 0), (0, X.2 (i + 1)), (0, X.2 (i + 2))] xKZ H _
  refine ⟨(by unfold xI; omega), ?_⟩
  refine ⟨⟨by omega, by omega⟩, ?_⟩
  refine ⟨(by unfold xI; omega), ?_⟩
  refine ⟨⟨by omega, by omega⟩, ?_⟩
  refine xc_in (xc_mono (fun r1 H1 q1 => ?_) (a_far hd (X.2 (i + 1)) (X.2 (i + 2)) H  h))
  show xkq X d 265 (fun r _ _ => r = 1) 622 [(0, (4, 0)), (1, (2, 0)), (2, (2, 67)), (3, (0, i))] [(0, r1)] xKL H1
  refine xkq_run [622, 636, 1536] 300 ?_
  show (xI (i + 1)) ∧ ((0 : Int) ≤ i + 1 ∧ (i + 1 : Int) < X.1) ∧ (xI (i + 2)) ∧ ((0 : Int) ≤ i + 2 ∧ (i + 2 : Int) < X.1) ∧ xWM (xE X) xMC d 67 [(2, 67), (0, X.2 (i + 1)), (0, X.2 (i + 2))] xKZ H1 _
  refine ⟨(by unfold xI; omega), ?_⟩
  refine ⟨⟨by omega, by omega⟩, ?_⟩
  refine ⟨(by unfold xI; omega), ?_⟩
  refine ⟨⟨by omega, by omega⟩, ?_⟩
  refine xc_in (xc_mono (fun r2 H2 q2 => ?_) q1)
  show xkq X d 265 (fun r _ _ => r = 1) 636 [(0, (4, 0)), (1, (2, 0)), (2, (2, 67)), (3, (0, i))] [(0, r2), (0, r1)] xKL H2
  refine xkq_run [622, 636, 1536] 300 ?_
  show ((r1 = r2) → xkq X d 265 (fun r _ _ => r = 1) 1536 [(0, (4, 0)), (1, (2, 0)), (2, (2, 67)), (3, (0, i))] [] xKL H2) ∧ (¬ (r1 = r2) → xfR 3 0 ∧ (0 : Int) = 1)
  exact ⟨fun _ => hN _ q2.2, fun c => absurd q2.1.symm c⟩

set_option maxHeartbeats 8000000 in
set_option maxRecDepth 8000 in
theorem lc_9 {X : Int × (Int → Int)} {d : Nat} (hd : 40 ≤ d) (hX : xX X) (i : Int) (hi : 2 ≤ i ∧ i + 7 ≤ X.1) (H : XH) (h : InvZ H) (hN : ∀ H1, InvZ H1 → xkq X d 265 (fun r _ _ => r = 1) 1536 [(0, (4, 0)), (1, (2, 0)), (2, (2, 67)), (3, (0, i))] [] xKL H1) : xkq X d 265 (fun r _ _ => r = 1) 641 [(0, (4, 0)), (1, (2, 0)), (2, (2, 67)), (3, (0, i))] [] xKL H := by
  have hx := hX.2.1
  show xkq X d 265 (fun r _ _ => r = 1) 641 [(0, (4, 0)), (1, (2, 0)), (2, (2, 67)), (3, (0, i))] [] xKL H
  refine xkq_run [655, 669, 1536] 300 ?_
  show (xI (i + 1)) ∧ ((0 : Int) ≤ i + 1 ∧ (i + 1 : Int) < X.1) ∧ (xI (i + 2)) ∧ ((0 : Int) ≤ i + 2 ∧ (i + 2 : Int) < X.1) ∧ xWM (xE X) xMC d 72 [(2, 0), (0, X.2 (i + 1)), (0, X.2 (i + 2))] xKZ H _
  refine ⟨(by unfold xI; omega), ?_⟩
  refine ⟨⟨by omega, by omega⟩, ?_⟩
  refine ⟨(by unfold xI; omega), ?_⟩
  refine ⟨⟨by omega, by omega⟩, ?_⟩
  refine xc_in (xc_mono (fun r1 H1 q1 => ?_) (a_where hd (X.2 (i + 1)) (X.2 (i + 2)) H  h))
  show xkq X d 265 (fun r _ _ => r = 1) 655 [(0, (4, 0)), (1, (2, 0)), (2, (2, 67)), (3, (0, i))] [(0, r1)] xKL H1
  refine xkq_run [655, 669, 1536] 300 ?_
  show (xI (i + 1)) ∧ ((0 : Int) ≤ i + 1 ∧ (i + 1 : Int) < X.1) ∧ (xI (i + 2)) ∧ ((0 : Int) ≤ i + 2 ∧ (i + 2 : Int) < X.1) ∧ xWM (xE X) xMC d 74 [(2, 67), (0, X.2 (i + 1)), (0, X.2 (i + 2))] xKZ H1 _
  refine ⟨(by unfold xI; omega), ?_⟩
  refine ⟨⟨by omega, by omega⟩, ?_⟩
  refine ⟨(by unfold xI; omega), ?_⟩
  refine ⟨⟨by omega, by omega⟩, ?_⟩
  refine xc_in (xc_mono (fun r2 H2 q2 => ?_) q1)
  show xkq X d 265 (fun r _ _ => r = 1) 669 [(0, (4, 0)), (1, (2, 0)), (2, (2, 67)), (3, (0, i))] [(0, r2), (0, r1)] xKL H2
  refine xkq_run [655, 669, 1536] 300 ?_
  show ((r1 = r2) → xkq X d 265 (fun r _ _ => r = 1) 1536 [(0, (4, 0)), (1, (2, 0)), (2, (2, 67)), (3, (0, i))] [] xKL H2) ∧ (¬ (r1 = r2) → xfR 3 0 ∧ (0 : Int) = 1)
  exact ⟨fun _ => hN _ q2.2, fun c => absurd q2.1.symm c⟩

set_option maxHeartbeats 8000000 in
set_option maxRecDepth 8000 in
theorem lc_10 {X : Int × (Int → Int)} {d : Nat} (hd : 40 ≤ d) (hX : xX X) (i : Int) (hi : 2 ≤ i ∧ i + 7 ≤ X.1) (H : XH) (h : InvZ H) (hN : ∀ H1, InvZ H1 → xkq X d 265 (fun r _ _ => r = 1) 1536 [(0, (4, 0)), (1, (2, 0)), (2, (2, 67)), (3, (0, i))] [] xKL H1) : xkq X d 265 (fun r _ _ => r = 1) 674 [(0, (4, 0)), (1, (2, 0)), (2, (2, 67)), (3, (0, i))] [] xKL H := by
  have hx := hX.2.1
  show xkq X d 265 (fun r _ _ => r = 1) 674 [(0, (4, 0)), (1, (2, 0)), (2, (2, 67)), (3, (0, i))] [] xKL H
  refine xkq_run [688, 702, 1536] 300 ?_
  show (xI (i + 1)) ∧ ((0 : Int) ≤ i + 1 ∧ (i + 1 : Int) < X.1) ∧ (xI (i + 2)) ∧ ((0 : Int) ≤ i + 2 ∧ (i + 2 : Int) < X.1) ∧ xWM (xE X) xMC d 76 [(2, 0), (0, X.2 (i + 1)), (0, X.2 (i + 2))] xKZ H _
  refine ⟨(by unfold xI; omega), ?_⟩
  refine ⟨⟨by omega, by omega⟩, ?_⟩
  refine ⟨(by unfold xI; omega), ?_⟩
  refine ⟨⟨by omega, by omega⟩, ?_⟩
  refine xc_in (xc_mono (fun r1 H1 q1 => ?_) (a_odds hd (X.2 (i + 1)) (X.2 (i + 2)) H  h))
  show xkq X d 265 (fun r _ _ => r = 1) 688 [(0, (4, 0)), (1, (2, 0)), (2, (2, 67)), (3, (0, i))] [(0, r1)] xKL H1
  refine xkq_run [688, 702, 1536] 300 ?_
  show (xI (i + 1)) ∧ ((0 : Int) ≤ i + 1 ∧ (i + 1 : Int) < X.1) ∧ (xI (i + 2)) ∧ ((0 : Int) ≤ i + 2 ∧ (i + 2 : Int) < X.1) ∧ xWM (xE X) xMC d 77 [(2, 67), (0, X.2 (i + 1)), (0, X.2 (i + 2))] xKZ H1 _
  refine ⟨(by unfold xI; omega), ?_⟩
  refine ⟨⟨by omega, by omega⟩, ?_⟩
  refine ⟨(by unfold xI; omega), ?_⟩
  refine ⟨⟨by omega, by omega⟩, ?_⟩
  refine xc_in (xc_mono (fun r2 H2 q2 => ?_) q1)
  show xkq X d 265 (fun r _ _ => r = 1) 702 [(0, (4, 0)), (1, (2, 0)), (2, (2, 67)), (3, (0, i))] [(0, r2), (0, r1)] xKL H2
  refine xkq_run [688, 702, 1536] 300 ?_
  show ((r1 = r2) → xkq X d 265 (fun r _ _ => r = 1) 1536 [(0, (4, 0)), (1, (2, 0)), (2, (2, 67)), (3, (0, i))] [] xKL H2) ∧ (¬ (r1 = r2) → xfR 3 0 ∧ (0 : Int) = 1)
  exact ⟨fun _ => hN _ q2.2, fun c => absurd q2.1.symm c⟩

set_option maxHeartbeats 8000000 in
set_option maxRecDepth 8000 in
theorem lc_11 {X : Int × (Int → Int)} {d : Nat} (hd : 40 ≤ d) (hX : xX X) (i : Int) (hi : 2 ≤ i ∧ i + 7 ≤ X.1) (H : XH) (h : InvZ H) (hN : ∀ H1, InvZ H1 → xkq X d 265 (fun r _ _ => r = 1) 1536 [(0, (4, 0)), (1, (2, 0)), (2, (2, 67)), (3, (0, i))] [] xKL H1) : xkq X d 265 (fun r _ _ => r = 1) 707 [(0, (4, 0)), (1, (2, 0)), (2, (2, 67)), (3, (0, i))] [] xKL H := by
  have hx := hX.2.1
  show xkq X d 265 (fun r _ _ => r = 1) 707 [(0, (4, 0)), (1, (2, 0)), (2, (2, 67)), (3, (0, i))] [] xKL H
  refine xkq_run [721, 735, 1536] 300 ?_
  show (xI (i + 1)) ∧ ((0 : Int) ≤ i + 1 ∧ (i + 1 : Int) < X.1) ∧ (xI (i + 2)) ∧ ((0 : Int) ≤ i + 2 ∧ (i + 2 : Int) < X.1) ∧ xWM (xE X) xMC d 84 [(2, 0), (0, X.2 (i + 1)), (0, X.2 (i + 2))] xKZ H _
  refine ⟨(by unfold xI; omega), ?_⟩
  refine ⟨⟨by omega, by omega⟩, ?_⟩
  refine ⟨(by unfold xI; omega), ?_⟩
  refine ⟨⟨by omega, by omega⟩, ?_⟩
  refine xc_in (xc_mono (fun r1 H1 q1 => ?_) (a_parted hd (X.2 (i + 1)) (X.2 (i + 2)) H  h))
  show xkq X d 265 (fun r _ _ => r = 1) 721 [(0, (4, 0)), (1, (2, 0)), (2, (2, 67)), (3, (0, i))] [(0, r1)] xKL H1
  refine xkq_run [721, 735, 1536] 300 ?_
  show (xI (i + 1)) ∧ ((0 : Int) ≤ i + 1 ∧ (i + 1 : Int) < X.1) ∧ (xI (i + 2)) ∧ ((0 : Int) ≤ i + 2 ∧ (i + 2 : Int) < X.1) ∧ xWM (xE X) xMC d 86 [(2, 67), (0, X.2 (i + 1)), (0, X.2 (i + 2))] xKZ H1 _
  refine ⟨(by unfold xI; omega), ?_⟩
  refine ⟨⟨by omega, by omega⟩, ?_⟩
  refine ⟨(by unfold xI; omega), ?_⟩
  refine ⟨⟨by omega, by omega⟩, ?_⟩
  refine xc_in (xc_mono (fun r2 H2 q2 => ?_) q1)
  show xkq X d 265 (fun r _ _ => r = 1) 735 [(0, (4, 0)), (1, (2, 0)), (2, (2, 67)), (3, (0, i))] [(0, r2), (0, r1)] xKL H2
  refine xkq_run [721, 735, 1536] 300 ?_
  show ((r1 = r2) → xkq X d 265 (fun r _ _ => r = 1) 1536 [(0, (4, 0)), (1, (2, 0)), (2, (2, 67)), (3, (0, i))] [] xKL H2) ∧ (¬ (r1 = r2) → xfR 3 0 ∧ (0 : Int) = 1)
  exact ⟨fun _ => hN _ q2.2, fun c => absurd q2.1.symm c⟩

set_option maxHeartbeats 8000000 in
set_option maxRecDepth 8000 in
theorem lc_12 {X : Int × (Int → Int)} {d : Nat} (hd : 40 ≤ d) (hX : xX X) (i : Int) (hi : 2 ≤ i ∧ i + 7 ≤ X.1) (H : XH) (h : InvZ H) (hN : ∀ H1, InvZ H1 → xkq X d 265 (fun r _ _ => r = 1) 1536 [(0, (4, 0)), (1, (2, 0)), (2, (2, 67)), (3, (0, i))] [] xKL H1) : xkq X d 265 (fun r _ _ => r = 1) 740 [(0, (4, 0)), (1, (2, 0)), (2, (2, 67)), (3, (0, i))] [] xKL H := by
  have hx := hX.2.1
  show xkq X d 265 (fun r _ _ => r = 1) 740 [(0, (4, 0)), (1, (2, 0)), (2, (2, 67)), (3, (0, i))] [] xKL H
  refine xkq_run [749, 758, 1536] 300 ?_
  show (xI (i + 1)) ∧ ((0 : Int) ≤ i + 1 ∧ (i + 1 : Int) < X.1) ∧ xWM (xE X) xMC d 87 [(2, 0), (0, X.2 (i + 1))] xKZ H _
  refine ⟨(by unfold xI; omega), ?_⟩
  refine ⟨⟨by omega, by omega⟩, ?_⟩
  refine xc_in (xc_mono (fun r1 H1 q1 => ?_) (a_start hd (X.2 (i + 1)) H  h))
  show xkq X d 265 (fun r _ _ => r = 1) 749 [(0, (4, 0)), (1, (2, 0)), (2, (2, 67)), (3, (0, i))] [(0, r1)] xKL H1
  refine xkq_run [749, 758, 1536] 300 ?_
  show (xI (i + 1)) ∧ ((0 : Int) ≤ i + 1 ∧ (i + 1 : Int) < X.1) ∧ xWM (xE X) xMC d 88 [(2, 67), (0, X.2 (i + 1))] xKZ H1 _
  refine ⟨(by unfold xI; omega), ?_⟩
  refine ⟨⟨by omega, by omega⟩, ?_⟩
  refine xc_in (xc_mono (fun r2 H2 q2 => ?_) q1)
  show xkq X d 265 (fun r _ _ => r = 1) 758 [(0, (4, 0)), (1, (2, 0)), (2, (2, 67)), (3, (0, i))] [(0, r2), (0, r1)] xKL H2
  refine xkq_run [749, 758, 1536] 300 ?_
  show ((r1 = r2) → xkq X d 265 (fun r _ _ => r = 1) 1536 [(0, (4, 0)), (1, (2, 0)), (2, (2, 67)), (3, (0, i))] [] xKL H2) ∧ (¬ (r1 = r2) → xfR 3 0 ∧ (0 : Int) = 1)
  exact ⟨fun _ => hN _ q2.2, fun c => absurd q2.1.symm c⟩

set_option maxHeartbeats 8000000 in
set_option maxRecDepth 8000 in
theorem lc_13 {X : Int × (Int → Int)} {d : Nat} (hd : 40 ≤ d) (hX : xX X) (i : Int) (hi : 2 ≤ i ∧ i + 7 ≤ X.1) (H : XH) (h : InvZ H) (hN : ∀ H1, InvZ H1 → xkq X d 265 (fun r _ _ => r = 1) 1536 [(0, (4, 0)), (1, (2, 0)), (2, (2, 67)), (3, (0, i))] [] xKL H1) : xkq X d 265 (fun r _ _ => r = 1) 763 [(0, (4, 0)), (1, (2, 0)), (2, (2, 67)), (3, (0, i))] [] xKL H := by
  have hx := hX.2.1
  show xkq X d 265 (fun r _ _ => r = 1) 763 [(0, (4, 0)), (1, (2, 0)), (2, (2, 67)), (3, (0, i))] [] xKL H
  refine xkq_run [777, 791, 1536] 300 ?_
  show (xI (i + 1)) ∧ ((0 : Int) ≤ i + 1 ∧ (i + 1 : Int) < X.1) ∧ (xI (i + 2)) ∧ ((0 : Int) ≤ i + 2 ∧ (i + 2 : Int) < X.1) ∧ xWM (xE X) xMC d 92 [(2, 0), (0, X.2 (i + 1)), (0, X.2 (i + 2))] xKZ H _
  refine ⟨(by unfold xI; omega), ?_⟩
  refine ⟨⟨by omega, by omega⟩, ?_⟩
  refine ⟨(by unfold xI; omega), ?_⟩
  refine ⟨⟨by omega, by omega⟩, ?_⟩
  refine xc_in (xc_mono (fun r1 H1 q1 => ?_) (a_paces hd (X.2 (i + 1)) (X.2 (i + 2)) H  h))
  show xkq X d 265 (fun r _ _ => r = 1) 777 [(0, (4, 0)), (1, (2, 0)), (2, (2, 67)), (3, (0, i))] [(0, r1)] xKL H1
  refine xkq_run [777, 791, 1536] 300 ?_
  show (xI (i + 1)) ∧ ((0 : Int) ≤ i + 1 ∧ (i + 1 : Int) < X.1) ∧ (xI (i + 2)) ∧ ((0 : Int) ≤ i + 2 ∧ (i + 2 : Int) < X.1) ∧ xWM (xE X) xMC d 95 [(2, 67), (0, X.2 (i + 1)), (0, X.2 (i + 2))] xKZ H1 _
  refine ⟨(by unfold xI; omega), ?_⟩
  refine ⟨⟨by omega, by omega⟩, ?_⟩
  refine ⟨(by unfold xI; omega), ?_⟩
  refine ⟨⟨by omega, by omega⟩, ?_⟩
  refine xc_in (xc_mono (fun r2 H2 q2 => ?_) q1)
  show xkq X d 265 (fun r _ _ => r = 1) 791 [(0, (4, 0)), (1, (2, 0)), (2, (2, 67)), (3, (0, i))] [(0, r2), (0, r1)] xKL H2
  refine xkq_run [777, 791, 1536] 300 ?_
  show ((r1 = r2) → xkq X d 265 (fun r _ _ => r = 1) 1536 [(0, (4, 0)), (1, (2, 0)), (2, (2, 67)), (3, (0, i))] [] xKL H2) ∧ (¬ (r1 = r2) → xfR 3 0 ∧ (0 : Int) = 1)
  exact ⟨fun _ => hN _ q2.2, fun c => absurd q2.1.symm c⟩

set_option maxHeartbeats 8000000 in
set_option maxRecDepth 8000 in
theorem lc_14 {X : Int × (Int → Int)} {d : Nat} (hd : 40 ≤ d) (hX : xX X) (i : Int) (hi : 2 ≤ i ∧ i + 7 ≤ X.1) (H : XH) (h : InvZ H) (hN : ∀ H1, InvZ H1 → xkq X d 265 (fun r _ _ => r = 1) 1536 [(0, (4, 0)), (1, (2, 0)), (2, (2, 67)), (3, (0, i))] [] xKL H1) : xkq X d 265 (fun r _ _ => r = 1) 796 [(0, (4, 0)), (1, (2, 0)), (2, (2, 67)), (3, (0, i))] [] xKL H := by
  have hx := hX.2.1
  show xkq X d 265 (fun r _ _ => r = 1) 796 [(0, (4, 0)), (1, (2, 0)), (2, (2, 67)), (3, (0, i))] [] xKL H
  refine xkq_run [805, 814, 1536] 300 ?_
  show (xI (i + 1)) ∧ ((0 : Int) ≤ i + 1 ∧ (i + 1 : Int) < X.1) ∧ xWM (xE X) xMC d 100 [(2, 0), (0, X.2 (i + 1))] xKZ H _
  refine ⟨(by unfold xI; omega), ?_⟩
  refine ⟨⟨by omega, by omega⟩, ?_⟩
  refine xc_in (xc_mono (fun r1 H1 q1 => ?_) (a_way hd (X.2 (i + 1)) H  h))
  show xkq X d 265 (fun r _ _ => r = 1) 805 [(0, (4, 0)), (1, (2, 0)), (2, (2, 67)), (3, (0, i))] [(0, r1)] xKL H1
  refine xkq_run [805, 814, 1536] 300 ?_
  show (xI (i + 1)) ∧ ((0 : Int) ≤ i + 1 ∧ (i + 1 : Int) < X.1) ∧ xWM (xE X) xMC d 106 [(2, 67), (0, X.2 (i + 1))] xKZ H1 _
  refine ⟨(by unfold xI; omega), ?_⟩
  refine ⟨⟨by omega, by omega⟩, ?_⟩
  refine xc_in (xc_mono (fun r2 H2 q2 => ?_) q1)
  show xkq X d 265 (fun r _ _ => r = 1) 814 [(0, (4, 0)), (1, (2, 0)), (2, (2, 67)), (3, (0, i))] [(0, r2), (0, r1)] xKL H2
  refine xkq_run [805, 814, 1536] 300 ?_
  show ((r1 = r2) → xkq X d 265 (fun r _ _ => r = 1) 1536 [(0, (4, 0)), (1, (2, 0)), (2, (2, 67)), (3, (0, i))] [] xKL H2) ∧ (¬ (r1 = r2) → xfR 3 0 ∧ (0 : Int) = 1)
  exact ⟨fun _ => hN _ q2.2, fun c => absurd q2.1.symm c⟩

set_option maxHeartbeats 8000000 in
set_option maxRecDepth 8000 in
theorem lc_15 {X : Int × (Int → Int)} {d : Nat} (hd : 40 ≤ d) (hX : xX X) (i : Int) (hi : 2 ≤ i ∧ i + 7 ≤ X.1) (H : XH) (h : InvZ H) (hN : ∀ H1, InvZ H1 → xkq X d 265 (fun r _ _ => r = 1) 1536 [(0, (4, 0)), (1, (2, 0)), (2, (2, 67)), (3, (0, i))] [] xKL H1) : xkq X d 265 (fun r _ _ => r = 1) 819 [(0, (4, 0)), (1, (2, 0)), (2, (2, 67)), (3, (0, i))] [] xKL H := by
  have hx := hX.2.1
  show xkq X d 265 (fun r _ _ => r = 1) 819 [(0, (4, 0)), (1, (2, 0)), (2, (2, 67)), (3, (0, i))] [] xKL H
  refine xkq_run [823, 827, 1536] 300 ?_
  show xWM (xE X) xMC d 109 [(2, 0)] xKZ H _
  refine xc_in (xc_mono (fun r1 H1 q1 => ?_) (a_ways hd  H  h))
  show xkq X d 265 (fun r _ _ => r = 1) 823 [(0, (4, 0)), (1, (2, 0)), (2, (2, 67)), (3, (0, i))] [(0, r1)] xKL H1
  refine xkq_run [823, 827, 1536] 300 ?_
  show xWM (xE X) xMC d 110 [(2, 67)] xKZ H1 _
  refine xc_in (xc_mono (fun r2 H2 q2 => ?_) q1)
  show xkq X d 265 (fun r _ _ => r = 1) 827 [(0, (4, 0)), (1, (2, 0)), (2, (2, 67)), (3, (0, i))] [(0, r2), (0, r1)] xKL H2
  refine xkq_run [823, 827, 1536] 300 ?_
  show ((r1 = r2) → xkq X d 265 (fun r _ _ => r = 1) 1536 [(0, (4, 0)), (1, (2, 0)), (2, (2, 67)), (3, (0, i))] [] xKL H2) ∧ (¬ (r1 = r2) → xfR 3 0 ∧ (0 : Int) = 1)
  exact ⟨fun _ => hN _ q2.2, fun c => absurd q2.1.symm c⟩

set_option maxHeartbeats 8000000 in
set_option maxRecDepth 8000 in
theorem lc_16 {X : Int × (Int → Int)} {d : Nat} (hd : 40 ≤ d) (hX : xX X) (i : Int) (hi : 2 ≤ i ∧ i + 7 ≤ X.1) (H : XH) (h : InvZ H) (hN : ∀ H1, InvZ H1 → xkq X d 265 (fun r _ _ => r = 1) 1536 [(0, (4, 0)), (1, (2, 0)), (2, (2, 67)), (3, (0, i))] [] xKL H1) : xkq X d 265 (fun r _ _ => r = 1) 832 [(0, (4, 0)), (1, (2, 0)), (2, (2, 67)), (3, (0, i))] [] xKL H := by
  have hx := hX.2.1
  show xkq X d 265 (fun r _ _ => r = 1) 832 [(0, (4, 0)), (1, (2, 0)), (2, (2, 67)), (3, (0, i))] [] xKL H
  refine xkq_run [851, 870, 1536] 300 ?_
  show (xI (i + 1)) ∧ ((0 : Int) ≤ i + 1 ∧ (i + 1 : Int) < X.1) ∧ (xI (i + 2)) ∧ ((0 : Int) ≤ i + 2 ∧ (i + 2 : Int) < X.1) ∧ (xI (i + 3)) ∧ ((0 : Int) ≤ i + 3 ∧ (i + 3 : Int) < X.1) ∧ xWM (xE X) xMC d 111 [(2, 0), (0, X.2 (i + 1)), (0, X.2 (i + 2)), (0, X.2 (i + 3))] xKZ H _
  refine ⟨(by unfold xI; omega), ?_⟩
  refine ⟨⟨by omega, by omega⟩, ?_⟩
  refine ⟨(by unfold xI; omega), ?_⟩
  refine ⟨⟨by omega, by omega⟩, ?_⟩
  refine ⟨(by unfold xI; omega), ?_⟩
  refine ⟨⟨by omega, by omega⟩, ?_⟩
  refine xc_in (xc_mono (fun r1 H1 q1 => ?_) (a_flowers hd (X.2 (i + 1)) (X.2 (i + 2)) (X.2 (i + 3)) H  h))
  show xkq X d 265 (fun r _ _ => r = 1) 851 [(0, (4, 0)), (1, (2, 0)), (2, (2, 67)), (3, (0, i))] [(0, r1)] xKL H1
  refine xkq_run [851, 870, 1536] 300 ?_
  show (xI (i + 1)) ∧ ((0 : Int) ≤ i + 1 ∧ (i + 1 : Int) < X.1) ∧ (xI (i + 2)) ∧ ((0 : Int) ≤ i + 2 ∧ (i + 2 : Int) < X.1) ∧ (xI (i + 3)) ∧ ((0 : Int) ≤ i + 3 ∧ (i + 3 : Int) < X.1) ∧ xWM (xE X) xMC d 112 [(2, 67), (0, X.2 (i + 1)), (0, X.2 (i + 2)), (0, X.2 (i + 3))] xKZ H1 _
  refine ⟨(by unfold xI; omega), ?_⟩
  refine ⟨⟨by omega, by omega⟩, ?_⟩
  refine ⟨(by unfold xI; omega), ?_⟩
  refine ⟨⟨by omega, by omega⟩, ?_⟩
  refine ⟨(by unfold xI; omega), ?_⟩
  refine ⟨⟨by omega, by omega⟩, ?_⟩
  refine xc_in (xc_mono (fun r2 H2 q2 => ?_) q1)
  show xkq X d 265 (fun r _ _ => r = 1) 870 [(0, (4, 0)), (1, (2, 0)), (2, (2, 67)), (3, (0, i))] [(0, r2), (0, r1)] xKL H2
  refine xkq_run [851, 870, 1536] 300 ?_
  show ((r1 = r2) → xkq X d 265 (fun r _ _ => r = 1) 1536 [(0, (4, 0)), (1, (2, 0)), (2, (2, 67)), (3, (0, i))] [] xKL H2) ∧ (¬ (r1 = r2) → xfR 3 0 ∧ (0 : Int) = 1)
  exact ⟨fun _ => hN _ q2.2, fun c => absurd q2.1.symm c⟩

set_option maxHeartbeats 8000000 in
set_option maxRecDepth 8000 in
theorem lc_17 {X : Int × (Int → Int)} {d : Nat} (hd : 40 ≤ d) (hX : xX X) (i : Int) (hi : 2 ≤ i ∧ i + 7 ≤ X.1) (H : XH) (h : InvZ H) (hN : ∀ H1, InvZ H1 → xkq X d 265 (fun r _ _ => r = 1) 1536 [(0, (4, 0)), (1, (2, 0)), (2, (2, 67)), (3, (0, i))] [] xKL H1) : xkq X d 265 (fun r _ _ => r = 1) 875 [(0, (4, 0)), (1, (2, 0)), (2, (2, 67)), (3, (0, i))] [] xKL H := by
  have hx := hX.2.1
  show xkq X d 265 (fun r _ _ => r = 1) 875 [(0, (4, 0)), (1, (2, 0)), (2, (2, 67)), (3, (0, i))] [] xKL H
  refine xkq_run [884, 893, 1536] 300 ?_
  show (xI (i + 1)) ∧ ((0 : Int) ≤ i + 1 ∧ (i + 1 : Int) < X.1) ∧ xWM (xE X) xMC d 118 [(2, 0), (0, X.2 (i + 1))] xKZ H _
  refine ⟨(by unfold xI; omega), ?_⟩
  refine ⟨⟨by omega, by omega⟩, ?_⟩
  refine xc_in (xc_mono (fun r1 H1 q1 => ?_) (a_months hd (X.2 (i + 1)) H  h))
  show xkq X d 265 (fun r _ _ => r = 1) 884 [(0, (4, 0)), (1, (2, 0)), (2, (2, 67)), (3, (0, i))] [(0, r1)] xKL H1
  refine xkq_run [884, 893, 1536] 300 ?_
  show (xI (i + 1)) ∧ ((0 : Int) ≤ i + 1 ∧ (i + 1 : Int) < X.1) ∧ xWM (xE X) xMC d 121 [(2, 67), (0, X.2 (i + 1))] xKZ H1 _
  refine ⟨(by unfold xI; omega), ?_⟩
  refine ⟨⟨by omega, by omega⟩, ?_⟩
  refine xc_in (xc_mono (fun r2 H2 q2 => ?_) q1)
  show xkq X d 265 (fun r _ _ => r = 1) 893 [(0, (4, 0)), (1, (2, 0)), (2, (2, 67)), (3, (0, i))] [(0, r2), (0, r1)] xKL H2
  refine xkq_run [884, 893, 1536] 300 ?_
  show ((r1 = r2) → xkq X d 265 (fun r _ _ => r = 1) 1536 [(0, (4, 0)), (1, (2, 0)), (2, (2, 67)), (3, (0, i))] [] xKL H2) ∧ (¬ (r1 = r2) → xfR 3 0 ∧ (0 : Int) = 1)
  exact ⟨fun _ => hN _ q2.2, fun c => absurd q2.1.symm c⟩

set_option maxHeartbeats 8000000 in
set_option maxRecDepth 8000 in
theorem lc_18 {X : Int × (Int → Int)} {d : Nat} (hd : 40 ≤ d) (hX : xX X) (i : Int) (hi : 2 ≤ i ∧ i + 7 ≤ X.1) (H : XH) (h : InvZ H) (hN : ∀ H1, InvZ H1 → xkq X d 265 (fun r _ _ => r = 1) 1536 [(0, (4, 0)), (1, (2, 0)), (2, (2, 67)), (3, (0, i))] [] xKL H1) : xkq X d 265 (fun r _ _ => r = 1) 898 [(0, (4, 0)), (1, (2, 0)), (2, (2, 67)), (3, (0, i))] [] xKL H := by
  have hx := hX.2.1
  show xkq X d 265 (fun r _ _ => r = 1) 898 [(0, (4, 0)), (1, (2, 0)), (2, (2, 67)), (3, (0, i))] [] xKL H
  refine xkq_run [920, 942, 1536] 300 ?_
  show (xI (i + 1)) ∧ ((0 : Int) ≤ i + 1 ∧ (i + 1 : Int) < X.1) ∧ (xI (i + 2)) ∧ ((0 : Int) ≤ i + 2 ∧ (i + 2 : Int) < X.1) ∧ ((X.2 (i + 2) = 0) → xWM (xE X) xMC d 124 [(2, 0), (0, X.2 (i + 1)), (0, 0)] xKZ H _) ∧ (¬ (X.2 (i + 2) = 0) → xWM (xE X) xMC d 124 [(2, 0), (0, X.2 (i + 1)), (0, 1)] xKZ H _)
  refine ⟨(by unfold xI; omega), ?_⟩
  refine ⟨⟨by omega, by omega⟩, ?_⟩
  refine ⟨(by unfold xI; omega), ?_⟩
  refine ⟨⟨by omega, by omega⟩, ?_⟩
  refine ⟨fun c1 => ?_, fun c1 => ?_⟩
  · skip
    refine xc_in (xc_mono (fun r2 H2 q2 => ?_) (a_when hd (X.2 (i + 1)) 0 H  h))
    show xkq X d 265 (fun r _ _ => r = 1) 920 [(0, (4, 0)), (1, (2, 0)), (2, (2, 67)), (3, (0, i))] [(0, r2)] xKL H2
    refine xkq_run [920, 942, 1536] 300 ?_
    show (xI (i + 1)) ∧ ((0 : Int) ≤ i + 1 ∧ (i + 1 : Int) < X.1) ∧ (xI (i + 2)) ∧ ((0 : Int) ≤ i + 2 ∧ (i + 2 : Int) < X.1) ∧ ((X.2 (i + 2) = 0) → xWM (xE X) xMC d 125 [(2, 67), (0, X.2 (i + 1)), (0, 0)] xKZ H2 _) ∧ (¬ (X.2 (i + 2) = 0) → xWM (xE X) xMC d 125 [(2, 67), (0, X.2 (i + 1)), (0, 1)] xKZ H2 _)
    refine ⟨(by unfold xI; omega), ?_⟩
    refine ⟨⟨by omega, by omega⟩, ?_⟩
    refine ⟨(by unfold xI; omega), ?_⟩
    refine ⟨⟨by omega, by omega⟩, ?_⟩
    refine ⟨fun _ => ?_, fun c => absurd c1 c⟩
    refine xc_in (xc_mono (fun r4 H4 q4 => ?_) q2)
    show xkq X d 265 (fun r _ _ => r = 1) 942 [(0, (4, 0)), (1, (2, 0)), (2, (2, 67)), (3, (0, i))] [(0, r4), (0, r2)] xKL H4
    refine xkq_run [920, 942, 1536] 300 ?_
    show ((r2 = r4) → xkq X d 265 (fun r _ _ => r = 1) 1536 [(0, (4, 0)), (1, (2, 0)), (2, (2, 67)), (3, (0, i))] [] xKL H4) ∧ (¬ (r2 = r4) → xfR 3 0 ∧ (0 : Int) = 1)
    exact ⟨fun _ => hN _ q4.2, fun c => absurd q4.1.symm c⟩
  · skip
    refine xc_in (xc_mono (fun r5 H5 q5 => ?_) (a_when hd (X.2 (i + 1)) 1 H  h))
    show xkq X d 265 (fun r _ _ => r = 1) 920 [(0, (4, 0)), (1, (2, 0)), (2, (2, 67)), (3, (0, i))] [(0, r5)] xKL H5
    refine xkq_run [920, 942, 1536] 300 ?_
    show (xI (i + 1)) ∧ ((0 : Int) ≤ i + 1 ∧ (i + 1 : Int) < X.1) ∧ (xI (i + 2)) ∧ ((0 : Int) ≤ i + 2 ∧ (i + 2 : Int) < X.1) ∧ ((X.2 (i + 2) = 0) → xWM (xE X) xMC d 125 [(2, 67), (0, X.2 (i + 1)), (0, 0)] xKZ H5 _) ∧ (¬ (X.2 (i + 2) = 0) → xWM (xE X) xMC d 125 [(2, 67), (0, X.2 (i + 1)), (0, 1)] xKZ H5 _)
    refine ⟨(by unfold xI; omega), ?_⟩
    refine ⟨⟨by omega, by omega⟩, ?_⟩
    refine ⟨(by unfold xI; omega), ?_⟩
    refine ⟨⟨by omega, by omega⟩, ?_⟩
    refine ⟨fun c => absurd c c1, fun _ => ?_⟩
    refine xc_in (xc_mono (fun r7 H7 q7 => ?_) q5)
    show xkq X d 265 (fun r _ _ => r = 1) 942 [(0, (4, 0)), (1, (2, 0)), (2, (2, 67)), (3, (0, i))] [(0, r7), (0, r5)] xKL H7
    refine xkq_run [920, 942, 1536] 300 ?_
    show ((r5 = r7) → xkq X d 265 (fun r _ _ => r = 1) 1536 [(0, (4, 0)), (1, (2, 0)), (2, (2, 67)), (3, (0, i))] [] xKL H7) ∧ (¬ (r5 = r7) → xfR 3 0 ∧ (0 : Int) = 1)
    exact ⟨fun _ => hN _ q7.2, fun c => absurd q7.1.symm c⟩

set_option maxHeartbeats 8000000 in
set_option maxRecDepth 8000 in
theorem lc_19 {X : Int × (Int → Int)} {d : Nat} (hd : 40 ≤ d) (hX : xX X) (i : Int) (hi : 2 ≤ i ∧ i + 7 ≤ X.1) (H : XH) (h : InvZ H) (hN : ∀ H1, InvZ H1 → xkq X d 265 (fun r _ _ => r = 1) 1536 [(0, (4, 0)), (1, (2, 0)), (2, (2, 67)), (3, (0, i))] [] xKL H1) : xkq X d 265 (fun r _ _ => r = 1) 947 [(0, (4, 0)), (1, (2, 0)), (2, (2, 67)), (3, (0, i))] [] xKL H := by
  have hx := hX.2.1
  show xkq X d 265 (fun r _ _ => r = 1) 947 [(0, (4, 0)), (1, (2, 0)), (2, (2, 67)), (3, (0, i))] [] xKL H
  refine xkq_run [956, 965, 1536] 300 ?_
  show (xI (i + 1)) ∧ ((0 : Int) ≤ i + 1 ∧ (i + 1 : Int) < X.1) ∧ xWM (xE X) xMC d 127 [(2, 0), (0, X.2 (i + 1))] xKZ H _
  refine ⟨(by unfold xI; omega), ?_⟩
  refine ⟨⟨by omega, by omega⟩, ?_⟩
  refine xc_in (xc_mono (fun r1 H1 q1 => ?_) (a_journey hd (X.2 (i + 1)) H  h))
  show xkq X d 265 (fun r _ _ => r = 1) 956 [(0, (4, 0)), (1, (2, 0)), (2, (2, 67)), (3, (0, i))] [(0, r1)] xKL H1
  refine xkq_run [956, 965, 1536] 300 ?_
  show (xI (i + 1)) ∧ ((0 : Int) ≤ i + 1 ∧ (i + 1 : Int) < X.1) ∧ xWM (xE X) xMC d 129 [(2, 67), (0, X.2 (i + 1))] xKZ H1 _
  refine ⟨(by unfold xI; omega), ?_⟩
  refine ⟨⟨by omega, by omega⟩, ?_⟩
  refine xc_in (xc_mono (fun r2 H2 q2 => ?_) q1)
  show xkq X d 265 (fun r _ _ => r = 1) 965 [(0, (4, 0)), (1, (2, 0)), (2, (2, 67)), (3, (0, i))] [(0, r2), (0, r1)] xKL H2
  refine xkq_run [956, 965, 1536] 300 ?_
  show ((r1 = r2) → xkq X d 265 (fun r _ _ => r = 1) 1536 [(0, (4, 0)), (1, (2, 0)), (2, (2, 67)), (3, (0, i))] [] xKL H2) ∧ (¬ (r1 = r2) → xfR 3 0 ∧ (0 : Int) = 1)
  exact ⟨fun _ => hN _ q2.2, fun c => absurd q2.1.symm c⟩

set_option maxHeartbeats 8000000 in
set_option maxRecDepth 8000 in
theorem lc_20 {X : Int × (Int → Int)} {d : Nat} (hd : 40 ≤ d) (hX : xX X) (i : Int) (hi : 2 ≤ i ∧ i + 7 ≤ X.1) (H : XH) (h : InvZ H) (hN : ∀ H1, InvZ H1 → xkq X d 265 (fun r _ _ => r = 1) 1536 [(0, (4, 0)), (1, (2, 0)), (2, (2, 67)), (3, (0, i))] [] xKL H1) : xkq X d 265 (fun r _ _ => r = 1) 970 [(0, (4, 0)), (1, (2, 0)), (2, (2, 67)), (3, (0, i))] [] xKL H := by
  have hx := hX.2.1
  show xkq X d 265 (fun r _ _ => r = 1) 970 [(0, (4, 0)), (1, (2, 0)), (2, (2, 67)), (3, (0, i))] [] xKL H
  refine xkq_run [979, 988, 1536] 300 ?_
  show (xI (i + 1)) ∧ ((0 : Int) ≤ i + 1 ∧ (i + 1 : Int) < X.1) ∧ xWM (xE X) xMC d 131 [(2, 0), (0, X.2 (i + 1))] xKZ H _
  refine ⟨(by unfold xI; omega), ?_⟩
  refine ⟨⟨by omega, by omega⟩, ?_⟩
  refine xc_in (xc_mono (fun r1 H1 q1 => ?_) (a_trowel hd (X.2 (i + 1)) H  h))
  show xkq X d 265 (fun r _ _ => r = 1) 979 [(0, (4, 0)), (1, (2, 0)), (2, (2, 67)), (3, (0, i))] [(0, r1)] xKL H1
  refine xkq_run [979, 988, 1536] 300 ?_
  show (xI (i + 1)) ∧ ((0 : Int) ≤ i + 1 ∧ (i + 1 : Int) < X.1) ∧ xWM (xE X) xMC d 132 [(2, 67), (0, X.2 (i + 1))] xKZ H1 _
  refine ⟨(by unfold xI; omega), ?_⟩
  refine ⟨⟨by omega, by omega⟩, ?_⟩
  refine xc_in (xc_mono (fun r2 H2 q2 => ?_) q1)
  show xkq X d 265 (fun r _ _ => r = 1) 988 [(0, (4, 0)), (1, (2, 0)), (2, (2, 67)), (3, (0, i))] [(0, r2), (0, r1)] xKL H2
  refine xkq_run [979, 988, 1536] 300 ?_
  show ((r1 = r2) → xkq X d 265 (fun r _ _ => r = 1) 1536 [(0, (4, 0)), (1, (2, 0)), (2, (2, 67)), (3, (0, i))] [] xKL H2) ∧ (¬ (r1 = r2) → xfR 3 0 ∧ (0 : Int) = 1)
  exact ⟨fun _ => hN _ q2.2, fun c => absurd q2.1.symm c⟩

set_option maxHeartbeats 8000000 in
set_option maxRecDepth 8000 in
theorem lc_21 {X : Int × (Int → Int)} {d : Nat} (hd : 40 ≤ d) (hX : xX X) (i : Int) (hi : 2 ≤ i ∧ i + 7 ≤ X.1) (H : XH) (h : InvZ H) (hN : ∀ H1, InvZ H1 → xkq X d 265 (fun r _ _ => r = 1) 1536 [(0, (4, 0)), (1, (2, 0)), (2, (2, 67)), (3, (0, i))] [] xKL H1) : xkq X d 265 (fun r _ _ => r = 1) 993 [(0, (4, 0)), (1, (2, 0)), (2, (2, 67)), (3, (0, i))] [] xKL H := by
  have hx := hX.2.1
  show xkq X d 265 (fun r _ _ => r = 1) 993 [(0, (4, 0)), (1, (2, 0)), (2, (2, 67)), (3, (0, i))] [] xKL H
  refine xkq_run [1022, 1051, 1536] 300 ?_
  show (xI (i + 1)) ∧ ((0 : Int) ≤ i + 1 ∧ (i + 1 : Int) < X.1) ∧ (xI (i + 2)) ∧ ((0 : Int) ≤ i + 2 ∧ (i + 2 : Int) < X.1) ∧ (xI (i + 3)) ∧ ((0 : Int) ≤ i + 3 ∧ (i + 3 : Int) < X.1) ∧ (xI (i + 4)) ∧ ((0 : Int) ≤ i + 4 ∧ (i + 4 : Int) < X.1) ∧ (xI (i + 5)) ∧ ((0 : Int) ≤ i + 5 ∧ (i + 5 : Int) < X.1) ∧ xWM (xE X) xMC d 135 [(2, 0), (0, X.2 (i + 1)), (0, X.2 (i + 2)), (0, X.2 (i + 3)), (0, X.2 (i + 4)), (0, X.2 (i + 5))] xKZ H _
  refine ⟨(by unfold xI; omega), ?_⟩
  refine ⟨⟨by omega, by omega⟩, ?_⟩
  refine ⟨(by unfold xI; omega), ?_⟩
  refine ⟨⟨by omega, by omega⟩, ?_⟩
  refine ⟨(by unfold xI; omega), ?_⟩
  refine ⟨⟨by omega, by omega⟩, ?_⟩
  refine ⟨(by unfold xI; omega), ?_⟩
  refine ⟨⟨by omega, by omega⟩, ?_⟩
  refine ⟨(by unfold xI; omega), ?_⟩
  refine ⟨⟨by omega, by omega⟩, ?_⟩
  refine xc_in (xc_mono (fun r1 H1 q1 => ?_) (a_feed hd (X.2 (i + 1)) (X.2 (i + 2)) (X.2 (i + 3)) (X.2 (i + 4)) (X.2 (i + 5)) H  h))
  show xkq X d 265 (fun r _ _ => r = 1) 1022 [(0, (4, 0)), (1, (2, 0)), (2, (2, 67)), (3, (0, i))] [(0, r1)] xKL H1
  refine xkq_run [1022, 1051, 1536] 300 ?_
  show (xI (i + 1)) ∧ ((0 : Int) ≤ i + 1 ∧ (i + 1 : Int) < X.1) ∧ (xI (i + 2)) ∧ ((0 : Int) ≤ i + 2 ∧ (i + 2 : Int) < X.1) ∧ (xI (i + 3)) ∧ ((0 : Int) ≤ i + 3 ∧ (i + 3 : Int) < X.1) ∧ (xI (i + 4)) ∧ ((0 : Int) ≤ i + 4 ∧ (i + 4 : Int) < X.1) ∧ (xI (i + 5)) ∧ ((0 : Int) ≤ i + 5 ∧ (i + 5 : Int) < X.1) ∧ xWM (xE X) xMC d 137 [(2, 67), (0, X.2 (i + 1)), (0, X.2 (i + 2)), (0, X.2 (i + 3)), (0, X.2 (i + 4)), (0, X.2 (i + 5))] xKZ H1 _
  refine ⟨(by unfold xI; omega), ?_⟩
  refine ⟨⟨by omega, by omega⟩, ?_⟩
  refine ⟨(by unfold xI; omega), ?_⟩
  refine ⟨⟨by omega, by omega⟩, ?_⟩
  refine ⟨(by unfold xI; omega), ?_⟩
  refine ⟨⟨by omega, by omega⟩, ?_⟩
  refine ⟨(by unfold xI; omega), ?_⟩
  refine ⟨⟨by omega, by omega⟩, ?_⟩
  refine ⟨(by unfold xI; omega), ?_⟩
  refine ⟨⟨by omega, by omega⟩, ?_⟩
  refine xc_in (xc_mono (fun r2 H2 q2 => ?_) q1)
  show xkq X d 265 (fun r _ _ => r = 1) 1051 [(0, (4, 0)), (1, (2, 0)), (2, (2, 67)), (3, (0, i))] [(0, r2), (0, r1)] xKL H2
  refine xkq_run [1022, 1051, 1536] 300 ?_
  show ((r1 = r2) → xkq X d 265 (fun r _ _ => r = 1) 1536 [(0, (4, 0)), (1, (2, 0)), (2, (2, 67)), (3, (0, i))] [] xKL H2) ∧ (¬ (r1 = r2) → xfR 3 0 ∧ (0 : Int) = 1)
  exact ⟨fun _ => hN _ q2.2, fun c => absurd q2.1.symm c⟩

set_option maxHeartbeats 8000000 in
set_option maxRecDepth 8000 in
theorem lc_22 {X : Int × (Int → Int)} {d : Nat} (hd : 40 ≤ d) (hX : xX X) (i : Int) (hi : 2 ≤ i ∧ i + 7 ≤ X.1) (H : XH) (h : InvZ H) (hN : ∀ H1, InvZ H1 → xkq X d 265 (fun r _ _ => r = 1) 1536 [(0, (4, 0)), (1, (2, 0)), (2, (2, 67)), (3, (0, i))] [] xKL H1) : xkq X d 265 (fun r _ _ => r = 1) 1056 [(0, (4, 0)), (1, (2, 0)), (2, (2, 67)), (3, (0, i))] [] xKL H := by
  have hx := hX.2.1
  show xkq X d 265 (fun r _ _ => r = 1) 1056 [(0, (4, 0)), (1, (2, 0)), (2, (2, 67)), (3, (0, i))] [] xKL H
  refine xkq_run [1065, 1074, 1536] 300 ?_
  show (xI (i + 1)) ∧ ((0 : Int) ≤ i + 1 ∧ (i + 1 : Int) < X.1) ∧ xWM (xE X) xMC d 138 [(2, 0), (0, X.2 (i + 1))] xKZ H _
  refine ⟨(by unfold xI; omega), ?_⟩
  refine ⟨⟨by omega, by omega⟩, ?_⟩
  refine xc_in (xc_mono (fun r1 H1 q1 => ?_) (a_end hd (X.2 (i + 1)) H  h))
  show xkq X d 265 (fun r _ _ => r = 1) 1065 [(0, (4, 0)), (1, (2, 0)), (2, (2, 67)), (3, (0, i))] [(0, r1)] xKL H1
  refine xkq_run [1065, 1074, 1536] 300 ?_
  show (xI (i + 1)) ∧ ((0 : Int) ≤ i + 1 ∧ (i + 1 : Int) < X.1) ∧ xWM (xE X) xMC d 139 [(2, 67), (0, X.2 (i + 1))] xKZ H1 _
  refine ⟨(by unfold xI; omega), ?_⟩
  refine ⟨⟨by omega, by omega⟩, ?_⟩
  refine xc_in (xc_mono (fun r2 H2 q2 => ?_) q1)
  show xkq X d 265 (fun r _ _ => r = 1) 1074 [(0, (4, 0)), (1, (2, 0)), (2, (2, 67)), (3, (0, i))] [(0, r2), (0, r1)] xKL H2
  refine xkq_run [1065, 1074, 1536] 300 ?_
  show ((r1 = r2) → xkq X d 265 (fun r _ _ => r = 1) 1536 [(0, (4, 0)), (1, (2, 0)), (2, (2, 67)), (3, (0, i))] [] xKL H2) ∧ (¬ (r1 = r2) → xfR 3 0 ∧ (0 : Int) = 1)
  exact ⟨fun _ => hN _ q2.2, fun c => absurd q2.1.symm c⟩

set_option maxHeartbeats 8000000 in
set_option maxRecDepth 8000 in
theorem lc_23 {X : Int × (Int → Int)} {d : Nat} (hd : 40 ≤ d) (hX : xX X) (i : Int) (hi : 2 ≤ i ∧ i + 7 ≤ X.1) (H : XH) (h : InvZ H) (hN : ∀ H1, InvZ H1 → xkq X d 265 (fun r _ _ => r = 1) 1536 [(0, (4, 0)), (1, (2, 0)), (2, (2, 67)), (3, (0, i))] [] xKL H1) : xkq X d 265 (fun r _ _ => r = 1) 1079 [(0, (4, 0)), (1, (2, 0)), (2, (2, 67)), (3, (0, i))] [] xKL H := by
  have hx := hX.2.1
  show xkq X d 265 (fun r _ _ => r = 1) 1079 [(0, (4, 0)), (1, (2, 0)), (2, (2, 67)), (3, (0, i))] [] xKL H
  refine xkq_run [1083, 1087, 1536] 300 ?_
  show xWM (xE X) xMC d 168 [(2, 0)] xKZ H _
  refine xc_in (xc_mono (fun r1 H1 q1 => ?_) (a_law hd  H  h))
  show xkq X d 265 (fun r _ _ => r = 1) 1083 [(0, (4, 0)), (1, (2, 0)), (2, (2, 67)), (3, (0, i))] [(0, r1)] xKL H1
  refine xkq_run [1083, 1087, 1536] 300 ?_
  show xWM (xE X) xMC d 193 [(2, 67)] xKZ H1 _
  refine xc_in (xc_mono (fun r2 H2 q2 => ?_) q1)
  show xkq X d 265 (fun r _ _ => r = 1) 1087 [(0, (4, 0)), (1, (2, 0)), (2, (2, 67)), (3, (0, i))] [(0, r2), (0, r1)] xKL H2
  refine xkq_run [1083, 1087, 1536] 300 ?_
  show ((r1 = r2) → xkq X d 265 (fun r _ _ => r = 1) 1536 [(0, (4, 0)), (1, (2, 0)), (2, (2, 67)), (3, (0, i))] [] xKL H2) ∧ (¬ (r1 = r2) → xfR 3 0 ∧ (0 : Int) = 1)
  exact ⟨fun _ => hN _ q2.2, fun c => absurd q2.1.symm c⟩

set_option maxHeartbeats 8000000 in
set_option maxRecDepth 8000 in
theorem lc_24 {X : Int × (Int → Int)} {d : Nat} (hd : 40 ≤ d) (hX : xX X) (i : Int) (hi : 2 ≤ i ∧ i + 7 ≤ X.1) (H : XH) (h : InvZ H) (hN : ∀ H1, InvZ H1 → xkq X d 265 (fun r _ _ => r = 1) 1536 [(0, (4, 0)), (1, (2, 0)), (2, (2, 67)), (3, (0, i))] [] xKL H1) : xkq X d 265 (fun r _ _ => r = 1) 1092 [(0, (4, 0)), (1, (2, 0)), (2, (2, 67)), (3, (0, i))] [] xKL H := by
  have hx := hX.2.1
  show xkq X d 265 (fun r _ _ => r = 1) 1092 [(0, (4, 0)), (1, (2, 0)), (2, (2, 67)), (3, (0, i))] [] xKL H
  refine xkq_run [1101, 1110, 1536] 300 ?_
  show (xI (i + 1)) ∧ ((0 : Int) ≤ i + 1 ∧ (i + 1 : Int) < X.1) ∧ xWM (xE X) xMC d 194 [(2, 0), (0, X.2 (i + 1))] xKZ H _
  refine ⟨(by unfold xI; omega), ?_⟩
  refine ⟨⟨by omega, by omega⟩, ?_⟩
  refine xc_in (xc_mono (fun r1 H1 q1 => ?_) (a_fault hd (X.2 (i + 1)) H  h))
  show xkq X d 265 (fun r _ _ => r = 1) 1101 [(0, (4, 0)), (1, (2, 0)), (2, (2, 67)), (3, (0, i))] [(0, r1)] xKL H1
  refine xkq_run [1101, 1110, 1536] 300 ?_
  show (xI (i + 1)) ∧ ((0 : Int) ≤ i + 1 ∧ (i + 1 : Int) < X.1) ∧ xWM (xE X) xMC d 195 [(2, 67), (0, X.2 (i + 1))] xKZ H1 _
  refine ⟨(by unfold xI; omega), ?_⟩
  refine ⟨⟨by omega, by omega⟩, ?_⟩
  refine xc_in (xc_mono (fun r2 H2 q2 => ?_) q1)
  show xkq X d 265 (fun r _ _ => r = 1) 1110 [(0, (4, 0)), (1, (2, 0)), (2, (2, 67)), (3, (0, i))] [(0, r2), (0, r1)] xKL H2
  refine xkq_run [1101, 1110, 1536] 300 ?_
  show ((r1 = r2) → xkq X d 265 (fun r _ _ => r = 1) 1536 [(0, (4, 0)), (1, (2, 0)), (2, (2, 67)), (3, (0, i))] [] xKL H2) ∧ (¬ (r1 = r2) → xfR 3 0 ∧ (0 : Int) = 1)
  exact ⟨fun _ => hN _ q2.2, fun c => absurd q2.1.symm c⟩

set_option maxHeartbeats 8000000 in
set_option maxRecDepth 8000 in
theorem lc_25 {X : Int × (Int → Int)} {d : Nat} (hd : 40 ≤ d) (hX : xX X) (i : Int) (hi : 2 ≤ i ∧ i + 7 ≤ X.1) (H : XH) (h : InvZ H) (hN : ∀ H1, InvZ H1 → xkq X d 265 (fun r _ _ => r = 1) 1536 [(0, (4, 0)), (1, (2, 0)), (2, (2, 67)), (3, (0, i))] [] xKL H1) : xkq X d 265 (fun r _ _ => r = 1) 1115 [(0, (4, 0)), (1, (2, 0)), (2, (2, 67)), (3, (0, i))] [] xKL H := by
  have hx := hX.2.1
  show xkq X d 265 (fun r _ _ => r = 1) 1115 [(0, (4, 0)), (1, (2, 0)), (2, (2, 67)), (3, (0, i))] [] xKL H
  refine xkq_run [1124, 1133, 1536] 300 ?_
  show (xI (i + 1)) ∧ ((0 : Int) ≤ i + 1 ∧ (i + 1 : Int) < X.1) ∧ xWM (xE X) xMC d 196 [(2, 0), (0, X.2 (i + 1))] xKZ H _
  refine ⟨(by unfold xI; omega), ?_⟩
  refine ⟨⟨by omega, by omega⟩, ?_⟩
  refine xc_in (xc_mono (fun r1 H1 q1 => ?_) (a_by hd (X.2 (i + 1)) H  h))
  show xkq X d 265 (fun r _ _ => r = 1) 1124 [(0, (4, 0)), (1, (2, 0)), (2, (2, 67)), (3, (0, i))] [(0, r1)] xKL H1
  refine xkq_run [1124, 1133, 1536] 300 ?_
  show (xI (i + 1)) ∧ ((0 : Int) ≤ i + 1 ∧ (i + 1 : Int) < X.1) ∧ xWM (xE X) xMC d 197 [(2, 67), (0, X.2 (i + 1))] xKZ H1 _
  refine ⟨(by unfold xI; omega), ?_⟩
  refine ⟨⟨by omega, by omega⟩, ?_⟩
  refine xc_in (xc_mono (fun r2 H2 q2 => ?_) q1)
  show xkq X d 265 (fun r _ _ => r = 1) 1133 [(0, (4, 0)), (1, (2, 0)), (2, (2, 67)), (3, (0, i))] [(0, r2), (0, r1)] xKL H2
  refine xkq_run [1124, 1133, 1536] 300 ?_
  show ((r1 = r2) → xkq X d 265 (fun r _ _ => r = 1) 1536 [(0, (4, 0)), (1, (2, 0)), (2, (2, 67)), (3, (0, i))] [] xKL H2) ∧ (¬ (r1 = r2) → xfR 3 0 ∧ (0 : Int) = 1)
  exact ⟨fun _ => hN _ q2.2, fun c => absurd q2.1.symm c⟩

set_option maxHeartbeats 8000000 in
set_option maxRecDepth 8000 in
theorem lc_26 {X : Int × (Int → Int)} {d : Nat} (hd : 40 ≤ d) (hX : xX X) (i : Int) (hi : 2 ≤ i ∧ i + 7 ≤ X.1) (H : XH) (h : InvZ H) (hN : ∀ H1, InvZ H1 → xkq X d 265 (fun r _ _ => r = 1) 1536 [(0, (4, 0)), (1, (2, 0)), (2, (2, 67)), (3, (0, i))] [] xKL H1) : xkq X d 265 (fun r _ _ => r = 1) 1138 [(0, (4, 0)), (1, (2, 0)), (2, (2, 67)), (3, (0, i))] [] xKL H := by
  have hx := hX.2.1
  show xkq X d 265 (fun r _ _ => r = 1) 1138 [(0, (4, 0)), (1, (2, 0)), (2, (2, 67)), (3, (0, i))] [] xKL H
  refine xkq_run [1162, 1186, 1536] 300 ?_
  show (xI (i + 1)) ∧ ((0 : Int) ≤ i + 1 ∧ (i + 1 : Int) < X.1) ∧ (xI (i + 2)) ∧ ((0 : Int) ≤ i + 2 ∧ (i + 2 : Int) < X.1) ∧ (xI (i + 3)) ∧ ((0 : Int) ≤ i + 3 ∧ (i + 3 : Int) < X.1) ∧ (xI (i + 4)) ∧ ((0 : Int) ≤ i + 4 ∧ (i + 4 : Int) < X.1) ∧ xWM (xE X) xMC d 200 [(2, 0), (0, X.2 (i + 1)), (0, X.2 (i + 2)), (0, X.2 (i + 3)), (0, X.2 (i + 4))] xKZ H _
  refine ⟨(by unfold xI; omega), ?_⟩
  refine ⟨⟨by omega, by omega⟩, ?_⟩
  refine ⟨(by unfold xI; omega), ?_⟩
  refine ⟨⟨by omega, by omega⟩, ?_⟩
  refine ⟨(by unfold xI; omega), ?_⟩
  refine ⟨⟨by omega, by omega⟩, ?_⟩
  refine ⟨(by unfold xI; omega), ?_⟩
  refine ⟨⟨by omega, by omega⟩, ?_⟩
  refine xc_in (xc_mono (fun r1 H1 q1 => ?_) (a_step hd (X.2 (i + 1)) (X.2 (i + 2)) (X.2 (i + 3)) (X.2 (i + 4)) H  h))
  show xkq X d 265 (fun r _ _ => r = 1) 1162 [(0, (4, 0)), (1, (2, 0)), (2, (2, 67)), (3, (0, i))] [(0, r1)] xKL H1
  refine xkq_run [1162, 1186, 1536] 300 ?_
  show (xI (i + 1)) ∧ ((0 : Int) ≤ i + 1 ∧ (i + 1 : Int) < X.1) ∧ (xI (i + 2)) ∧ ((0 : Int) ≤ i + 2 ∧ (i + 2 : Int) < X.1) ∧ (xI (i + 3)) ∧ ((0 : Int) ≤ i + 3 ∧ (i + 3 : Int) < X.1) ∧ (xI (i + 4)) ∧ ((0 : Int) ≤ i + 4 ∧ (i + 4 : Int) < X.1) ∧ xWM (xE X) xMC d 201 [(2, 67), (0, X.2 (i + 1)), (0, X.2 (i + 2)), (0, X.2 (i + 3)), (0, X.2 (i + 4))] xKZ H1 _
  refine ⟨(by unfold xI; omega), ?_⟩
  refine ⟨⟨by omega, by omega⟩, ?_⟩
  refine ⟨(by unfold xI; omega), ?_⟩
  refine ⟨⟨by omega, by omega⟩, ?_⟩
  refine ⟨(by unfold xI; omega), ?_⟩
  refine ⟨⟨by omega, by omega⟩, ?_⟩
  refine ⟨(by unfold xI; omega), ?_⟩
  refine ⟨⟨by omega, by omega⟩, ?_⟩
  refine xc_in (xc_mono (fun r2 H2 q2 => ?_) q1)
  show xkq X d 265 (fun r _ _ => r = 1) 1186 [(0, (4, 0)), (1, (2, 0)), (2, (2, 67)), (3, (0, i))] [(0, r2), (0, r1)] xKL H2
  refine xkq_run [1162, 1186, 1536] 300 ?_
  show ((r1 = r2) → xkq X d 265 (fun r _ _ => r = 1) 1536 [(0, (4, 0)), (1, (2, 0)), (2, (2, 67)), (3, (0, i))] [] xKL H2) ∧ (¬ (r1 = r2) → xfR 3 0 ∧ (0 : Int) = 1)
  exact ⟨fun _ => hN _ q2.2, fun c => absurd q2.1.symm c⟩

set_option maxHeartbeats 8000000 in
set_option maxRecDepth 8000 in
theorem lc_27 {X : Int × (Int → Int)} {d : Nat} (hd : 40 ≤ d) (hX : xX X) (i : Int) (hi : 2 ≤ i ∧ i + 7 ≤ X.1) (H : XH) (h : InvZ H) (hN : ∀ H1, InvZ H1 → xkq X d 265 (fun r _ _ => r = 1) 1536 [(0, (4, 0)), (1, (2, 0)), (2, (2, 67)), (3, (0, i))] [] xKL H1) : xkq X d 265 (fun r _ _ => r = 1) 1191 [(0, (4, 0)), (1, (2, 0)), (2, (2, 67)), (3, (0, i))] [] xKL H := by
  have hx := hX.2.1
  show xkq X d 265 (fun r _ _ => r = 1) 1191 [(0, (4, 0)), (1, (2, 0)), (2, (2, 67)), (3, (0, i))] [] xKL H
  refine xkq_run [1200, 1209, 1536] 300 ?_
  show (xI (i + 1)) ∧ ((0 : Int) ≤ i + 1 ∧ (i + 1 : Int) < X.1) ∧ xWM (xE X) xMC d 202 [(2, 0), (0, X.2 (i + 1))] xKZ H _
  refine ⟨(by unfold xI; omega), ?_⟩
  refine ⟨⟨by omega, by omega⟩, ?_⟩
  refine xc_in (xc_mono (fun r1 H1 q1 => ?_) (a_forget hd (X.2 (i + 1)) H  h))
  show xkq X d 265 (fun r _ _ => r = 1) 1200 [(0, (4, 0)), (1, (2, 0)), (2, (2, 67)), (3, (0, i))] [(0, r1)] xKL H1
  refine xkq_run [1200, 1209, 1536] 300 ?_
  show (xI (i + 1)) ∧ ((0 : Int) ≤ i + 1 ∧ (i + 1 : Int) < X.1) ∧ xWM (xE X) xMC d 203 [(2, 67), (0, X.2 (i + 1))] xKZ H1 _
  refine ⟨(by unfold xI; omega), ?_⟩
  refine ⟨⟨by omega, by omega⟩, ?_⟩
  refine xc_in (xc_mono (fun r2 H2 q2 => ?_) q1)
  show xkq X d 265 (fun r _ _ => r = 1) 1209 [(0, (4, 0)), (1, (2, 0)), (2, (2, 67)), (3, (0, i))] [(0, r2), (0, r1)] xKL H2
  refine xkq_run [1200, 1209, 1536] 300 ?_
  show ((r1 = r2) → xkq X d 265 (fun r _ _ => r = 1) 1536 [(0, (4, 0)), (1, (2, 0)), (2, (2, 67)), (3, (0, i))] [] xKL H2) ∧ (¬ (r1 = r2) → xfR 3 0 ∧ (0 : Int) = 1)
  exact ⟨fun _ => hN _ q2.2, fun c => absurd q2.1.symm c⟩

set_option maxHeartbeats 8000000 in
set_option maxRecDepth 8000 in
theorem lc_28 {X : Int × (Int → Int)} {d : Nat} (hd : 40 ≤ d) (hX : xX X) (i : Int) (hi : 2 ≤ i ∧ i + 7 ≤ X.1) (H : XH) (h : InvZ H) (hN : ∀ H1, InvZ H1 → xkq X d 265 (fun r _ _ => r = 1) 1536 [(0, (4, 0)), (1, (2, 0)), (2, (2, 67)), (3, (0, i))] [] xKL H1) : xkq X d 265 (fun r _ _ => r = 1) 1214 [(0, (4, 0)), (1, (2, 0)), (2, (2, 67)), (3, (0, i))] [] xKL H := by
  have hx := hX.2.1
  show xkq X d 265 (fun r _ _ => r = 1) 1214 [(0, (4, 0)), (1, (2, 0)), (2, (2, 67)), (3, (0, i))] [] xKL H
  refine xkq_run [1233, 1252, 1536] 300 ?_
  show (xI (i + 1)) ∧ ((0 : Int) ≤ i + 1 ∧ (i + 1 : Int) < X.1) ∧ (xI (i + 2)) ∧ ((0 : Int) ≤ i + 2 ∧ (i + 2 : Int) < X.1) ∧ (xI (i + 3)) ∧ ((0 : Int) ≤ i + 3 ∧ (i + 3 : Int) < X.1) ∧ xWM (xE X) xMC d 217 [(2, 0), (0, X.2 (i + 1)), (0, X.2 (i + 2)), (0, X.2 (i + 3))] xKZ H _
  refine ⟨(by unfold xI; omega), ?_⟩
  refine ⟨⟨by omega, by omega⟩, ?_⟩
  refine ⟨(by unfold xI; omega), ?_⟩
  refine ⟨⟨by omega, by omega⟩, ?_⟩
  refine ⟨(by unfold xI; omega), ?_⟩
  refine ⟨⟨by omega, by omega⟩, ?_⟩
  refine xc_in (xc_mono (fun r1 H1 q1 => ?_) (a_walked hd (X.2 (i + 1)) (X.2 (i + 2)) (X.2 (i + 3)) H  h))
  show xkq X d 265 (fun r _ _ => r = 1) 1233 [(0, (4, 0)), (1, (2, 0)), (2, (2, 67)), (3, (0, i))] [(0, r1)] xKL H1
  refine xkq_run [1233, 1252, 1536] 300 ?_
  show (xI (i + 1)) ∧ ((0 : Int) ≤ i + 1 ∧ (i + 1 : Int) < X.1) ∧ (xI (i + 2)) ∧ ((0 : Int) ≤ i + 2 ∧ (i + 2 : Int) < X.1) ∧ (xI (i + 3)) ∧ ((0 : Int) ≤ i + 3 ∧ (i + 3 : Int) < X.1) ∧ xWM (xE X) xMC d 227 [(2, 67), (0, X.2 (i + 1)), (0, X.2 (i + 2)), (0, X.2 (i + 3))] xKZ H1 _
  refine ⟨(by unfold xI; omega), ?_⟩
  refine ⟨⟨by omega, by omega⟩, ?_⟩
  refine ⟨(by unfold xI; omega), ?_⟩
  refine ⟨⟨by omega, by omega⟩, ?_⟩
  refine ⟨(by unfold xI; omega), ?_⟩
  refine ⟨⟨by omega, by omega⟩, ?_⟩
  refine xc_in (xc_mono (fun r2 H2 q2 => ?_) q1)
  show xkq X d 265 (fun r _ _ => r = 1) 1252 [(0, (4, 0)), (1, (2, 0)), (2, (2, 67)), (3, (0, i))] [(0, r2), (0, r1)] xKL H2
  refine xkq_run [1233, 1252, 1536] 300 ?_
  show ((r1 = r2) → xkq X d 265 (fun r _ _ => r = 1) 1536 [(0, (4, 0)), (1, (2, 0)), (2, (2, 67)), (3, (0, i))] [] xKL H2) ∧ (¬ (r1 = r2) → xfR 3 0 ∧ (0 : Int) = 1)
  exact ⟨fun _ => hN _ q2.2, fun c => absurd q2.1.symm c⟩

set_option maxHeartbeats 8000000 in
set_option maxRecDepth 8000 in
theorem lc_29 {X : Int × (Int → Int)} {d : Nat} (hd : 40 ≤ d) (hX : xX X) (i : Int) (hi : 2 ≤ i ∧ i + 7 ≤ X.1) (H : XH) (h : InvZ H) (hN : ∀ H1, InvZ H1 → xkq X d 265 (fun r _ _ => r = 1) 1536 [(0, (4, 0)), (1, (2, 0)), (2, (2, 67)), (3, (0, i))] [] xKL H1) : xkq X d 265 (fun r _ _ => r = 1) 1257 [(0, (4, 0)), (1, (2, 0)), (2, (2, 67)), (3, (0, i))] [] xKL H := by
  have hx := hX.2.1
  show xkq X d 265 (fun r _ _ => r = 1) 1257 [(0, (4, 0)), (1, (2, 0)), (2, (2, 67)), (3, (0, i))] [] xKL H
  refine xkq_run [1266, 1275, 1536] 300 ?_
  show (xI (i + 1)) ∧ ((0 : Int) ≤ i + 1 ∧ (i + 1 : Int) < X.1) ∧ xWM (xE X) xMC d 230 [(2, 0), (0, X.2 (i + 1))] xKZ H _
  refine ⟨(by unfold xI; omega), ?_⟩
  refine ⟨⟨by omega, by omega⟩, ?_⟩
  refine xc_in (xc_mono (fun r1 H1 q1 => ?_) (a_wear hd (X.2 (i + 1)) H  h))
  show xkq X d 265 (fun r _ _ => r = 1) 1266 [(0, (4, 0)), (1, (2, 0)), (2, (2, 67)), (3, (0, i))] [(0, r1)] xKL H1
  refine xkq_run [1266, 1275, 1536] 300 ?_
  show (xI (i + 1)) ∧ ((0 : Int) ≤ i + 1 ∧ (i + 1 : Int) < X.1) ∧ xWM (xE X) xMC d 231 [(2, 67), (0, X.2 (i + 1))] xKZ H1 _
  refine ⟨(by unfold xI; omega), ?_⟩
  refine ⟨⟨by omega, by omega⟩, ?_⟩
  refine xc_in (xc_mono (fun r2 H2 q2 => ?_) q1)
  show xkq X d 265 (fun r _ _ => r = 1) 1275 [(0, (4, 0)), (1, (2, 0)), (2, (2, 67)), (3, (0, i))] [(0, r2), (0, r1)] xKL H2
  refine xkq_run [1266, 1275, 1536] 300 ?_
  show ((r1 = r2) → xkq X d 265 (fun r _ _ => r = 1) 1536 [(0, (4, 0)), (1, (2, 0)), (2, (2, 67)), (3, (0, i))] [] xKL H2) ∧ (¬ (r1 = r2) → xfR 3 0 ∧ (0 : Int) = 1)
  exact ⟨fun _ => hN _ q2.2, fun c => absurd q2.1.symm c⟩

set_option maxHeartbeats 8000000 in
set_option maxRecDepth 8000 in
theorem lc_30 {X : Int × (Int → Int)} {d : Nat} (hd : 40 ≤ d) (hX : xX X) (i : Int) (hi : 2 ≤ i ∧ i + 7 ≤ X.1) (H : XH) (h : InvZ H) (hN : ∀ H1, InvZ H1 → xkq X d 265 (fun r _ _ => r = 1) 1536 [(0, (4, 0)), (1, (2, 0)), (2, (2, 67)), (3, (0, i))] [] xKL H1) : xkq X d 265 (fun r _ _ => r = 1) 1280 [(0, (4, 0)), (1, (2, 0)), (2, (2, 67)), (3, (0, i))] [] xKL H := by
  have hx := hX.2.1
  show xkq X d 265 (fun r _ _ => r = 1) 1280 [(0, (4, 0)), (1, (2, 0)), (2, (2, 67)), (3, (0, i))] [] xKL H
  refine xkq_run [1294, 1308, 1536] 300 ?_
  show (xI (i + 1)) ∧ ((0 : Int) ≤ i + 1 ∧ (i + 1 : Int) < X.1) ∧ (xI (i + 2)) ∧ ((0 : Int) ≤ i + 2 ∧ (i + 2 : Int) < X.1) ∧ xWM (xE X) xMC d 237 [(2, 0), (0, X.2 (i + 1)), (0, X.2 (i + 2))] xKZ H _
  refine ⟨(by unfold xI; omega), ?_⟩
  refine ⟨⟨by omega, by omega⟩, ?_⟩
  refine ⟨(by unfold xI; omega), ?_⟩
  refine ⟨⟨by omega, by omega⟩, ?_⟩
  refine xc_in (xc_mono (fun r1 H1 q1 => ?_) (a_held hd (X.2 (i + 1)) (X.2 (i + 2)) H (hX.2.2 _ (by omega) (by omega)) h))
  show xkq X d 265 (fun r _ _ => r = 1) 1294 [(0, (4, 0)), (1, (2, 0)), (2, (2, 67)), (3, (0, i))] [(0, r1)] xKL H1
  refine xkq_run [1294, 1308, 1536] 300 ?_
  show (xI (i + 1)) ∧ ((0 : Int) ≤ i + 1 ∧ (i + 1 : Int) < X.1) ∧ (xI (i + 2)) ∧ ((0 : Int) ≤ i + 2 ∧ (i + 2 : Int) < X.1) ∧ xWM (xE X) xMC d 239 [(2, 67), (0, X.2 (i + 1)), (0, X.2 (i + 2))] xKZ H1 _
  refine ⟨(by unfold xI; omega), ?_⟩
  refine ⟨⟨by omega, by omega⟩, ?_⟩
  refine ⟨(by unfold xI; omega), ?_⟩
  refine ⟨⟨by omega, by omega⟩, ?_⟩
  refine xc_in (xc_mono (fun r2 H2 q2 => ?_) q1)
  show xkq X d 265 (fun r _ _ => r = 1) 1308 [(0, (4, 0)), (1, (2, 0)), (2, (2, 67)), (3, (0, i))] [(0, r2), (0, r1)] xKL H2
  refine xkq_run [1294, 1308, 1536] 300 ?_
  show ((r1 = r2) → xkq X d 265 (fun r _ _ => r = 1) 1536 [(0, (4, 0)), (1, (2, 0)), (2, (2, 67)), (3, (0, i))] [] xKL H2) ∧ (¬ (r1 = r2) → xfR 3 0 ∧ (0 : Int) = 1)
  exact ⟨fun _ => hN _ q2.2, fun c => absurd q2.1.symm c⟩

set_option maxHeartbeats 8000000 in
set_option maxRecDepth 8000 in
theorem lc_31 {X : Int × (Int → Int)} {d : Nat} (hd : 40 ≤ d) (hX : xX X) (i : Int) (hi : 2 ≤ i ∧ i + 7 ≤ X.1) (H : XH) (h : InvZ H) (hN : ∀ H1, InvZ H1 → xkq X d 265 (fun r _ _ => r = 1) 1536 [(0, (4, 0)), (1, (2, 0)), (2, (2, 67)), (3, (0, i))] [] xKL H1) : xkq X d 265 (fun r _ _ => r = 1) 1313 [(0, (4, 0)), (1, (2, 0)), (2, (2, 67)), (3, (0, i))] [] xKL H := by
  have hx := hX.2.1
  show xkq X d 265 (fun r _ _ => r = 1) 1313 [(0, (4, 0)), (1, (2, 0)), (2, (2, 67)), (3, (0, i))] [] xKL H
  refine xkq_run [1322, 1331, 1536] 300 ?_
  show (xI (i + 1)) ∧ ((0 : Int) ≤ i + 1 ∧ (i + 1 : Int) < X.1) ∧ xWM (xE X) xMC d 240 [(2, 0), (0, X.2 (i + 1))] xKZ H _
  refine ⟨(by unfold xI; omega), ?_⟩
  refine ⟨⟨by omega, by omega⟩, ?_⟩
  refine xc_in (xc_mono (fun r1 H1 q1 => ?_) (a_believed hd (X.2 (i + 1)) H  h))
  show xkq X d 265 (fun r _ _ => r = 1) 1322 [(0, (4, 0)), (1, (2, 0)), (2, (2, 67)), (3, (0, i))] [(0, r1)] xKL H1
  refine xkq_run [1322, 1331, 1536] 300 ?_
  show (xI (i + 1)) ∧ ((0 : Int) ≤ i + 1 ∧ (i + 1 : Int) < X.1) ∧ xWM (xE X) xMC d 241 [(2, 67), (0, X.2 (i + 1))] xKZ H1 _
  refine ⟨(by unfold xI; omega), ?_⟩
  refine ⟨⟨by omega, by omega⟩, ?_⟩
  refine xc_in (xc_mono (fun r2 H2 q2 => ?_) q1)
  show xkq X d 265 (fun r _ _ => r = 1) 1331 [(0, (4, 0)), (1, (2, 0)), (2, (2, 67)), (3, (0, i))] [(0, r2), (0, r1)] xKL H2
  refine xkq_run [1322, 1331, 1536] 300 ?_
  show ((r1 = r2) → xkq X d 265 (fun r _ _ => r = 1) 1536 [(0, (4, 0)), (1, (2, 0)), (2, (2, 67)), (3, (0, i))] [] xKL H2) ∧ (¬ (r1 = r2) → xfR 3 0 ∧ (0 : Int) = 1)
  exact ⟨fun _ => hN _ q2.2, fun c => absurd q2.1.symm c⟩

set_option maxHeartbeats 8000000 in
set_option maxRecDepth 8000 in
theorem lc_32 {X : Int × (Int → Int)} {d : Nat} (hd : 40 ≤ d) (hX : xX X) (i : Int) (hi : 2 ≤ i ∧ i + 7 ≤ X.1) (H : XH) (h : InvZ H) (hN : ∀ H1, InvZ H1 → xkq X d 265 (fun r _ _ => r = 1) 1536 [(0, (4, 0)), (1, (2, 0)), (2, (2, 67)), (3, (0, i))] [] xKL H1) : xkq X d 265 (fun r _ _ => r = 1) 1336 [(0, (4, 0)), (1, (2, 0)), (2, (2, 67)), (3, (0, i))] [] xKL H := by
  have hx := hX.2.1
  show xkq X d 265 (fun r _ _ => r = 1) 1336 [(0, (4, 0)), (1, (2, 0)), (2, (2, 67)), (3, (0, i))] [] xKL H
  refine xkq_run [1381, 1426, 1536] 300 ?_
  show (xI (i + 1)) ∧ ((0 : Int) ≤ i + 1 ∧ (i + 1 : Int) < X.1) ∧ (xI (i + 2)) ∧ ((0 : Int) ≤ i + 2 ∧ (i + 2 : Int) < X.1) ∧ (xI (i + 3)) ∧ ((0 : Int) ≤ i + 3 ∧ (i + 3 : Int) < X.1) ∧ (xI (i + 4)) ∧ ((0 : Int) ≤ i + 4 ∧ (i + 4 : Int) < X.1) ∧ ((X.2 (i + 4) = 0) → (xI (i + 5)) ∧ ((0 : Int) ≤ i + 5 ∧ (i + 5 : Int) < X.1) ∧ ((X.2 (i + 5) = 0) → xWM (xE X) xMC d 243 [(2, 0), (0, X.2 (i + 1)), (0, X.2 (i + 2)), (0, X.2 (i + 3)), (0, 0), (0, 0)] xKZ H _) ∧ (¬ (X.2 (i + 5) = 0) → xWM (xE X) xMC d 243 [(2, 0), (0, X.2 (i + 1)), (0, X.2 (i + 2)), (0, X.2 (i + 3)), (0, 0), (0, 1)] xKZ H _)) ∧ (¬ (X.2 (i + 4) = 0) → (xI (i + 5)) ∧ ((0 : Int) ≤ i + 5 ∧ (i + 5 : Int) < X.1) ∧ ((X.2 (i + 5) = 0) → xWM (xE X) xMC d 243 [(2, 0), (0, X.2 (i + 1)), (0, X.2 (i + 2)), (0, X.2 (i + 3)), (0, 1), (0, 0)] xKZ H _) ∧ (¬ (X.2 (i + 5) = 0) → xWM (xE X) xMC d 243 [(2, 0), (0, X.2 (i + 1)), (0, X.2 (i + 2)), (0, X.2 (i + 3)), (0, 1), (0, 1)] xKZ H _))
  refine ⟨(by unfold xI; omega), ?_⟩
  refine ⟨⟨by omega, by omega⟩, ?_⟩
  refine ⟨(by unfold xI; omega), ?_⟩
  refine ⟨⟨by omega, by omega⟩, ?_⟩
  refine ⟨(by unfold xI; omega), ?_⟩
  refine ⟨⟨by omega, by omega⟩, ?_⟩
  refine ⟨(by unfold xI; omega), ?_⟩
  refine ⟨⟨by omega, by omega⟩, ?_⟩
  refine ⟨fun c1 => ?_, fun c1 => ?_⟩
  · skip
    refine ⟨(by unfold xI; omega), ?_⟩
    refine ⟨⟨by omega, by omega⟩, ?_⟩
    refine ⟨fun c2 => ?_, fun c2 => ?_⟩
    · skip
      refine xc_in (xc_mono (fun r3 H3 q3 => ?_) (a_verdict hd (X.2 (i + 1)) (X.2 (i + 2)) (X.2 (i + 3)) 0 0 H (Or.inl rfl) (Or.inl rfl) h))
      show xkq X d 265 (fun r _ _ => r = 1) 1381 [(0, (4, 0)), (1, (2, 0)), (2, (2, 67)), (3, (0, i))] [(0, r3)] xKL H3
      refine xkq_run [1381, 1426, 1536] 300 ?_
      show (xI (i + 1)) ∧ ((0 : Int) ≤ i + 1 ∧ (i + 1 : Int) < X.1) ∧ (xI (i + 2)) ∧ ((0 : Int) ≤ i + 2 ∧ (i + 2 : Int) < X.1) ∧ (xI (i + 3)) ∧ ((0 : Int) ≤ i + 3 ∧ (i + 3 : Int) < X.1) ∧ (xI (i + 4)) ∧ ((0 : Int) ≤ i + 4 ∧ (i + 4 : Int) < X.1) ∧ ((X.2 (i + 4) = 0) → (xI (i + 5)) ∧ ((0 : Int) ≤ i + 5 ∧ (i + 5 : Int) < X.1) ∧ ((X.2 (i + 5) = 0) → xWM (xE X) xMC d 244 [(2, 67), (0, X.2 (i + 1)), (0, X.2 (i + 2)), (0, X.2 (i + 3)), (0, 0), (0, 0)] xKZ H3 _) ∧ (¬ (X.2 (i + 5) = 0) → xWM (xE X) xMC d 244 [(2, 67), (0, X.2 (i + 1)), (0, X.2 (i + 2)), (0, X.2 (i + 3)), (0, 0), (0, 1)] xKZ H3 _)) ∧ (¬ (X.2 (i + 4) = 0) → (xI (i + 5)) ∧ ((0 : Int) ≤ i + 5 ∧ (i + 5 : Int) < X.1) ∧ ((X.2 (i + 5) = 0) → xWM (xE X) xMC d 244 [(2, 67), (0, X.2 (i + 1)), (0, X.2 (i + 2)), (0, X.2 (i + 3)), (0, 1), (0, 0)] xKZ H3 _) ∧ (¬ (X.2 (i + 5) = 0) → xWM (xE X) xMC d 244 [(2, 67), (0, X.2 (i + 1)), (0, X.2 (i + 2)), (0, X.2 (i + 3)), (0, 1), (0, 1)] xKZ H3 _))
      refine ⟨(by unfold xI; omega), ?_⟩
      refine ⟨⟨by omega, by omega⟩, ?_⟩
      refine ⟨(by unfold xI; omega), ?_⟩
      refine ⟨⟨by omega, by omega⟩, ?_⟩
      refine ⟨(by unfold xI; omega), ?_⟩
      refine ⟨⟨by omega, by omega⟩, ?_⟩
      refine ⟨(by unfold xI; omega), ?_⟩
      refine ⟨⟨by omega, by omega⟩, ?_⟩
      refine ⟨fun _ => ?_, fun c => absurd c1 c⟩
      refine ⟨(by unfold xI; omega), ?_⟩
      refine ⟨⟨by omega, by omega⟩, ?_⟩
      refine ⟨fun _ => ?_, fun c => absurd c2 c⟩
      refine xc_in (xc_mono (fun r6 H6 q6 => ?_) q3)
      show xkq X d 265 (fun r _ _ => r = 1) 1426 [(0, (4, 0)), (1, (2, 0)), (2, (2, 67)), (3, (0, i))] [(0, r6), (0, r3)] xKL H6
      refine xkq_run [1381, 1426, 1536] 300 ?_
      show ((r3 = r6) → xkq X d 265 (fun r _ _ => r = 1) 1536 [(0, (4, 0)), (1, (2, 0)), (2, (2, 67)), (3, (0, i))] [] xKL H6) ∧ (¬ (r3 = r6) → xfR 3 0 ∧ (0 : Int) = 1)
      exact ⟨fun _ => hN _ q6.2, fun c => absurd q6.1.symm c⟩
    · skip
      refine xc_in (xc_mono (fun r7 H7 q7 => ?_) (a_verdict hd (X.2 (i + 1)) (X.2 (i + 2)) (X.2 (i + 3)) 0 1 H (Or.inl rfl) (Or.inr rfl) h))
      show xkq X d 265 (fun r _ _ => r = 1) 1381 [(0, (4, 0)), (1, (2, 0)), (2, (2, 67)), (3, (0, i))] [(0, r7)] xKL H7
      refine xkq_run [1381, 1426, 1536] 300 ?_
      show (xI (i + 1)) ∧ ((0 : Int) ≤ i + 1 ∧ (i + 1 : Int) < X.1) ∧ (xI (i + 2)) ∧ ((0 : Int) ≤ i + 2 ∧ (i + 2 : Int) < X.1) ∧ (xI (i + 3)) ∧ ((0 : Int) ≤ i + 3 ∧ (i + 3 : Int) < X.1) ∧ (xI (i + 4)) ∧ ((0 : Int) ≤ i + 4 ∧ (i + 4 : Int) < X.1) ∧ ((X.2 (i + 4) = 0) → (xI (i + 5)) ∧ ((0 : Int) ≤ i + 5 ∧ (i + 5 : Int) < X.1) ∧ ((X.2 (i + 5) = 0) → xWM (xE X) xMC d 244 [(2, 67), (0, X.2 (i + 1)), (0, X.2 (i + 2)), (0, X.2 (i + 3)), (0, 0), (0, 0)] xKZ H7 _) ∧ (¬ (X.2 (i + 5) = 0) → xWM (xE X) xMC d 244 [(2, 67), (0, X.2 (i + 1)), (0, X.2 (i + 2)), (0, X.2 (i + 3)), (0, 0), (0, 1)] xKZ H7 _)) ∧ (¬ (X.2 (i + 4) = 0) → (xI (i + 5)) ∧ ((0 : Int) ≤ i + 5 ∧ (i + 5 : Int) < X.1) ∧ ((X.2 (i + 5) = 0) → xWM (xE X) xMC d 244 [(2, 67), (0, X.2 (i + 1)), (0, X.2 (i + 2)), (0, X.2 (i + 3)), (0, 1), (0, 0)] xKZ H7 _) ∧ (¬ (X.2 (i + 5) = 0) → xWM (xE X) xMC d 244 [(2, 67), (0, X.2 (i + 1)), (0, X.2 (i + 2)), (0, X.2 (i + 3)), (0, 1), (0, 1)] xKZ H7 _))
      refine ⟨(by unfold xI; omega), ?_⟩
      refine ⟨⟨by omega, by omega⟩, ?_⟩
      refine ⟨(by unfold xI; omega), ?_⟩
      refine ⟨⟨by omega, by omega⟩, ?_⟩
      refine ⟨(by unfold xI; omega), ?_⟩
      refine ⟨⟨by omega, by omega⟩, ?_⟩
      refine ⟨(by unfold xI; omega), ?_⟩
      refine ⟨⟨by omega, by omega⟩, ?_⟩
      refine ⟨fun _ => ?_, fun c => absurd c1 c⟩
      refine ⟨(by unfold xI; omega), ?_⟩
      refine ⟨⟨by omega, by omega⟩, ?_⟩
      refine ⟨fun c => absurd c c2, fun _ => ?_⟩
      refine xc_in (xc_mono (fun r10 H10 q10 => ?_) q7)
      show xkq X d 265 (fun r _ _ => r = 1) 1426 [(0, (4, 0)), (1, (2, 0)), (2, (2, 67)), (3, (0, i))] [(0, r10), (0, r7)] xKL H10
      refine xkq_run [1381, 1426, 1536] 300 ?_
      show ((r7 = r10) → xkq X d 265 (fun r _ _ => r = 1) 1536 [(0, (4, 0)), (1, (2, 0)), (2, (2, 67)), (3, (0, i))] [] xKL H10) ∧ (¬ (r7 = r10) → xfR 3 0 ∧ (0 : Int) = 1)
      exact ⟨fun _ => hN _ q10.2, fun c => absurd q10.1.symm c⟩
  · skip
    refine ⟨(by unfold xI; omega), ?_⟩
    refine ⟨⟨by omega, by omega⟩, ?_⟩
    refine ⟨fun c11 => ?_, fun c11 => ?_⟩
    · skip
      refine xc_in (xc_mono (fun r12 H12 q12 => ?_) (a_verdict hd (X.2 (i + 1)) (X.2 (i + 2)) (X.2 (i + 3)) 1 0 H (Or.inr rfl) (Or.inl rfl) h))
      show xkq X d 265 (fun r _ _ => r = 1) 1381 [(0, (4, 0)), (1, (2, 0)), (2, (2, 67)), (3, (0, i))] [(0, r12)] xKL H12
      refine xkq_run [1381, 1426, 1536] 300 ?_
      show (xI (i + 1)) ∧ ((0 : Int) ≤ i + 1 ∧ (i + 1 : Int) < X.1) ∧ (xI (i + 2)) ∧ ((0 : Int) ≤ i + 2 ∧ (i + 2 : Int) < X.1) ∧ (xI (i + 3)) ∧ ((0 : Int) ≤ i + 3 ∧ (i + 3 : Int) < X.1) ∧ (xI (i + 4)) ∧ ((0 : Int) ≤ i + 4 ∧ (i + 4 : Int) < X.1) ∧ ((X.2 (i + 4) = 0) → (xI (i + 5)) ∧ ((0 : Int) ≤ i + 5 ∧ (i + 5 : Int) < X.1) ∧ ((X.2 (i + 5) = 0) → xWM (xE X) xMC d 244 [(2, 67), (0, X.2 (i + 1)), (0, X.2 (i + 2)), (0, X.2 (i + 3)), (0, 0), (0, 0)] xKZ H12 _) ∧ (¬ (X.2 (i + 5) = 0) → xWM (xE X) xMC d 244 [(2, 67), (0, X.2 (i + 1)), (0, X.2 (i + 2)), (0, X.2 (i + 3)), (0, 0), (0, 1)] xKZ H12 _)) ∧ (¬ (X.2 (i + 4) = 0) → (xI (i + 5)) ∧ ((0 : Int) ≤ i + 5 ∧ (i + 5 : Int) < X.1) ∧ ((X.2 (i + 5) = 0) → xWM (xE X) xMC d 244 [(2, 67), (0, X.2 (i + 1)), (0, X.2 (i + 2)), (0, X.2 (i + 3)), (0, 1), (0, 0)] xKZ H12 _) ∧ (¬ (X.2 (i + 5) = 0) → xWM (xE X) xMC d 244 [(2, 67), (0, X.2 (i + 1)), (0, X.2 (i + 2)), (0, X.2 (i + 3)), (0, 1), (0, 1)] xKZ H12 _))
      refine ⟨(by unfold xI; omega), ?_⟩
      refine ⟨⟨by omega, by omega⟩, ?_⟩
      refine ⟨(by unfold xI; omega), ?_⟩
      refine ⟨⟨by omega, by omega⟩, ?_⟩
      refine ⟨(by unfold xI; omega), ?_⟩
      refine ⟨⟨by omega, by omega⟩, ?_⟩
      refine ⟨(by unfold xI; omega), ?_⟩
      refine ⟨⟨by omega, by omega⟩, ?_⟩
      refine ⟨fun c => absurd c c1, fun _ => ?_⟩
      refine ⟨(by unfold xI; omega), ?_⟩
      refine ⟨⟨by omega, by omega⟩, ?_⟩
      refine ⟨fun _ => ?_, fun c => absurd c11 c⟩
      refine xc_in (xc_mono (fun r15 H15 q15 => ?_) q12)
      show xkq X d 265 (fun r _ _ => r = 1) 1426 [(0, (4, 0)), (1, (2, 0)), (2, (2, 67)), (3, (0, i))] [(0, r15), (0, r12)] xKL H15
      refine xkq_run [1381, 1426, 1536] 300 ?_
      show ((r12 = r15) → xkq X d 265 (fun r _ _ => r = 1) 1536 [(0, (4, 0)), (1, (2, 0)), (2, (2, 67)), (3, (0, i))] [] xKL H15) ∧ (¬ (r12 = r15) → xfR 3 0 ∧ (0 : Int) = 1)
      exact ⟨fun _ => hN _ q15.2, fun c => absurd q15.1.symm c⟩
    · skip
      refine xc_in (xc_mono (fun r16 H16 q16 => ?_) (a_verdict hd (X.2 (i + 1)) (X.2 (i + 2)) (X.2 (i + 3)) 1 1 H (Or.inr rfl) (Or.inr rfl) h))
      show xkq X d 265 (fun r _ _ => r = 1) 1381 [(0, (4, 0)), (1, (2, 0)), (2, (2, 67)), (3, (0, i))] [(0, r16)] xKL H16
      refine xkq_run [1381, 1426, 1536] 300 ?_
      show (xI (i + 1)) ∧ ((0 : Int) ≤ i + 1 ∧ (i + 1 : Int) < X.1) ∧ (xI (i + 2)) ∧ ((0 : Int) ≤ i + 2 ∧ (i + 2 : Int) < X.1) ∧ (xI (i + 3)) ∧ ((0 : Int) ≤ i + 3 ∧ (i + 3 : Int) < X.1) ∧ (xI (i + 4)) ∧ ((0 : Int) ≤ i + 4 ∧ (i + 4 : Int) < X.1) ∧ ((X.2 (i + 4) = 0) → (xI (i + 5)) ∧ ((0 : Int) ≤ i + 5 ∧ (i + 5 : Int) < X.1) ∧ ((X.2 (i + 5) = 0) → xWM (xE X) xMC d 244 [(2, 67), (0, X.2 (i + 1)), (0, X.2 (i + 2)), (0, X.2 (i + 3)), (0, 0), (0, 0)] xKZ H16 _) ∧ (¬ (X.2 (i + 5) = 0) → xWM (xE X) xMC d 244 [(2, 67), (0, X.2 (i + 1)), (0, X.2 (i + 2)), (0, X.2 (i + 3)), (0, 0), (0, 1)] xKZ H16 _)) ∧ (¬ (X.2 (i + 4) = 0) → (xI (i + 5)) ∧ ((0 : Int) ≤ i + 5 ∧ (i + 5 : Int) < X.1) ∧ ((X.2 (i + 5) = 0) → xWM (xE X) xMC d 244 [(2, 67), (0, X.2 (i + 1)), (0, X.2 (i + 2)), (0, X.2 (i + 3)), (0, 1), (0, 0)] xKZ H16 _) ∧ (¬ (X.2 (i + 5) = 0) → xWM (xE X) xMC d 244 [(2, 67), (0, X.2 (i + 1)), (0, X.2 (i + 2)), (0, X.2 (i + 3)), (0, 1), (0, 1)] xKZ H16 _))
      refine ⟨(by unfold xI; omega), ?_⟩
      refine ⟨⟨by omega, by omega⟩, ?_⟩
      refine ⟨(by unfold xI; omega), ?_⟩
      refine ⟨⟨by omega, by omega⟩, ?_⟩
      refine ⟨(by unfold xI; omega), ?_⟩
      refine ⟨⟨by omega, by omega⟩, ?_⟩
      refine ⟨(by unfold xI; omega), ?_⟩
      refine ⟨⟨by omega, by omega⟩, ?_⟩
      refine ⟨fun c => absurd c c1, fun _ => ?_⟩
      refine ⟨(by unfold xI; omega), ?_⟩
      refine ⟨⟨by omega, by omega⟩, ?_⟩
      refine ⟨fun c => absurd c c11, fun _ => ?_⟩
      refine xc_in (xc_mono (fun r19 H19 q19 => ?_) q16)
      show xkq X d 265 (fun r _ _ => r = 1) 1426 [(0, (4, 0)), (1, (2, 0)), (2, (2, 67)), (3, (0, i))] [(0, r19), (0, r16)] xKL H19
      refine xkq_run [1381, 1426, 1536] 300 ?_
      show ((r16 = r19) → xkq X d 265 (fun r _ _ => r = 1) 1536 [(0, (4, 0)), (1, (2, 0)), (2, (2, 67)), (3, (0, i))] [] xKL H19) ∧ (¬ (r16 = r19) → xfR 3 0 ∧ (0 : Int) = 1)
      exact ⟨fun _ => hN _ q19.2, fun c => absurd q19.1.symm c⟩

set_option maxHeartbeats 8000000 in
set_option maxRecDepth 8000 in
theorem lc_33 {X : Int × (Int → Int)} {d : Nat} (hd : 40 ≤ d) (hX : xX X) (i : Int) (hi : 2 ≤ i ∧ i + 7 ≤ X.1) (H : XH) (h : InvZ H) (hN : ∀ H1, InvZ H1 → xkq X d 265 (fun r _ _ => r = 1) 1536 [(0, (4, 0)), (1, (2, 0)), (2, (2, 67)), (3, (0, i))] [] xKL H1) : xkq X d 265 (fun r _ _ => r = 1) 1431 [(0, (4, 0)), (1, (2, 0)), (2, (2, 67)), (3, (0, i))] [] xKL H := by
  have hx := hX.2.1
  show xkq X d 265 (fun r _ _ => r = 1) 1431 [(0, (4, 0)), (1, (2, 0)), (2, (2, 67)), (3, (0, i))] [] xKL H
  refine xkq_run [1440, 1449, 1536] 300 ?_
  show (xI (i + 1)) ∧ ((0 : Int) ≤ i + 1 ∧ (i + 1 : Int) < X.1) ∧ xWM (xE X) xMC d 247 [(2, 0), (0, X.2 (i + 1))] xKZ H _
  refine ⟨(by unfold xI; omega), ?_⟩
  refine ⟨⟨by omega, by omega⟩, ?_⟩
  refine xc_in (xc_mono (fun r1 H1 q1 => ?_) (a_lean hd (X.2 (i + 1)) H  h))
  show xkq X d 265 (fun r _ _ => r = 1) 1440 [(0, (4, 0)), (1, (2, 0)), (2, (2, 67)), (3, (0, i))] [(0, r1)] xKL H1
  refine xkq_run [1440, 1449, 1536] 300 ?_
  show (xI (i + 1)) ∧ ((0 : Int) ≤ i + 1 ∧ (i + 1 : Int) < X.1) ∧ xWM (xE X) xMC d 249 [(2, 67), (0, X.2 (i + 1))] xKZ H1 _
  refine ⟨(by unfold xI; omega), ?_⟩
  refine ⟨⟨by omega, by omega⟩, ?_⟩
  refine xc_in (xc_mono (fun r2 H2 q2 => ?_) q1)
  show xkq X d 265 (fun r _ _ => r = 1) 1449 [(0, (4, 0)), (1, (2, 0)), (2, (2, 67)), (3, (0, i))] [(0, r2), (0, r1)] xKL H2
  refine xkq_run [1440, 1449, 1536] 300 ?_
  show ((r1 = r2) → xkq X d 265 (fun r _ _ => r = 1) 1536 [(0, (4, 0)), (1, (2, 0)), (2, (2, 67)), (3, (0, i))] [] xKL H2) ∧ (¬ (r1 = r2) → xfR 3 0 ∧ (0 : Int) = 1)
  exact ⟨fun _ => hN _ q2.2, fun c => absurd q2.1.symm c⟩

set_option maxHeartbeats 8000000 in
set_option maxRecDepth 8000 in
theorem lc_34 {X : Int × (Int → Int)} {d : Nat} (hd : 40 ≤ d) (hX : xX X) (i : Int) (hi : 2 ≤ i ∧ i + 7 ≤ X.1) (H : XH) (h : InvZ H) (hN : ∀ H1, InvZ H1 → xkq X d 265 (fun r _ _ => r = 1) 1536 [(0, (4, 0)), (1, (2, 0)), (2, (2, 67)), (3, (0, i))] [] xKL H1) : xkq X d 265 (fun r _ _ => r = 1) 1454 [(0, (4, 0)), (1, (2, 0)), (2, (2, 67)), (3, (0, i))] [] xKL H := by
  have hx := hX.2.1
  show xkq X d 265 (fun r _ _ => r = 1) 1454 [(0, (4, 0)), (1, (2, 0)), (2, (2, 67)), (3, (0, i))] [] xKL H
  refine xkq_run [1468, 1482, 1536] 300 ?_
  show (xI (i + 1)) ∧ ((0 : Int) ≤ i + 1 ∧ (i + 1 : Int) < X.1) ∧ (xI (i + 2)) ∧ ((0 : Int) ≤ i + 2 ∧ (i + 2 : Int) < X.1) ∧ xWM (xE X) xMC d 251 [(2, 0), (0, X.2 (i + 1)), (0, X.2 (i + 2))] xKZ H _
  refine ⟨(by unfold xI; omega), ?_⟩
  refine ⟨⟨by omega, by omega⟩, ?_⟩
  refine ⟨(by unfold xI; omega), ?_⟩
  refine ⟨⟨by omega, by omega⟩, ?_⟩
  refine xc_in (xc_mono (fun r1 H1 q1 => ?_) (a_agree hd (X.2 (i + 1)) (X.2 (i + 2)) H  h))
  show xkq X d 265 (fun r _ _ => r = 1) 1468 [(0, (4, 0)), (1, (2, 0)), (2, (2, 67)), (3, (0, i))] [(0, r1)] xKL H1
  refine xkq_run [1468, 1482, 1536] 300 ?_
  show (xI (i + 1)) ∧ ((0 : Int) ≤ i + 1 ∧ (i + 1 : Int) < X.1) ∧ (xI (i + 2)) ∧ ((0 : Int) ≤ i + 2 ∧ (i + 2 : Int) < X.1) ∧ xWM (xE X) xMC d 252 [(2, 67), (0, X.2 (i + 1)), (0, X.2 (i + 2))] xKZ H1 _
  refine ⟨(by unfold xI; omega), ?_⟩
  refine ⟨⟨by omega, by omega⟩, ?_⟩
  refine ⟨(by unfold xI; omega), ?_⟩
  refine ⟨⟨by omega, by omega⟩, ?_⟩
  refine xc_in (xc_mono (fun r2 H2 q2 => ?_) q1)
  show xkq X d 265 (fun r _ _ => r = 1) 1482 [(0, (4, 0)), (1, (2, 0)), (2, (2, 67)), (3, (0, i))] [(0, r2), (0, r1)] xKL H2
  refine xkq_run [1468, 1482, 1536] 300 ?_
  show ((r1 = r2) → xkq X d 265 (fun r _ _ => r = 1) 1536 [(0, (4, 0)), (1, (2, 0)), (2, (2, 67)), (3, (0, i))] [] xKL H2) ∧ (¬ (r1 = r2) → xfR 3 0 ∧ (0 : Int) = 1)
  exact ⟨fun _ => hN _ q2.2, fun c => absurd q2.1.symm c⟩

set_option maxHeartbeats 8000000 in
set_option maxRecDepth 8000 in
theorem lc_35 {X : Int × (Int → Int)} {d : Nat} (hd : 40 ≤ d) (hX : xX X) (i : Int) (hi : 2 ≤ i ∧ i + 7 ≤ X.1) (H : XH) (h : InvZ H) (hN : ∀ H1, InvZ H1 → xkq X d 265 (fun r _ _ => r = 1) 1536 [(0, (4, 0)), (1, (2, 0)), (2, (2, 67)), (3, (0, i))] [] xKL H1) : xkq X d 265 (fun r _ _ => r = 1) 1487 [(0, (4, 0)), (1, (2, 0)), (2, (2, 67)), (3, (0, i))] [] xKL H := by
  have hx := hX.2.1
  show xkq X d 265 (fun r _ _ => r = 1) 1487 [(0, (4, 0)), (1, (2, 0)), (2, (2, 67)), (3, (0, i))] [] xKL H
  refine xkq_run [1491, 1495, 1536] 300 ?_
  show xWM (xE X) xMC d 259 [(2, 0)] xKZ H _
  refine xc_in (xc_mono (fun r1 H1 q1 => ?_) (a_image hd  H  h))
  show xkq X d 265 (fun r _ _ => r = 1) 1491 [(0, (4, 0)), (1, (2, 0)), (2, (2, 67)), (3, (0, i))] [(0, r1)] xKL H1
  refine xkq_run [1491, 1495, 1536] 300 ?_
  show xWM (xE X) xMC d 260 [(2, 67)] xKZ H1 _
  refine xc_in (xc_mono (fun r2 H2 q2 => ?_) q1)
  show xkq X d 265 (fun r _ _ => r = 1) 1495 [(0, (4, 0)), (1, (2, 0)), (2, (2, 67)), (3, (0, i))] [(0, r2), (0, r1)] xKL H2
  refine xkq_run [1491, 1495, 1536] 300 ?_
  show ((r1 = r2) → xkq X d 265 (fun r _ _ => r = 1) 1536 [(0, (4, 0)), (1, (2, 0)), (2, (2, 67)), (3, (0, i))] [] xKL H2) ∧ (¬ (r1 = r2) → xfR 3 0 ∧ (0 : Int) = 1)
  exact ⟨fun _ => hN _ q2.2, fun c => absurd q2.1.symm c⟩

set_option maxHeartbeats 8000000 in
set_option maxRecDepth 8000 in
theorem lc_36 {X : Int × (Int → Int)} {d : Nat} (hd : 40 ≤ d) (hX : xX X) (i : Int) (hi : 2 ≤ i ∧ i + 7 ≤ X.1) (H : XH) (h : InvZ H) (hN : ∀ H1, InvZ H1 → xkq X d 265 (fun r _ _ => r = 1) 1536 [(0, (4, 0)), (1, (2, 0)), (2, (2, 67)), (3, (0, i))] [] xKL H1) : xkq X d 265 (fun r _ _ => r = 1) 1500 [(0, (4, 0)), (1, (2, 0)), (2, (2, 67)), (3, (0, i))] [] xKL H := by
  have hx := hX.2.1
  show xkq X d 265 (fun r _ _ => r = 1) 1500 [(0, (4, 0)), (1, (2, 0)), (2, (2, 67)), (3, (0, i))] [] xKL H
  refine xkq_run [1504, 1508, 1536] 300 ?_
  show xWM (xE X) xMC d 261 [(2, 0)] xKZ H _
  refine xc_in (xc_mono (fun r1 H1 q1 => ?_) (a_back hd  H  h))
  show xkq X d 265 (fun r _ _ => r = 1) 1504 [(0, (4, 0)), (1, (2, 0)), (2, (2, 67)), (3, (0, i))] [(0, r1)] xKL H1
  refine xkq_run [1504, 1508, 1536] 300 ?_
  show xWM (xE X) xMC d 262 [(2, 67)] xKZ H1 _
  refine xc_in (xc_mono (fun r2 H2 q2 => ?_) q1)
  show xkq X d 265 (fun r _ _ => r = 1) 1508 [(0, (4, 0)), (1, (2, 0)), (2, (2, 67)), (3, (0, i))] [(0, r2), (0, r1)] xKL H2
  refine xkq_run [1504, 1508, 1536] 300 ?_
  show ((r1 = r2) → xkq X d 265 (fun r _ _ => r = 1) 1536 [(0, (4, 0)), (1, (2, 0)), (2, (2, 67)), (3, (0, i))] [] xKL H2) ∧ (¬ (r1 = r2) → xfR 3 0 ∧ (0 : Int) = 1)
  exact ⟨fun _ => hN _ q2.2, fun c => absurd q2.1.symm c⟩

set_option maxHeartbeats 8000000 in
set_option maxRecDepth 8000 in
theorem lc_37 {X : Int × (Int → Int)} {d : Nat} (hd : 40 ≤ d) (hX : xX X) (i : Int) (hi : 2 ≤ i ∧ i + 7 ≤ X.1) (H : XH) (h : InvZ H) (hN : ∀ H1, InvZ H1 → xkq X d 265 (fun r _ _ => r = 1) 1536 [(0, (4, 0)), (1, (2, 0)), (2, (2, 67)), (3, (0, i))] [] xKL H1) : xkq X d 265 (fun r _ _ => r = 1) 1513 [(0, (4, 0)), (1, (2, 0)), (2, (2, 67)), (3, (0, i))] [] xKL H := by
  have hx := hX.2.1
  show xkq X d 265 (fun r _ _ => r = 1) 1513 [(0, (4, 0)), (1, (2, 0)), (2, (2, 67)), (3, (0, i))] [] xKL H
  refine xkq_run [1522, 1531, 1536] 300 ?_
  show (xI (i + 1)) ∧ ((0 : Int) ≤ i + 1 ∧ (i + 1 : Int) < X.1) ∧ xWM (xE X) xMC d 263 [(2, 0), (0, X.2 (i + 1))] xKZ H _
  refine ⟨(by unfold xI; omega), ?_⟩
  refine ⟨⟨by omega, by omega⟩, ?_⟩
  refine xc_in (xc_mono (fun r1 H1 q1 => ?_) (a_about hd (X.2 (i + 1)) H  h))
  show xkq X d 265 (fun r _ _ => r = 1) 1522 [(0, (4, 0)), (1, (2, 0)), (2, (2, 67)), (3, (0, i))] [(0, r1)] xKL H1
  refine xkq_run [1522, 1531, 1536] 300 ?_
  show (xI (i + 1)) ∧ ((0 : Int) ≤ i + 1 ∧ (i + 1 : Int) < X.1) ∧ xWM (xE X) xMC d 264 [(2, 67), (0, X.2 (i + 1))] xKZ H1 _
  refine ⟨(by unfold xI; omega), ?_⟩
  refine ⟨⟨by omega, by omega⟩, ?_⟩
  refine xc_in (xc_mono (fun r2 H2 q2 => ?_) q1)
  show xkq X d 265 (fun r _ _ => r = 1) 1531 [(0, (4, 0)), (1, (2, 0)), (2, (2, 67)), (3, (0, i))] [(0, r2), (0, r1)] xKL H2
  refine xkq_run [1522, 1531, 1536] 300 ?_
  show ((r1 = r2) → xkq X d 265 (fun r _ _ => r = 1) 1536 [(0, (4, 0)), (1, (2, 0)), (2, (2, 67)), (3, (0, i))] [] xKL H2) ∧ (¬ (r1 = r2) → xfR 3 0 ∧ (0 : Int) = 1)
  exact ⟨fun _ => hN _ q2.2, fun c => absurd q2.1.symm c⟩

set_option maxHeartbeats 8000000 in
set_option maxRecDepth 8000 in
theorem law_loop {X : Int × (Int → Int)} {d : Nat} (hd : 40 ≤ d) (hX : xX X) : ∀ (r : Nat) (i : Int) (H : XH), 2 ≤ i → X.1 - i ≤ 7 * (r : Int) → InvZ H → xkq X d 265 (fun r _ _ => r = 1) 38 [(0, (4, 0)), (1, (2, 0)), (2, (2, 67)), (3, (0, i))] [] xKL H := by
  have hx := hX.2.1
  have hx0 := hX.1
  intro r
  induction r with
  | zero =>
    intro i H h2 hr h
    refine xkq_run [220, 295, 328, 377, 410, 469, 532, 545, 608, 641, 674, 707, 740, 763, 796, 819, 832, 875, 898, 947, 970, 993, 1056, 1079, 1092, 1115, 1138, 1191, 1214, 1257, 1280, 1313, 1336, 1431, 1454, 1487, 1500, 1513, 1536] 300 ?_
    show (xI (X.1 - 7)) ∧ ((X.1 - 7 < i) → xfR 3 1 ∧ (1 : Int) = 1) ∧ (¬ (X.1 - 7 < i) → ((0 : Int) ≤ i ∧ (i : Int) < X.1) ∧ ((xand (X.2 i) 63 = 0) → xkq X d 265 (fun r _ _ => r = 1) 220 [(0, (4, 0)), (1, (2, 0)), (2, (2, 67)), (3, (0, i))] [] xKL H) ∧ (¬ (xand (X.2 i) 63 = 0) → ((xand (X.2 i) 63 = 1) → xkq X d 265 (fun r _ _ => r = 1) 295 [(0, (4, 0)), (1, (2, 0)), (2, (2, 67)), (3, (0, i))] [] xKL H) ∧ (¬ (xand (X.2 i) 63 = 1) → ((xand (X.2 i) 63 = 2) → xkq X d 265 (fun r _ _ => r = 1) 328 [(0, (4, 0)), (1, (2, 0)), (2, (2, 67)), (3, (0, i))] [] xKL H) ∧ (¬ (xand (X.2 i) 63 = 2) → ((xand (X.2 i) 63 = 3) → xkq X d 265 (fun r _ _ => r = 1) 377 [(0, (4, 0)), (1, (2, 0)), (2, (2, 67)), (3, (0, i))] [] xKL H) ∧ (¬ (xand (X.2 i) 63 = 3) → ((xand (X.2 i) 63 = 4) → xkq X d 265 (fun r _ _ => r = 1) 410 [(0, (4, 0)), (1, (2, 0)), (2, (2, 67)), (3, (0, i))] [] xKL H) ∧ (¬ (xand (X.2 i) 63 = 4) → ((xand (X.2 i) 63 = 5) → xkq X d 265 (fun r _ _ => r = 1) 469 [(0, (4, 0)), (1, (2, 0)), (2, (2, 67)), (3, (0, i))] [] xKL H) ∧ (¬ (xand (X.2 i) 63 = 5) → ((xand (X.2 i) 63 = 6) → xkq X d 265 (fun r _ _ => r = 1) 532 [(0, (4, 0)), (1, (2, 0)), (2, (2, 67)), (3, (0, i))] [] xKL H) ∧ (¬ (xand (X.2 i) 63 = 6) → ((xand (X.2 i) 63 = 7) → xkq X d 265 (fun r _ _ => r = 1) 545 [(0, (4, 0)), (1, (2, 0)), (2, (2, 67)), (3, (0, i))] [] xKL H) ∧ (¬ (xand (X.2 i) 63 = 7) → ((xand (X.2 i) 63 = 8) → xkq X d 265 (fun r _ _ => r = 1) 608 [(0, (4, 0)), (1, (2, 0)), (2, (2, 67)), (3, (0, i))] [] xKL H) ∧ (¬ (xand (X.2 i) 63 = 8) → ((xand (X.2 i) 63 = 9) → xkq X d 265 (fun r _ _ => r = 1) 641 [(0, (4, 0)), (1, (2, 0)), (2, (2, 67)), (3, (0, i))] [] xKL H) ∧ (¬ (xand (X.2 i) 63 = 9) → ((xand (X.2 i) 63 = 10) → xkq X d 265 (fun r _ _ => r = 1) 674 [(0, (4, 0)), (1, (2, 0)), (2, (2, 67)), (3, (0, i))] [] xKL H) ∧ (¬ (xand (X.2 i) 63 = 10) → ((xand (X.2 i) 63 = 11) → xkq X d 265 (fun r _ _ => r = 1) 707 [(0, (4, 0)), (1, (2, 0)), (2, (2, 67)), (3, (0, i))] [] xKL H) ∧ (¬ (xand (X.2 i) 63 = 11) → ((xand (X.2 i) 63 = 12) → xkq X d 265 (fun r _ _ => r = 1) 740 [(0, (4, 0)), (1, (2, 0)), (2, (2, 67)), (3, (0, i))] [] xKL H) ∧ (¬ (xand (X.2 i) 63 = 12) → ((xand (X.2 i) 63 = 13) → xkq X d 265 (fun r _ _ => r = 1) 763 [(0, (4, 0)), (1, (2, 0)), (2, (2, 67)), (3, (0, i))] [] xKL H) ∧ (¬ (xand (X.2 i) 63 = 13) → ((xand (X.2 i) 63 = 14) → xkq X d 265 (fun r _ _ => r = 1) 796 [(0, (4, 0)), (1, (2, 0)), (2, (2, 67)), (3, (0, i))] [] xKL H) ∧ (¬ (xand (X.2 i) 63 = 14) → ((xand (X.2 i) 63 = 15) → xkq X d 265 (fun r _ _ => r = 1) 819 [(0, (4, 0)), (1, (2, 0)), (2, (2, 67)), (3, (0, i))] [] xKL H) ∧ (¬ (xand (X.2 i) 63 = 15) → ((xand (X.2 i) 63 = 16) → xkq X d 265 (fun r _ _ => r = 1) 832 [(0, (4, 0)), (1, (2, 0)), (2, (2, 67)), (3, (0, i))] [] xKL H) ∧ (¬ (xand (X.2 i) 63 = 16) → ((xand (X.2 i) 63 = 17) → xkq X d 265 (fun r _ _ => r = 1) 875 [(0, (4, 0)), (1, (2, 0)), (2, (2, 67)), (3, (0, i))] [] xKL H) ∧ (¬ (xand (X.2 i) 63 = 17) → ((xand (X.2 i) 63 = 18) → xkq X d 265 (fun r _ _ => r = 1) 898 [(0, (4, 0)), (1, (2, 0)), (2, (2, 67)), (3, (0, i))] [] xKL H) ∧ (¬ (xand (X.2 i) 63 = 18) → ((xand (X.2 i) 63 = 19) → xkq X d 265 (fun r _ _ => r = 1) 947 [(0, (4, 0)), (1, (2, 0)), (2, (2, 67)), (3, (0, i))] [] xKL H) ∧ (¬ (xand (X.2 i) 63 = 19) → ((xand (X.2 i) 63 = 20) → xkq X d 265 (fun r _ _ => r = 1) 970 [(0, (4, 0)), (1, (2, 0)), (2, (2, 67)), (3, (0, i))] [] xKL H) ∧ (¬ (xand (X.2 i) 63 = 20) → ((xand (X.2 i) 63 = 21) → xkq X d 265 (fun r _ _ => r = 1) 993 [(0, (4, 0)), (1, (2, 0)), (2, (2, 67)), (3, (0, i))] [] xKL H) ∧ (¬ (xand (X.2 i) 63 = 21) → ((xand (X.2 i) 63 = 22) → xkq X d 265 (fun r _ _ => r = 1) 1056 [(0, (4, 0)), (1, (2, 0)), (2, (2, 67)), (3, (0, i))] [] xKL H) ∧ (¬ (xand (X.2 i) 63 = 22) → ((xand (X.2 i) 63 = 23) → xkq X d 265 (fun r _ _ => r = 1) 1079 [(0, (4, 0)), (1, (2, 0)), (2, (2, 67)), (3, (0, i))] [] xKL H) ∧ (¬ (xand (X.2 i) 63 = 23) → ((xand (X.2 i) 63 = 24) → xkq X d 265 (fun r _ _ => r = 1) 1092 [(0, (4, 0)), (1, (2, 0)), (2, (2, 67)), (3, (0, i))] [] xKL H) ∧ (¬ (xand (X.2 i) 63 = 24) → ((xand (X.2 i) 63 = 25) → xkq X d 265 (fun r _ _ => r = 1) 1115 [(0, (4, 0)), (1, (2, 0)), (2, (2, 67)), (3, (0, i))] [] xKL H) ∧ (¬ (xand (X.2 i) 63 = 25) → ((xand (X.2 i) 63 = 26) → xkq X d 265 (fun r _ _ => r = 1) 1138 [(0, (4, 0)), (1, (2, 0)), (2, (2, 67)), (3, (0, i))] [] xKL H) ∧ (¬ (xand (X.2 i) 63 = 26) → ((xand (X.2 i) 63 = 27) → xkq X d 265 (fun r _ _ => r = 1) 1191 [(0, (4, 0)), (1, (2, 0)), (2, (2, 67)), (3, (0, i))] [] xKL H) ∧ (¬ (xand (X.2 i) 63 = 27) → ((xand (X.2 i) 63 = 28) → xkq X d 265 (fun r _ _ => r = 1) 1214 [(0, (4, 0)), (1, (2, 0)), (2, (2, 67)), (3, (0, i))] [] xKL H) ∧ (¬ (xand (X.2 i) 63 = 28) → ((xand (X.2 i) 63 = 29) → xkq X d 265 (fun r _ _ => r = 1) 1257 [(0, (4, 0)), (1, (2, 0)), (2, (2, 67)), (3, (0, i))] [] xKL H) ∧ (¬ (xand (X.2 i) 63 = 29) → ((xand (X.2 i) 63 = 30) → xkq X d 265 (fun r _ _ => r = 1) 1280 [(0, (4, 0)), (1, (2, 0)), (2, (2, 67)), (3, (0, i))] [] xKL H) ∧ (¬ (xand (X.2 i) 63 = 30) → ((xand (X.2 i) 63 = 31) → xkq X d 265 (fun r _ _ => r = 1) 1313 [(0, (4, 0)), (1, (2, 0)), (2, (2, 67)), (3, (0, i))] [] xKL H) ∧ (¬ (xand (X.2 i) 63 = 31) → ((xand (X.2 i) 63 = 32) → xkq X d 265 (fun r _ _ => r = 1) 1336 [(0, (4, 0)), (1, (2, 0)), (2, (2, 67)), (3, (0, i))] [] xKL H) ∧ (¬ (xand (X.2 i) 63 = 32) → ((xand (X.2 i) 63 = 33) → xkq X d 265 (fun r _ _ => r = 1) 1431 [(0, (4, 0)), (1, (2, 0)), (2, (2, 67)), (3, (0, i))] [] xKL H) ∧ (¬ (xand (X.2 i) 63 = 33) → ((xand (X.2 i) 63 = 34) → xkq X d 265 (fun r _ _ => r = 1) 1454 [(0, (4, 0)), (1, (2, 0)), (2, (2, 67)), (3, (0, i))] [] xKL H) ∧ (¬ (xand (X.2 i) 63 = 34) → ((xand (X.2 i) 63 = 35) → xkq X d 265 (fun r _ _ => r = 1) 1487 [(0, (4, 0)), (1, (2, 0)), (2, (2, 67)), (3, (0, i))] [] xKL H) ∧ (¬ (xand (X.2 i) 63 = 35) → ((xand (X.2 i) 63 = 36) → xkq X d 265 (fun r _ _ => r = 1) 1500 [(0, (4, 0)), (1, (2, 0)), (2, (2, 67)), (3, (0, i))] [] xKL H) ∧ (¬ (xand (X.2 i) 63 = 36) → ((xand (X.2 i) 63 = 37) → xkq X d 265 (fun r _ _ => r = 1) 1513 [(0, (4, 0)), (1, (2, 0)), (2, (2, 67)), (3, (0, i))] [] xKL H) ∧ (¬ (xand (X.2 i) 63 = 37) → xkq X d 265 (fun r _ _ => r = 1) 1536 [(0, (4, 0)), (1, (2, 0)), (2, (2, 67)), (3, (0, i))] [] xKL H)))))))))))))))))))))))))))))))))))))))
    refine ⟨(by unfold xI; omega), ?_⟩
    exact ⟨fun _ => ⟨xfR3_1, rfl⟩, fun c => absurd (by omega) c⟩
  | succ r ih =>
    intro i H h2 hr h
    have nx : i + 7 ≤ X.1 → ∀ H1, InvZ H1 → xkq X d 265 (fun r _ _ => r = 1) 1536 [(0, (4, 0)), (1, (2, 0)), (2, (2, 67)), (3, (0, i))] [] xKL H1 := by
      intro hi H1 h1
      refine xkq_run [38] 300 ?_
      show (xI (i + 7)) ∧ xkq X d 265 (fun r _ _ => r = 1) 38 [(0, (4, 0)), (1, (2, 0)), (2, (2, 67)), (3, (0, i + 7))] [] xKL H1
      exact ⟨(by unfold xI; omega), ih (i + 7) H1 (by omega) (by omega) h1⟩
    refine xkq_run [220, 295, 328, 377, 410, 469, 532, 545, 608, 641, 674, 707, 740, 763, 796, 819, 832, 875, 898, 947, 970, 993, 1056, 1079, 1092, 1115, 1138, 1191, 1214, 1257, 1280, 1313, 1336, 1431, 1454, 1487, 1500, 1513, 1536] 300 ?_
    show (xI (X.1 - 7)) ∧ ((X.1 - 7 < i) → xfR 3 1 ∧ (1 : Int) = 1) ∧ (¬ (X.1 - 7 < i) → ((0 : Int) ≤ i ∧ (i : Int) < X.1) ∧ ((xand (X.2 i) 63 = 0) → xkq X d 265 (fun r _ _ => r = 1) 220 [(0, (4, 0)), (1, (2, 0)), (2, (2, 67)), (3, (0, i))] [] xKL H) ∧ (¬ (xand (X.2 i) 63 = 0) → ((xand (X.2 i) 63 = 1) → xkq X d 265 (fun r _ _ => r = 1) 295 [(0, (4, 0)), (1, (2, 0)), (2, (2, 67)), (3, (0, i))] [] xKL H) ∧ (¬ (xand (X.2 i) 63 = 1) → ((xand (X.2 i) 63 = 2) → xkq X d 265 (fun r _ _ => r = 1) 328 [(0, (4, 0)), (1, (2, 0)), (2, (2, 67)), (3, (0, i))] [] xKL H) ∧ (¬ (xand (X.2 i) 63 = 2) → ((xand (X.2 i) 63 = 3) → xkq X d 265 (fun r _ _ => r = 1) 377 [(0, (4, 0)), (1, (2, 0)), (2, (2, 67)), (3, (0, i))] [] xKL H) ∧ (¬ (xand (X.2 i) 63 = 3) → ((xand (X.2 i) 63 = 4) → xkq X d 265 (fun r _ _ => r = 1) 410 [(0, (4, 0)), (1, (2, 0)), (2, (2, 67)), (3, (0, i))] [] xKL H) ∧ (¬ (xand (X.2 i) 63 = 4) → ((xand (X.2 i) 63 = 5) → xkq X d 265 (fun r _ _ => r = 1) 469 [(0, (4, 0)), (1, (2, 0)), (2, (2, 67)), (3, (0, i))] [] xKL H) ∧ (¬ (xand (X.2 i) 63 = 5) → ((xand (X.2 i) 63 = 6) → xkq X d 265 (fun r _ _ => r = 1) 532 [(0, (4, 0)), (1, (2, 0)), (2, (2, 67)), (3, (0, i))] [] xKL H) ∧ (¬ (xand (X.2 i) 63 = 6) → ((xand (X.2 i) 63 = 7) → xkq X d 265 (fun r _ _ => r = 1) 545 [(0, (4, 0)), (1, (2, 0)), (2, (2, 67)), (3, (0, i))] [] xKL H) ∧ (¬ (xand (X.2 i) 63 = 7) → ((xand (X.2 i) 63 = 8) → xkq X d 265 (fun r _ _ => r = 1) 608 [(0, (4, 0)), (1, (2, 0)), (2, (2, 67)), (3, (0, i))] [] xKL H) ∧ (¬ (xand (X.2 i) 63 = 8) → ((xand (X.2 i) 63 = 9) → xkq X d 265 (fun r _ _ => r = 1) 641 [(0, (4, 0)), (1, (2, 0)), (2, (2, 67)), (3, (0, i))] [] xKL H) ∧ (¬ (xand (X.2 i) 63 = 9) → ((xand (X.2 i) 63 = 10) → xkq X d 265 (fun r _ _ => r = 1) 674 [(0, (4, 0)), (1, (2, 0)), (2, (2, 67)), (3, (0, i))] [] xKL H) ∧ (¬ (xand (X.2 i) 63 = 10) → ((xand (X.2 i) 63 = 11) → xkq X d 265 (fun r _ _ => r = 1) 707 [(0, (4, 0)), (1, (2, 0)), (2, (2, 67)), (3, (0, i))] [] xKL H) ∧ (¬ (xand (X.2 i) 63 = 11) → ((xand (X.2 i) 63 = 12) → xkq X d 265 (fun r _ _ => r = 1) 740 [(0, (4, 0)), (1, (2, 0)), (2, (2, 67)), (3, (0, i))] [] xKL H) ∧ (¬ (xand (X.2 i) 63 = 12) → ((xand (X.2 i) 63 = 13) → xkq X d 265 (fun r _ _ => r = 1) 763 [(0, (4, 0)), (1, (2, 0)), (2, (2, 67)), (3, (0, i))] [] xKL H) ∧ (¬ (xand (X.2 i) 63 = 13) → ((xand (X.2 i) 63 = 14) → xkq X d 265 (fun r _ _ => r = 1) 796 [(0, (4, 0)), (1, (2, 0)), (2, (2, 67)), (3, (0, i))] [] xKL H) ∧ (¬ (xand (X.2 i) 63 = 14) → ((xand (X.2 i) 63 = 15) → xkq X d 265 (fun r _ _ => r = 1) 819 [(0, (4, 0)), (1, (2, 0)), (2, (2, 67)), (3, (0, i))] [] xKL H) ∧ (¬ (xand (X.2 i) 63 = 15) → ((xand (X.2 i) 63 = 16) → xkq X d 265 (fun r _ _ => r = 1) 832 [(0, (4, 0)), (1, (2, 0)), (2, (2, 67)), (3, (0, i))] [] xKL H) ∧ (¬ (xand (X.2 i) 63 = 16) → ((xand (X.2 i) 63 = 17) → xkq X d 265 (fun r _ _ => r = 1) 875 [(0, (4, 0)), (1, (2, 0)), (2, (2, 67)), (3, (0, i))] [] xKL H) ∧ (¬ (xand (X.2 i) 63 = 17) → ((xand (X.2 i) 63 = 18) → xkq X d 265 (fun r _ _ => r = 1) 898 [(0, (4, 0)), (1, (2, 0)), (2, (2, 67)), (3, (0, i))] [] xKL H) ∧ (¬ (xand (X.2 i) 63 = 18) → ((xand (X.2 i) 63 = 19) → xkq X d 265 (fun r _ _ => r = 1) 947 [(0, (4, 0)), (1, (2, 0)), (2, (2, 67)), (3, (0, i))] [] xKL H) ∧ (¬ (xand (X.2 i) 63 = 19) → ((xand (X.2 i) 63 = 20) → xkq X d 265 (fun r _ _ => r = 1) 970 [(0, (4, 0)), (1, (2, 0)), (2, (2, 67)), (3, (0, i))] [] xKL H) ∧ (¬ (xand (X.2 i) 63 = 20) → ((xand (X.2 i) 63 = 21) → xkq X d 265 (fun r _ _ => r = 1) 993 [(0, (4, 0)), (1, (2, 0)), (2, (2, 67)), (3, (0, i))] [] xKL H) ∧ (¬ (xand (X.2 i) 63 = 21) → ((xand (X.2 i) 63 = 22) → xkq X d 265 (fun r _ _ => r = 1) 1056 [(0, (4, 0)), (1, (2, 0)), (2, (2, 67)), (3, (0, i))] [] xKL H) ∧ (¬ (xand (X.2 i) 63 = 22) → ((xand (X.2 i) 63 = 23) → xkq X d 265 (fun r _ _ => r = 1) 1079 [(0, (4, 0)), (1, (2, 0)), (2, (2, 67)), (3, (0, i))] [] xKL H) ∧ (¬ (xand (X.2 i) 63 = 23) → ((xand (X.2 i) 63 = 24) → xkq X d 265 (fun r _ _ => r = 1) 1092 [(0, (4, 0)), (1, (2, 0)), (2, (2, 67)), (3, (0, i))] [] xKL H) ∧ (¬ (xand (X.2 i) 63 = 24) → ((xand (X.2 i) 63 = 25) → xkq X d 265 (fun r _ _ => r = 1) 1115 [(0, (4, 0)), (1, (2, 0)), (2, (2, 67)), (3, (0, i))] [] xKL H) ∧ (¬ (xand (X.2 i) 63 = 25) → ((xand (X.2 i) 63 = 26) → xkq X d 265 (fun r _ _ => r = 1) 1138 [(0, (4, 0)), (1, (2, 0)), (2, (2, 67)), (3, (0, i))] [] xKL H) ∧ (¬ (xand (X.2 i) 63 = 26) → ((xand (X.2 i) 63 = 27) → xkq X d 265 (fun r _ _ => r = 1) 1191 [(0, (4, 0)), (1, (2, 0)), (2, (2, 67)), (3, (0, i))] [] xKL H) ∧ (¬ (xand (X.2 i) 63 = 27) → ((xand (X.2 i) 63 = 28) → xkq X d 265 (fun r _ _ => r = 1) 1214 [(0, (4, 0)), (1, (2, 0)), (2, (2, 67)), (3, (0, i))] [] xKL H) ∧ (¬ (xand (X.2 i) 63 = 28) → ((xand (X.2 i) 63 = 29) → xkq X d 265 (fun r _ _ => r = 1) 1257 [(0, (4, 0)), (1, (2, 0)), (2, (2, 67)), (3, (0, i))] [] xKL H) ∧ (¬ (xand (X.2 i) 63 = 29) → ((xand (X.2 i) 63 = 30) → xkq X d 265 (fun r _ _ => r = 1) 1280 [(0, (4, 0)), (1, (2, 0)), (2, (2, 67)), (3, (0, i))] [] xKL H) ∧ (¬ (xand (X.2 i) 63 = 30) → ((xand (X.2 i) 63 = 31) → xkq X d 265 (fun r _ _ => r = 1) 1313 [(0, (4, 0)), (1, (2, 0)), (2, (2, 67)), (3, (0, i))] [] xKL H) ∧ (¬ (xand (X.2 i) 63 = 31) → ((xand (X.2 i) 63 = 32) → xkq X d 265 (fun r _ _ => r = 1) 1336 [(0, (4, 0)), (1, (2, 0)), (2, (2, 67)), (3, (0, i))] [] xKL H) ∧ (¬ (xand (X.2 i) 63 = 32) → ((xand (X.2 i) 63 = 33) → xkq X d 265 (fun r _ _ => r = 1) 1431 [(0, (4, 0)), (1, (2, 0)), (2, (2, 67)), (3, (0, i))] [] xKL H) ∧ (¬ (xand (X.2 i) 63 = 33) → ((xand (X.2 i) 63 = 34) → xkq X d 265 (fun r _ _ => r = 1) 1454 [(0, (4, 0)), (1, (2, 0)), (2, (2, 67)), (3, (0, i))] [] xKL H) ∧ (¬ (xand (X.2 i) 63 = 34) → ((xand (X.2 i) 63 = 35) → xkq X d 265 (fun r _ _ => r = 1) 1487 [(0, (4, 0)), (1, (2, 0)), (2, (2, 67)), (3, (0, i))] [] xKL H) ∧ (¬ (xand (X.2 i) 63 = 35) → ((xand (X.2 i) 63 = 36) → xkq X d 265 (fun r _ _ => r = 1) 1500 [(0, (4, 0)), (1, (2, 0)), (2, (2, 67)), (3, (0, i))] [] xKL H) ∧ (¬ (xand (X.2 i) 63 = 36) → ((xand (X.2 i) 63 = 37) → xkq X d 265 (fun r _ _ => r = 1) 1513 [(0, (4, 0)), (1, (2, 0)), (2, (2, 67)), (3, (0, i))] [] xKL H) ∧ (¬ (xand (X.2 i) 63 = 37) → xkq X d 265 (fun r _ _ => r = 1) 1536 [(0, (4, 0)), (1, (2, 0)), (2, (2, 67)), (3, (0, i))] [] xKL H)))))))))))))))))))))))))))))))))))))))
    refine ⟨(by unfold xI; omega), ?_⟩
    refine ⟨fun _ => ⟨xfR3_1, rfl⟩, fun c => ?_⟩
    have nx := nx (by omega)
    refine ⟨⟨by omega, by omega⟩, ?_⟩
    refine ⟨fun _ => lc_0 hd hX i ⟨h2, by omega⟩ H h nx, fun _ => ?_⟩
    refine ⟨fun _ => lc_1 hd hX i ⟨h2, by omega⟩ H h nx, fun _ => ?_⟩
    refine ⟨fun _ => lc_2 hd hX i ⟨h2, by omega⟩ H h nx, fun _ => ?_⟩
    refine ⟨fun _ => lc_3 hd hX i ⟨h2, by omega⟩ H h nx, fun _ => ?_⟩
    refine ⟨fun _ => lc_4 hd hX i ⟨h2, by omega⟩ H h nx, fun _ => ?_⟩
    refine ⟨fun _ => lc_5 hd hX i ⟨h2, by omega⟩ H h nx, fun _ => ?_⟩
    refine ⟨fun _ => lc_6 hd hX i ⟨h2, by omega⟩ H h nx, fun _ => ?_⟩
    refine ⟨fun _ => lc_7 hd hX i ⟨h2, by omega⟩ H h nx, fun _ => ?_⟩
    refine ⟨fun _ => lc_8 hd hX i ⟨h2, by omega⟩ H h nx, fun _ => ?_⟩
    refine ⟨fun _ => lc_9 hd hX i ⟨h2, by omega⟩ H h nx, fun _ => ?_⟩
    refine ⟨fun _ => lc_10 hd hX i ⟨h2, by omega⟩ H h nx, fun _ => ?_⟩
    refine ⟨fun _ => lc_11 hd hX i ⟨h2, by omega⟩ H h nx, fun _ => ?_⟩
    refine ⟨fun _ => lc_12 hd hX i ⟨h2, by omega⟩ H h nx, fun _ => ?_⟩
    refine ⟨fun _ => lc_13 hd hX i ⟨h2, by omega⟩ H h nx, fun _ => ?_⟩
    refine ⟨fun _ => lc_14 hd hX i ⟨h2, by omega⟩ H h nx, fun _ => ?_⟩
    refine ⟨fun _ => lc_15 hd hX i ⟨h2, by omega⟩ H h nx, fun _ => ?_⟩
    refine ⟨fun _ => lc_16 hd hX i ⟨h2, by omega⟩ H h nx, fun _ => ?_⟩
    refine ⟨fun _ => lc_17 hd hX i ⟨h2, by omega⟩ H h nx, fun _ => ?_⟩
    refine ⟨fun _ => lc_18 hd hX i ⟨h2, by omega⟩ H h nx, fun _ => ?_⟩
    refine ⟨fun _ => lc_19 hd hX i ⟨h2, by omega⟩ H h nx, fun _ => ?_⟩
    refine ⟨fun _ => lc_20 hd hX i ⟨h2, by omega⟩ H h nx, fun _ => ?_⟩
    refine ⟨fun _ => lc_21 hd hX i ⟨h2, by omega⟩ H h nx, fun _ => ?_⟩
    refine ⟨fun _ => lc_22 hd hX i ⟨h2, by omega⟩ H h nx, fun _ => ?_⟩
    refine ⟨fun _ => lc_23 hd hX i ⟨h2, by omega⟩ H h nx, fun _ => ?_⟩
    refine ⟨fun _ => lc_24 hd hX i ⟨h2, by omega⟩ H h nx, fun _ => ?_⟩
    refine ⟨fun _ => lc_25 hd hX i ⟨h2, by omega⟩ H h nx, fun _ => ?_⟩
    refine ⟨fun _ => lc_26 hd hX i ⟨h2, by omega⟩ H h nx, fun _ => ?_⟩
    refine ⟨fun _ => lc_27 hd hX i ⟨h2, by omega⟩ H h nx, fun _ => ?_⟩
    refine ⟨fun _ => lc_28 hd hX i ⟨h2, by omega⟩ H h nx, fun _ => ?_⟩
    refine ⟨fun _ => lc_29 hd hX i ⟨h2, by omega⟩ H h nx, fun _ => ?_⟩
    refine ⟨fun _ => lc_30 hd hX i ⟨h2, by omega⟩ H h nx, fun _ => ?_⟩
    refine ⟨fun _ => lc_31 hd hX i ⟨h2, by omega⟩ H h nx, fun _ => ?_⟩
    refine ⟨fun _ => lc_32 hd hX i ⟨h2, by omega⟩ H h nx, fun _ => ?_⟩
    refine ⟨fun _ => lc_33 hd hX i ⟨h2, by omega⟩ H h nx, fun _ => ?_⟩
    refine ⟨fun _ => lc_34 hd hX i ⟨h2, by omega⟩ H h nx, fun _ => ?_⟩
    refine ⟨fun _ => lc_35 hd hX i ⟨h2, by omega⟩ H h nx, fun _ => ?_⟩
    refine ⟨fun _ => lc_36 hd hX i ⟨h2, by omega⟩ H h nx, fun _ => ?_⟩
    refine ⟨fun _ => lc_37 hd hX i ⟨h2, by omega⟩ H h nx, fun _ => ?_⟩
    exact nx H h

set_option maxHeartbeats 8000000 in
set_option maxRecDepth 8000 in
theorem law_start {X : Int × (Int → Int)} {d : Nat} (hd : 40 ≤ d) (hX : xX X) : xkq X d 265 (fun r _ _ => r = 1) 100000 [(0, (4, 0))] [] ([], 600000, 7302250) (fun _ _ => 0) := by
  show xkq X d 265 (fun r _ _ => r = 1) 100000 [(0, (4, 0))] [] (kL_117, 600000, 7302250) (fun _ _ => 0)
  refine xkq_run [9, 14, 17, 27, 32, 35, 38] 60 ?_
  show (1 ≤ 600000 ∧ (xTT.getD 11 []).length ≤ 7302250) ∧ xWM (xE X) xMC d 0 [(4, 0), (0, 0)] (kL_0, 0, 0) (xzo (xTT.getD 11 []) (fun _ _ => 0) 0) _
  refine ⟨⟨by decide, by decide⟩, ?_⟩
  refine k_0 (by omega) 0 (by decide) _ _ ?_
  show xkq X d 265 (fun r _ _ => r = 1) 9 [(0, (4, 0))] [(0, celV X 0), (2, 0), (2, 0)] (kL_0, 599999, 7302243) (xzo (xTT.getD 11 []) (fun _ _ => 0) 0)
  refine xkq_run [9, 14, 17, 27, 32, 35, 38] 60 ?_
  show xWM (xE X) xMC d 0 [(4, 0), (0, 1)] (kL_0, 0, 0) (xzo (xTT.getD 11 []) (fun _ _ => 0) 0) _
  refine k_0 (by omega) 1 (by decide) _ _ ?_
  show xkq X d 265 (fun r _ _ => r = 1) 14 [(0, (4, 0))] [(0, celV X 1), (0, celV X 0), (2, 0), (2, 0)] (kL_0, 599999, 7302243) (xzo (xTT.getD 11 []) (fun _ _ => 0) 0)
  refine xkq_run [9, 14, 17, 27, 32, 35, 38] 60 ?_
  show xWM (xE X) xMC d 15 [(2, 0), (0, celV X 0), (0, celV X 1)] (kL_0, 66, 10471) (xzo (xTT.getD 11 []) (fun _ _ => 0) 0) _
  refine k_15_0 (by omega) (celV X 0) (celV X 1) _ ?_
  intro h1 F1 f0 f1 f2 f3 f4 f5 f6 f7 f8 f9 f10 f11 f12 f13 f14 f15 f16 f17 f18 f19 f20 f21 f22 f23 f24 f25 f26 f27 f28 f29 f30 f31 f32 f33 f34 f35 f36 f37 f38 f39 f40 f41 f42 f43 f44 f45 f46 f47
  show xkq X d 265 (fun r _ _ => r = 1) 17 [(0, (4, 0))] [(2, 0)] (kL_84, 599999 - 66, 7302243 - 10471) h1
  show xkq X d 265 (fun r _ _ => r = 1) 17 [(0, (4, 0))] [(2, 0)] (kL_84, 599933, 7291772) h1
  refine xkq_run [9, 14, 17, 27, 32, 35, 38] 60 ?_
  show (1 ≤ 599933 ∧ (xTT.getD 12 []).length ≤ 7291772) ∧ xWM (xE X) xMC d 0 [(4, 0), (0, 0)] (kL_85, 0, 0) (xzo (xTT.getD 12 []) h1 67) _
  refine ⟨⟨by decide, by decide⟩, ?_⟩
  refine k_0 (by omega) 0 (by decide) _ _ ?_
  show xkq X d 265 (fun r _ _ => r = 1) 27 [(1, (2, 0)), (0, (4, 0))] [(0, celV X 0), (2, 67), (2, 67)] (kL_85, 599932, 7291721) (xzo (xTT.getD 12 []) h1 67)
  refine xkq_run [9, 14, 17, 27, 32, 35, 38] 60 ?_
  show xWM (xE X) xMC d 0 [(4, 0), (0, 1)] (kL_85, 0, 0) (xzo (xTT.getD 12 []) h1 67) _
  refine k_0 (by omega) 1 (by decide) _ _ ?_
  show xkq X d 265 (fun r _ _ => r = 1) 32 [(1, (2, 0)), (0, (4, 0))] [(0, celV X 1), (0, celV X 0), (2, 67), (2, 67)] (kL_85, 599932, 7291721) (xzo (xTT.getD 12 []) h1 67)
  refine xkq_run [9, 14, 17, 27, 32, 35, 38] 60 ?_
  show xWM (xE X) xMC d 17 [(2, 67), (0, celV X 0), (0, celV X 1)] (kL_85, 31, 13576) (xzo (xTT.getD 12 []) h1 67) _
  refine k_17_67 (by omega) (celV X 0) (celV X 1) _ ?_
  intro h2 F2 m0 m1 m5 m6 m7 ma mi
  show xkq X d 265 (fun r _ _ => r = 1) 35 [(1, (2, 0)), (0, (4, 0))] [(2, 67)] (kL_116, 599932 - 31, 7291721 - 13576) h2
  show xkq X d 265 (fun r _ _ => r = 1) 35 [(1, (2, 0)), (0, (4, 0))] [(2, 67)] (kL_116, 599901, 7278145) h2
  refine xkq_run [9, 14, 17, 27, 32, 35, 38] 60 ?_
  show xkq X d 265 (fun r _ _ => r = 1) 38 [(0, (4, 0)), (1, (2, 0)), (2, (2, 67)), (3, (0, 2))] [] (kL_116, 599901, 7278145) h2
  show xkq X d 265 (fun r _ _ => r = 1) 38 [(0, (4, 0)), (1, (2, 0)), (2, (2, 67)), (3, (0, 2))] [] xKL h2
  have e5 : h2 67 5 = 0 := m5.trans rfl
  refine law_loop hd hX X.1.toNat 2 h2 (by decide) (by omega) (inv_0 (celV X 0) (celV X 1) h2
    ((congrFun (F2 2 (by decide)) 0).trans (f0))
    ((congrFun (F2 2 (by decide)) 1).trans (f1))
    ((congrFun (F2 2 (by decide)) 2).trans (f2))
    ((congrFun (F2 2 (by decide)) 7).trans (f3))
    (fun k => (congrFun (F2 3 (by decide)) k).trans (f4 k))
    (fun k => (congrFun (F2 4 (by decide)) k).trans (f5 k))
    (fun k q1 q2 => (congrFun (F2 5 (by decide)) k).trans (f6 k q1 q2))
    (fun k => (congrFun (F2 6 (by decide)) k).trans (f7 k))
    ((congrFun (F2 7 (by decide)) 1).trans (f8))
    ((congrFun (F2 9 (by decide)) 0).trans (f9))
    ((congrFun (F2 9 (by decide)) 1).trans (f10))
    ((congrFun (F2 9 (by decide)) 2).trans (f11))
    ((congrFun (F2 9 (by decide)) 3).trans (f12))
    ((congrFun (F2 9 (by decide)) 4).trans (f13))
    ((congrFun (F2 9 (by decide)) 5).trans (f14))
    (fun k q1 q2 => (congrFun (F2 10 (by decide)) k).trans (f15 k q1 q2))
    (fun k => (congrFun (F2 13 (by decide)) k).trans (f16 k))
    (fun k => (congrFun (F2 14 (by decide)) k).trans (f17 k))
    ((congrFun (F2 15 (by decide)) 4).trans (f18))
    (fun k => (congrFun (F2 18 (by decide)) k).trans (f19 k))
    (fun k => (congrFun (F2 19 (by decide)) k).trans (f20 k))
    ((congrFun (F2 1 (by decide)) 5).trans (f21))
    ((congrFun (F2 1 (by decide)) 6).trans (f22))
    ((congrFun (F2 21 (by decide)) 0).trans (f23))
    ((congrFun (F2 21 (by decide)) 1).trans (f24))
    ((congrFun (F2 21 (by decide)) 2).trans (f25))
    ((congrFun (F2 21 (by decide)) 7).trans (f26))
    (fun k => (congrFun (F2 22 (by decide)) k).trans (f27 k))
    (fun k => (congrFun (F2 23 (by decide)) k).trans (f28 k))
    (fun k q1 q2 => (congrFun (F2 24 (by decide)) k).trans (f29 k q1 q2))
    (fun k => (congrFun (F2 25 (by decide)) k).trans (f30 k))
    ((congrFun (F2 26 (by decide)) 1).trans (f31))
    ((congrFun (F2 28 (by decide)) 0).trans (f32))
    ((congrFun (F2 28 (by decide)) 1).trans (f33))
    ((congrFun (F2 28 (by decide)) 2).trans (f34))
    ((congrFun (F2 28 (by decide)) 3).trans (f35))
    ((congrFun (F2 28 (by decide)) 4).trans (f36))
    ((congrFun (F2 28 (by decide)) 5).trans (f37))
    (fun k q1 q2 => (congrFun (F2 29 (by decide)) k).trans (f38 k q1 q2))
    (fun k => (congrFun (F2 32 (by decide)) k).trans (f39 k))
    (fun k => (congrFun (F2 33 (by decide)) k).trans (f40 k))
    ((congrFun (F2 34 (by decide)) 4).trans (f41))
    (fun k => (congrFun (F2 37 (by decide)) k).trans (f42 k))
    (fun k => (congrFun (F2 38 (by decide)) k).trans (f43 k))
    ((congrFun (F2 20 (by decide)) 5).trans (f44))
    ((congrFun (F2 20 (by decide)) 6).trans (f45))
    ((congrFun (F2 51 (by decide)) 3).trans (f46))
    ((congrFun (F2 51 (by decide)) 4).trans (f47)) m0 m1 e5 m6 m7 ma mi)

theorem xlaw_ok (L : Nat) (xs : Nat → Int32) (hL : L ≤ 3586) : xLawOk 40 L xs :=
  law_start (X := ((L : Int), fun i => (xs i.toNat).toInt)) (d := 40) (by decide) ⟨by show (0 : Int) ≤ (L : Int); omega, by show (L : Int) ≤ 100000; omega, fun k _ _ => by show (xs k.toNat).toInt ≤ 2147483647; exact (show xI (xs k.toNat).toInt from xw_toI _).2⟩
theorem whole_start {p : Program} {e : Env} {s : State} {m : MethodId} {below : List Frame} {meth : Method} {c : Code} (l : Launch) (hflags : l.flags = flags0) {b L : Nat} {xs : Nat → Int32} (hL : L ≤ 3586) (C0 : lw_At p s m meth c b L xs) : W p l e room_1 s m #[Value.ref b] below meth c s.heap [] 0 0 (lw_Z below #[Value.ref b] s) (entryFrame m ([Value.ref b] : List Value).toArray 4) :=
  xlaw_start xcode_ok xbody_ok xmax_ok 40 (by decide) xlaw_ok l hflags hL C0
