/-! THE PURE LAYER 44: the law is read: sums, asks -/
theorem U_163 {X : Int × (Int → Int)} {d : Nat} {Q : Int → XH → Prop} (hd : 0 ≤ d) (q : Int) (H : XH) (h : (xc X d 162 [(2, 51), (0, q)] H (fun (J715 : Int) (h714 : XH) => ((¬ J715 = 0) → xq X d 163 Q 14 [(0, (2, 51)), (1, (0, q)), (2, (0, (-1))), (3, (0, 0))] [] h714) ∧ (¬ (¬ J715 = 0) → Q 0 h714)))) : xc X (d + 1) 163 [(2, 51), (0, q)] H Q := by
  refine ⟨rfl, ?_⟩
  show xq X d 163 Q 100000 [(0, (2, 51)), (1, (0, q))] [] H
  refine xq_run [5, 14, 32, 81, 93, 98, 118, 138] 300 ?_
  show xWM (xE X) xMC d 162 [(2, 51), (0, q)] xKZ H _
  refine xc_in (xc_mono (fun J715 h714 q_ => ?_) h)
  replace h := q_
  show xq X d 163 Q 5 [(0, (2, 51)), (1, (0, q))] [(0, J715)] h714
  refine xq_run [5, 14, 32, 81, 93, 98, 118, 138] 300 ?_
  show ((¬ J715 = 0) → xq X d 163 Q 14 [(0, (2, 51)), (1, (0, q)), (2, (0, (-1))), (3, (0, 0))] [] h714) ∧ (¬ (¬ J715 = 0) → xfR 3 0 ∧ xKZ = xKZ ∧ Q 0 h714)
  refine ⟨fun k_ => ?_, fun k_ => ?_⟩
  · replace h := h.1 k_
    exact h
  · replace h := h.2 k_
    exact ⟨xfR3_0, rfl, h⟩
theorem U_163_14 {X : Int × (Int → Int)} {d : Nat} {Q : Int → XH → Prop} (hd : 1 ≤ d) (v1 v2 v3 : Int) (H : XH) (h : ((300 ≤ v3) → ((v2 = (-1)) → Q 1 H) ∧ (¬ (v2 = (-1)) → (xI (10000 + v2)) ∧ (xc X d 161 [(2, 51), (0, 10000 + v2)] H (fun (J717 : Int) (h716 : XH) => Q 1 h716)))) ∧ (¬ (300 ≤ v3) → ((((34 ≤ (H 51 12) ∧ (H 51 12) ≤ 37)) → ((H 51 12 = 36) → (xc X d 160 [(2, 51)] H (fun (J721 : Int) (h720 : XH) => (xc X d 162 [(2, 51), (0, v1)] h720 (fun (J723 : Int) (h722 : XH) => ((¬ J723 = 0) → (xI (10000 + (H 51 12))) ∧ (xc X d 161 [(2, 51), (0, 10000 + (H 51 12))] h722 (fun (J725 : Int) (h724 : XH) => (xI (v3 + 1)) ∧ xq X d 163 Q 14 [(0, (2, 51)), (1, (0, v1)), (2, (0, v2)), (3, (0, v3 + 1))] [] h724))) ∧ (¬ (¬ J723 = 0) → Q 0 h722)))))) ∧ (¬ (H 51 12 = 36) → ((¬ H 51 12 = 37) → ((v2 = (-1)) → (xc X d 160 [(2, 51)] H (fun (J727 : Int) (h726 : XH) => (xc X d 162 [(2, 51), (0, v1)] h726 (fun (J729 : Int) (h728 : XH) => ((¬ J729 = 0) → (xI (v3 + 1)) ∧ xq X d 163 Q 14 [(0, (2, 51)), (1, (0, v1)), (2, (0, H 51 12)), (3, (0, v3 + 1))] [] h728) ∧ (¬ (¬ J729 = 0) → Q 0 h728)))))) ∧ (¬ (v2 = (-1)) → (xI (10000 + v2)) ∧ (xc X d 161 [(2, 51), (0, 10000 + v2)] H (fun (J731 : Int) (h730 : XH) => (xc X d 160 [(2, 51)] h730 (fun (J733 : Int) (h732 : XH) => (xc X d 162 [(2, 51), (0, v1)] h732 (fun (J735 : Int) (h734 : XH) => ((¬ J735 = 0) → (xI (v3 + 1)) ∧ xq X d 163 Q 14 [(0, (2, 51)), (1, (0, v1)), (2, (0, H 51 12)), (3, (0, v3 + 1))] [] h734) ∧ (¬ (¬ J735 = 0) → Q 0 h734))))))))) ∧ (¬ (¬ H 51 12 = 37) → (xc X d 160 [(2, 51)] H (fun (J737 : Int) (h736 : XH) => (xc X d 162 [(2, 51), (0, v1)] h736 (fun (J739 : Int) (h738 : XH) => ((¬ J739 = 0) → (xI (10000 + (H 51 12))) ∧ (xc X d 161 [(2, 51), (0, 10000 + (H 51 12))] h738 (fun (J741 : Int) (h740 : XH) => (xI (v3 + 1)) ∧ xq X d 163 Q 14 [(0, (2, 51)), (1, (0, v1)), (2, (0, v2)), (3, (0, v3 + 1))] [] h740))) ∧ (¬ (¬ J739 = 0) → Q 0 h738)))))))) ∧ (¬ ((34 ≤ (H 51 12) ∧ (H 51 12) ≤ 37)) → ((v2 = (-1)) → Q 1 H) ∧ (¬ (v2 = (-1)) → (xI (10000 + v2)) ∧ (xc X d 161 [(2, 51), (0, 10000 + v2)] H (fun (J719 : Int) (h718 : XH) => Q 1 h718))))))) : xq X d 163 Q 14 [(0, (2, 51)), (1, (0, v1)), (2, (0, v2)), (3, (0, v3))] [] H := by
  show xq X d 163 Q 14 [(0, (2, 51)), (1, (0, v1)), (2, (0, v2)), (3, (0, v3))] [] H
  refine xq_run [5, 14, 32, 81, 93, 98, 118, 138] 300 ?_
  show ((300 ≤ v3) → ((v2 = (-1)) → xq X d 163 Q 138 [(0, (2, 51)), (1, (0, v1)), (2, (0, v2)), (3, (0, v3))] [] H) ∧ (¬ (v2 = (-1)) → (xI (10000 + v2)) ∧ xWM (xE X) xMC d 161 [(2, 51), (0, 10000 + v2)] xKZ H _)) ∧ (¬ (300 ≤ v3) → xWM (xE X) xMC d 19 [(0, H 51 12), (0, 34), (0, 37)] xKZ H _)
  refine ⟨fun k_ => ?_, fun k_ => ?_⟩
  · replace h := h.1 k_
    refine ⟨fun k_ => ?_, fun k_ => ?_⟩
    · replace h := h.1 k_
      show xq X d 163 Q 138 [(0, (2, 51)), (1, (0, v1)), (2, (0, v2)), (3, (0, v3))] [] H
      refine xq_run [5, 14, 32, 81, 93, 98, 118, 138] 300 ?_
      show xfR 3 1 ∧ xKZ = xKZ ∧ Q 1 H
      exact ⟨xfR3_1, rfl, h⟩
    · replace h := h.2 k_
      refine ⟨h.1, ?_⟩
      replace h := h.2
      refine xc_in (xc_mono (fun J717 h716 q_ => ?_) h)
      replace h := q_
      show xq X d 163 Q 138 [(0, (2, 51)), (1, (0, v1)), (2, (0, v2)), (3, (0, v3))] [] h716
      refine xq_run [5, 14, 32, 81, 93, 98, 118, 138] 300 ?_
      show xfR 3 1 ∧ xKZ = xKZ ∧ Q 1 h716
      exact ⟨xfR3_1, rfl, h⟩
  · replace h := h.2 k_
    refine xc_in (s_19 (by omega) (H 51 12) 34 37 H  ?_)
    replace h := h
    show xq X d 163 Q 32 [(0, (2, 51)), (1, (0, v1)), (2, (0, v2)), (3, (0, v3))] [(0, xb (34 ≤ (H 51 12) ∧ (H 51 12) ≤ 37))] H
    refine xq_run [5, 14, 32, 81, 93, 98, 118, 138] 300 ?_
    show ((xb (34 ≤ (H 51 12) ∧ (H 51 12) ≤ 37) = 0) → ((v2 = (-1)) → xq X d 163 Q 138 [(0, (2, 51)), (1, (0, v1)), (2, (0, v2)), (3, (0, v3))] [] H) ∧ (¬ (v2 = (-1)) → (xI (10000 + v2)) ∧ xWM (xE X) xMC d 161 [(2, 51), (0, 10000 + v2)] xKZ H _)) ∧ (¬ (xb (34 ≤ (H 51 12) ∧ (H 51 12) ≤ 37) = 0) → ((H 51 12 = 36) → ((¬ 1 = 0) → xq X d 163 Q 81 [(5, (0, 1)), (4, (0, H 51 12)), (0, (2, 51)), (1, (0, v1)), (2, (0, v2)), (3, (0, v3))] [] H) ∧ (¬ (¬ 1 = 0) → _)) ∧ (¬ (H 51 12 = 36) → ((¬ H 51 12 = 37) → ((¬ 0 = 0) → _) ∧ (¬ (¬ 0 = 0) → ((v2 = (-1)) → xq X d 163 Q 81 [(5, (0, 0)), (4, (0, H 51 12)), (0, (2, 51)), (1, (0, v1)), (2, (0, v2)), (3, (0, v3))] [] H) ∧ (¬ (v2 = (-1)) → (xI (10000 + v2)) ∧ xWM (xE X) xMC d 161 [(2, 51), (0, 10000 + v2)] xKZ H _))) ∧ (¬ (¬ H 51 12 = 37) → ((¬ 1 = 0) → xq X d 163 Q 81 [(5, (0, 1)), (4, (0, H 51 12)), (0, (2, 51)), (1, (0, v1)), (2, (0, v2)), (3, (0, v3))] [] H) ∧ (¬ (¬ 1 = 0) → _))))
    refine ⟨fun k_ => ?_, fun k_ => ?_⟩
    · replace h := h.2 (xbe_0.mp k_)
      refine ⟨fun k_ => ?_, fun k_ => ?_⟩
      · replace h := h.1 k_
        show xq X d 163 Q 138 [(0, (2, 51)), (1, (0, v1)), (2, (0, v2)), (3, (0, v3))] [] H
        refine xq_run [5, 14, 32, 81, 93, 98, 118, 138] 300 ?_
        show xfR 3 1 ∧ xKZ = xKZ ∧ Q 1 H
        exact ⟨xfR3_1, rfl, h⟩
      · replace h := h.2 k_
        refine ⟨h.1, ?_⟩
        replace h := h.2
        refine xc_in (xc_mono (fun J719 h718 q_ => ?_) h)
        replace h := q_
        show xq X d 163 Q 138 [(0, (2, 51)), (1, (0, v1)), (2, (0, v2)), (3, (0, v3))] [] h718
        refine xq_run [5, 14, 32, 81, 93, 98, 118, 138] 300 ?_
        show xfR 3 1 ∧ xKZ = xKZ ∧ Q 1 h718
        exact ⟨xfR3_1, rfl, h⟩
    · replace h := h.1 (xbe_1.mp k_)
      refine ⟨fun k_ => ?_, fun k_ => ?_⟩
      · replace h := h.1 k_
        refine ⟨fun k_ => ?_, fun k_ => absurd (by decide) k_⟩
        show xq X d 163 Q 81 [(5, (0, 1)), (4, (0, H 51 12)), (0, (2, 51)), (1, (0, v1)), (2, (0, v2)), (3, (0, v3))] [] H
        refine xq_run [5, 14, 32, 81, 93, 98, 118, 138] 300 ?_
        show ((¬ 1 = 0) → xWM (xE X) xMC d 160 [(2, 51)] xKZ H _) ∧ (¬ (¬ 1 = 0) → _)
        refine ⟨fun k_ => ?_, fun k_ => absurd (by decide) k_⟩
        refine xc_in (xc_mono (fun J721 h720 q_ => ?_) h)
        replace h := q_
        show xq X d 163 Q 93 [(5, (0, 1)), (4, (0, H 51 12)), (0, (2, 51)), (1, (0, v1)), (2, (0, v2)), (3, (0, v3))] [] h720
        refine xq_run [5, 14, 32, 81, 93, 98, 118, 138] 300 ?_
        show xWM (xE X) xMC d 162 [(2, 51), (0, v1)] xKZ h720 _
        refine xc_in (xc_mono (fun J723 h722 q_ => ?_) h)
        replace h := q_
        show xq X d 163 Q 98 [(5, (0, 1)), (4, (0, H 51 12)), (0, (2, 51)), (1, (0, v1)), (2, (0, v2)), (3, (0, v3))] [(0, J723)] h722
        refine xq_run [5, 14, 32, 81, 93, 98, 118, 138] 300 ?_
        show ((¬ J723 = 0) → ((1 = 0) → _) ∧ (¬ (1 = 0) → (xI (10000 + (H 51 12))) ∧ xWM (xE X) xMC d 161 [(2, 51), (0, 10000 + (H 51 12))] xKZ h722 _)) ∧ (¬ (¬ J723 = 0) → xfR 3 0 ∧ xKZ = xKZ ∧ Q 0 h722)
        refine ⟨fun k_ => ?_, fun k_ => ?_⟩
        · replace h := h.1 k_
          refine ⟨fun k_ => absurd k_ (by decide), fun k_ => ?_⟩
          refine ⟨h.1, ?_⟩
          replace h := h.2
          refine xc_in (xc_mono (fun J725 h724 q_ => ?_) h)
          replace h := q_
          show xq X d 163 Q 118 [(5, (0, 1)), (4, (0, H 51 12)), (0, (2, 51)), (1, (0, v1)), (2, (0, v2)), (3, (0, v3))] [] h724
          refine xq_run [5, 14, 32, 81, 93, 98, 118, 138] 300 ?_
          show (xI (v3 + 1)) ∧ xq X d 163 Q 14 [(0, (2, 51)), (1, (0, v1)), (2, (0, v2)), (3, (0, v3 + 1))] [] h724
          refine ⟨h.1, ?_⟩
          replace h := h.2
          exact h
        · replace h := h.2 k_
          exact ⟨xfR3_0, rfl, h⟩
      · replace h := h.2 k_
        refine ⟨fun k_ => ?_, fun k_ => ?_⟩
        · replace h := h.1 k_
          refine ⟨fun k_ => absurd k_ (by decide), fun k_ => ?_⟩
          refine ⟨fun k_ => ?_, fun k_ => ?_⟩
          · replace h := h.1 k_
            show xq X d 163 Q 81 [(5, (0, 0)), (4, (0, H 51 12)), (0, (2, 51)), (1, (0, v1)), (2, (0, v2)), (3, (0, v3))] [] H
            refine xq_run [5, 14, 32, 81, 93, 98, 118, 138] 300 ?_
            show ((¬ 0 = 0) → _) ∧ (¬ (¬ 0 = 0) → xWM (xE X) xMC d 160 [(2, 51)] xKZ H _)
            refine ⟨fun k_ => absurd k_ (by decide), fun k_ => ?_⟩
            refine xc_in (xc_mono (fun J727 h726 q_ => ?_) h)
            replace h := q_
            show xq X d 163 Q 93 [(2, (0, H 51 12)), (5, (0, 0)), (4, (0, H 51 12)), (0, (2, 51)), (1, (0, v1)), (3, (0, v3))] [] h726
            refine xq_run [5, 14, 32, 81, 93, 98, 118, 138] 300 ?_
            show xWM (xE X) xMC d 162 [(2, 51), (0, v1)] xKZ h726 _
            refine xc_in (xc_mono (fun J729 h728 q_ => ?_) h)
            replace h := q_
            show xq X d 163 Q 98 [(2, (0, H 51 12)), (5, (0, 0)), (4, (0, H 51 12)), (0, (2, 51)), (1, (0, v1)), (3, (0, v3))] [(0, J729)] h728
            refine xq_run [5, 14, 32, 81, 93, 98, 118, 138] 300 ?_
            show ((¬ J729 = 0) → ((0 = 0) → xq X d 163 Q 118 [(2, (0, H 51 12)), (5, (0, 0)), (4, (0, H 51 12)), (0, (2, 51)), (1, (0, v1)), (3, (0, v3))] [] h728) ∧ (¬ (0 = 0) → _)) ∧ (¬ (¬ J729 = 0) → xfR 3 0 ∧ xKZ = xKZ ∧ Q 0 h728)
            refine ⟨fun k_ => ?_, fun k_ => ?_⟩
            · replace h := h.1 k_
              refine ⟨fun k_ => ?_, fun k_ => absurd (by decide) k_⟩
              show xq X d 163 Q 118 [(2, (0, H 51 12)), (5, (0, 0)), (4, (0, H 51 12)), (0, (2, 51)), (1, (0, v1)), (3, (0, v3))] [] h728
              refine xq_run [5, 14, 32, 81, 93, 98, 118, 138] 300 ?_
              show (xI (v3 + 1)) ∧ xq X d 163 Q 14 [(0, (2, 51)), (1, (0, v1)), (2, (0, H 51 12)), (3, (0, v3 + 1))] [] h728
              refine ⟨h.1, ?_⟩
              replace h := h.2
              exact h
            · replace h := h.2 k_
              exact ⟨xfR3_0, rfl, h⟩
          · replace h := h.2 k_
            refine ⟨h.1, ?_⟩
            replace h := h.2
            refine xc_in (xc_mono (fun J731 h730 q_ => ?_) h)
            replace h := q_
            show xq X d 163 Q 81 [(5, (0, 0)), (4, (0, H 51 12)), (0, (2, 51)), (1, (0, v1)), (2, (0, v2)), (3, (0, v3))] [] h730
            refine xq_run [5, 14, 32, 81, 93, 98, 118, 138] 300 ?_
            show ((¬ 0 = 0) → _) ∧ (¬ (¬ 0 = 0) → xWM (xE X) xMC d 160 [(2, 51)] xKZ h730 _)
            refine ⟨fun k_ => absurd k_ (by decide), fun k_ => ?_⟩
            refine xc_in (xc_mono (fun J733 h732 q_ => ?_) h)
            replace h := q_
            show xq X d 163 Q 93 [(2, (0, H 51 12)), (5, (0, 0)), (4, (0, H 51 12)), (0, (2, 51)), (1, (0, v1)), (3, (0, v3))] [] h732
            refine xq_run [5, 14, 32, 81, 93, 98, 118, 138] 300 ?_
            show xWM (xE X) xMC d 162 [(2, 51), (0, v1)] xKZ h732 _
            refine xc_in (xc_mono (fun J735 h734 q_ => ?_) h)
            replace h := q_
            show xq X d 163 Q 98 [(2, (0, H 51 12)), (5, (0, 0)), (4, (0, H 51 12)), (0, (2, 51)), (1, (0, v1)), (3, (0, v3))] [(0, J735)] h734
            refine xq_run [5, 14, 32, 81, 93, 98, 118, 138] 300 ?_
            show ((¬ J735 = 0) → ((0 = 0) → xq X d 163 Q 118 [(2, (0, H 51 12)), (5, (0, 0)), (4, (0, H 51 12)), (0, (2, 51)), (1, (0, v1)), (3, (0, v3))] [] h734) ∧ (¬ (0 = 0) → _)) ∧ (¬ (¬ J735 = 0) → xfR 3 0 ∧ xKZ = xKZ ∧ Q 0 h734)
            refine ⟨fun k_ => ?_, fun k_ => ?_⟩
            · replace h := h.1 k_
              refine ⟨fun k_ => ?_, fun k_ => absurd (by decide) k_⟩
              show xq X d 163 Q 118 [(2, (0, H 51 12)), (5, (0, 0)), (4, (0, H 51 12)), (0, (2, 51)), (1, (0, v1)), (3, (0, v3))] [] h734
              refine xq_run [5, 14, 32, 81, 93, 98, 118, 138] 300 ?_
              show (xI (v3 + 1)) ∧ xq X d 163 Q 14 [(0, (2, 51)), (1, (0, v1)), (2, (0, H 51 12)), (3, (0, v3 + 1))] [] h734
              refine ⟨h.1, ?_⟩
              replace h := h.2
              exact h
            · replace h := h.2 k_
              exact ⟨xfR3_0, rfl, h⟩
        · replace h := h.2 k_
          refine ⟨fun k_ => ?_, fun k_ => absurd (by decide) k_⟩
          show xq X d 163 Q 81 [(5, (0, 1)), (4, (0, H 51 12)), (0, (2, 51)), (1, (0, v1)), (2, (0, v2)), (3, (0, v3))] [] H
          refine xq_run [5, 14, 32, 81, 93, 98, 118, 138] 300 ?_
          show ((¬ 1 = 0) → xWM (xE X) xMC d 160 [(2, 51)] xKZ H _) ∧ (¬ (¬ 1 = 0) → _)
          refine ⟨fun k_ => ?_, fun k_ => absurd (by decide) k_⟩
          refine xc_in (xc_mono (fun J737 h736 q_ => ?_) h)
          replace h := q_
          show xq X d 163 Q 93 [(5, (0, 1)), (4, (0, H 51 12)), (0, (2, 51)), (1, (0, v1)), (2, (0, v2)), (3, (0, v3))] [] h736
          refine xq_run [5, 14, 32, 81, 93, 98, 118, 138] 300 ?_
          show xWM (xE X) xMC d 162 [(2, 51), (0, v1)] xKZ h736 _
          refine xc_in (xc_mono (fun J739 h738 q_ => ?_) h)
          replace h := q_
          show xq X d 163 Q 98 [(5, (0, 1)), (4, (0, H 51 12)), (0, (2, 51)), (1, (0, v1)), (2, (0, v2)), (3, (0, v3))] [(0, J739)] h738
          refine xq_run [5, 14, 32, 81, 93, 98, 118, 138] 300 ?_
          show ((¬ J739 = 0) → ((1 = 0) → _) ∧ (¬ (1 = 0) → (xI (10000 + (H 51 12))) ∧ xWM (xE X) xMC d 161 [(2, 51), (0, 10000 + (H 51 12))] xKZ h738 _)) ∧ (¬ (¬ J739 = 0) → xfR 3 0 ∧ xKZ = xKZ ∧ Q 0 h738)
          refine ⟨fun k_ => ?_, fun k_ => ?_⟩
          · replace h := h.1 k_
            refine ⟨fun k_ => absurd k_ (by decide), fun k_ => ?_⟩
            refine ⟨h.1, ?_⟩
            replace h := h.2
            refine xc_in (xc_mono (fun J741 h740 q_ => ?_) h)
            replace h := q_
            show xq X d 163 Q 118 [(5, (0, 1)), (4, (0, H 51 12)), (0, (2, 51)), (1, (0, v1)), (2, (0, v2)), (3, (0, v3))] [] h740
            refine xq_run [5, 14, 32, 81, 93, 98, 118, 138] 300 ?_
            show (xI (v3 + 1)) ∧ xq X d 163 Q 14 [(0, (2, 51)), (1, (0, v1)), (2, (0, v2)), (3, (0, v3 + 1))] [] h740
            refine ⟨h.1, ?_⟩
            replace h := h.2
            exact h
          · replace h := h.2 k_
            exact ⟨xfR3_0, rfl, h⟩

def tyC (D : Nat) (w : Int) (c : List Int) : Prop := (w = -1 ∧ suC (D + 1) c) ∨ (¬ w = -1 ∧ ∃ a b, c = a ++ b ∧ suC (D + 2) a ∧ suC (D + 1) b)
def siP (H0 : XH) (ta lo i q : Int) (O : List Int) (F W C : List (Int × Int)) (i' w v : Int) (h : XH) : Prop := ∃ (c : List Int) (Wm : List (Int × Int)) (Om : List Int), rLS H0 ta lo i' (O ++ c) h ∧ (i < i' ∧ i' ≤ H0 51 10) ∧ (w = -1 ∨ w = 34 ∨ w = 35) ∧ (c.length : Int) + (if w = -1 then 0 else 1) ≤ i' - i ∧ (0 ≤ v ∧ v + 1 ≤ i' - i) ∧ mFl (mLen F) 4 Wm Om = (if w = -1 then W else (w, mLen F) :: W, O ++ c) ∧ Wm.length ≤ W.length + 2 ∧ tyC (17 - 2 * q).toNat w c ∧ rMK H0 (1, i, q, F, W, O, C) (2, i', q, F, Wm, Om, C)
theorem mFl_4 {d w : Int} {W : List (Int × Int)} (O : List Int) (hw : w = 34 ∨ w = 35) : mFl d 4 ((w, d) :: W) O = ((w, d) :: W, O) := by
  refine if_neg (fun q => ?_)
  have z := q.2
  unfold mRk at z
  dsimp only at z
  rw [if_neg (by omega), if_neg (by omega), if_pos hw] at z
  exact absurd z (by decide)
theorem mFl_hit {d r w : Int} {W : List (Int × Int)} (O : List Int) (h : r ≤ mRk w) : mFl d r ((w, d) :: W) O = mFl d r W (O ++ [10000 + w]) := if_pos ⟨rfl, h⟩
theorem mRk_3 {w : Int} (h : w = 34 ∨ w = 35) : mRk w = 3 := by
  unfold mRk
  rw [if_neg (by omega), if_neg (by omega), if_pos h]
theorem mRk_4 {w : Int} (h : w = 36 ∨ w = 37) : mRk w = 4 := by
  unfold mRk
  rw [if_neg (by omega), if_neg (by omega), if_neg (by omega)]

theorem Su_of (k : Nat) (hO : OnS k) : SuS k := by
  intro X d Q hd H0 ta lo i q O F W C H tb L0 hk pr hQ
  cases d with
  | zero => omega
  | succ d =>
  obtain ⟨⟨i1, q1, O1, f1, f2, w1, cC, f7, -⟩, w2, wF⟩ := id pr
  have t1 := tb.1
  have t2 := tb.2.1
  have wG : ∀ p ∈ W, p.2 < mLen F := wF
  have key : ∀ (n : Nat) (i' w v : Int) (h : XH), (H0 51 10 - i').toNat < n → siP H0 ta lo i q O F W C i' w v h → xq X d 163 Q 14 [(0, (2, 51)), (1, (0, q)), (2, (0, w)), (3, (0, v))] [] h := by
    intro n
    induction n with
    | zero =>
      intro i' w v h hn _
      exact absurd hn (Nat.not_lt_zero _)
    | succ n ih0 =>
      intro i' w v h hn si
      have ih : ∀ (j w' v' : Int) (h' : XH), i' < j ∧ j ≤ H0 51 10 → siP H0 ta lo i q O F W C j w' v' h' → xq X d 163 Q 14 [(0, (2, 51)), (1, (0, q)), (2, (0, w')), (3, (0, v'))] [] h' := fun j w' v' h' hj => ih0 j w' v' h' (by omega)
      obtain ⟨c, Wm, Om, L_H, li, hw, cl, hv, fl, wl, ty, ms⟩ := si
      have k12 : h 51 12 = H0 55 i' := L_H.2.2.2.1
      have iT : ¬ H0 55 i' = 21 → i' < H0 51 10 := fun z => by
        by_cases y : i' = H0 51 10
        · exact absurd (by rw [y]; exact tb.2.2.1) z
        · omega
      have tk := tb.2.2.2.1 i' (by omega) (by omega)
      have lO := mFl_len (d := mLen F) (r := 4) Wm Om
      rw [fl, List.length_append] at lO
      have lO : Om.length ≤ O.length + c.length := lO.1
      have cl0 : (c.length : Int) ≤ i' - i := by
        split at cl <;> omega
      have ok1 : mOk (H0 55) (H0 51 10) (2, i', q, F, Wm, Om, C) := mOk_i (by decide) (by omega) (by omega) (by omega) (by omega) (by omega) cC f1
      refine U_163_14 (by omega) q w v h ?_
      rw [k12]
      refine ⟨fun c1 => ?_, fun c1 => ?_⟩
      · skip
        refine ⟨fun c2 => ?_, fun c2 => ?_⟩
        · skip
          exfalso
          omega
        · skip
          refine ⟨?_, ?_⟩
          · first | omega | (unfold xI; omega) | (exfalso; omega)
          exfalso
          omega
      · skip
        refine ⟨fun c3 => ?_, fun c3 => ?_⟩
        · skip
          refine ⟨fun c4 => ?_, fun c4 => ?_⟩
          · skip
            refine s_160 (by omega) tb L_H (by omega) (fun h748 L_h748 => ?_)
            have st1 : rMK H0 (1, i, q, F, W, O, C) (1, i' + 1, q, F, ((H0 55 i', mLen F) :: (if w = -1 then W else (w, mLen F) :: W)), (O ++ c), C) := mR_trans ms (mR_one ok1 (by
              rw [mS_2]
              unfold mS2
              rw [if_pos (by omega)]
              rw [mRk_4 (by omega), fl]))
            have wl1 : ((H0 55 i', mLen F) :: (if w = -1 then W else (w, mLen F) :: W)).length ≤ W.length + 2 := by
              show (if w = -1 then W else (w, mLen F) :: W).length + 1 ≤ _
              split
              · omega
              · show W.length + 1 + 1 ≤ _
                omega
            have wm1 : ∀ p ∈ ((H0 55 i', mLen F) :: (if w = -1 then W else (w, mLen F) :: W)), p.2 ≤ (F.length : Int) := by
              intro p hp
              rcases List.mem_cons.mp hp with e | e
              · rw [e]
                exact Int.le_refl _
              · split at e
                · exact Int.le_of_lt (wF p e)
                · rcases List.mem_cons.mp e with e | e
                  · rw [e]
                    exact Int.le_refl _
                  · exact Int.le_of_lt (wF p e)
            have ol0 : (O ++ c).length = O.length + c.length := List.length_append
            have ol1 : ((O ++ c).length : Int) ≤ i' + 1 := by
              omega
            refine hO X d _ (by omega) H0 ta lo (i' + 1) q (O ++ c) F ((H0 55 i', mLen F) :: (if w = -1 then W else (w, mLen F) :: W)) C _ tb L_h748 hk ⟨by omega, q1, ol1, f1, f2, by omega, cC, f7, wm1⟩ (fun J751 h750 P => P.elim (fun ok => ?_) (fun fa => ⟨fun c => absurd fa.1 c, fun _ => hQ 0 h750 (Or.inr ⟨rfl, faP_pre st1 fa.2⟩)⟩))
            obtain ⟨hr, j, c2, ⟨L_h750, lj, lc, sc⟩, mr⟩ := ok
            have lt2 : ((O ++ c) ++ c2).length < 300 := by
              rw [List.length_append]
              omega
            refine ⟨fun c5 => ?_, fun c5 => ?_⟩
            · skip
              refine ⟨?_, ?_⟩
              · first | omega | (unfold xI; omega) | (exfalso; omega)
              refine s_161 (by omega) tb L_h750 lt2 (fun h752 L_h752 => ?_)
              refine ⟨?_, ?_⟩
              · first | omega | (unfold xI; omega) | (exfalso; omega)
              refine ih j w (v + 1) _ (by omega) ⟨c ++ (c2 ++ [10000 + H0 55 i']), (H0 55 i', mLen F) :: (if w = -1 then W else (w, mLen F) :: W), O ++ c ++ c2, ?_, by omega, hw, ?_, by omega, ?_, wl1, ?_, mR_trans st1 mr⟩
              · rw [← List.append_assoc, ← List.append_assoc]
                exact L_h752
              · rw [List.length_append, List.length_append]
                simp only [List.length_cons, List.length_nil]
                omega
              · rw [mFl_hit _ (by rw [mRk_4 (by omega)]; exact Int.le_refl _), ← List.append_assoc, ← List.append_assoc]
                split
                · exact mFl_no _ wG
                · exact mFl_4 _ (by omega)
              · rcases ty with ⟨y, s⟩ | ⟨y, a, b, e, sa, sb⟩
                · exact Or.inl ⟨y, suC_ar s sc (by omega)⟩
                · exact Or.inr ⟨y, a, b ++ (c2 ++ [10000 + H0 55 i']), by rw [e, List.append_assoc], sa, suC_ar sb sc (by omega)⟩
            · skip
              exfalso
              omega
          · skip
            refine ⟨fun c6 => ?_, fun c6 => ?_⟩
            · skip
              refine ⟨fun c7 => ?_, fun c7 => ?_⟩
              · skip
                refine s_160 (by omega) tb L_H (by omega) (fun h754 L_h754 => ?_)
                have st1 : rMK H0 (1, i, q, F, W, O, C) (1, i' + 1, q, F, ((H0 55 i', mLen F) :: W), (O ++ c), C) := mR_trans ms (mR_one ok1 (by
                  rw [mS_2]
                  unfold mS2
                  rw [if_pos (by omega)]
                  rw [mRk_3 (by omega), ← mFl_two (show (3 : Int) ≤ 4 by decide), fl, if_pos (by assumption)]
                  dsimp only
                  rw [mFl_no _ wG]))
                have wl1 : ((H0 55 i', mLen F) :: W).length ≤ W.length + 2 := by
                  show W.length + 1 ≤ _
                  omega
                have wm1 : ∀ p ∈ ((H0 55 i', mLen F) :: W), p.2 ≤ (F.length : Int) := by
                  intro p hp
                  rcases List.mem_cons.mp hp with e | e
                  · rw [e]
                    exact Int.le_refl _
                  · exact Int.le_of_lt (wF p e)
                rw [if_pos (by assumption)] at cl
                have ol0 : (O ++ c).length = O.length + c.length := List.length_append
                have ol1 : ((O ++ c).length : Int) ≤ i' + 1 := by
                  omega
                refine hO X d _ (by omega) H0 ta lo (i' + 1) q (O ++ c) F ((H0 55 i', mLen F) :: W) C _ tb L_h754 hk ⟨by omega, q1, ol1, f1, f2, by omega, cC, f7, wm1⟩ (fun J757 h756 P => P.elim (fun ok => ?_) (fun fa => ⟨fun c => absurd fa.1 c, fun _ => hQ 0 h756 (Or.inr ⟨rfl, faP_pre st1 fa.2⟩)⟩))
                obtain ⟨hr, j, c2, ⟨L_h756, lj, lc, sc⟩, mr⟩ := ok
                have lt2 : ((O ++ c) ++ c2).length < 300 := by
                  rw [List.length_append]
                  omega
                refine ⟨fun c8 => ?_, fun c8 => ?_⟩
                · skip
                  refine ⟨?_, ?_⟩
                  · first | omega | (unfold xI; omega) | (exfalso; omega)
                  have hw1 : w = -1 := by assumption
                  refine ih j (H0 55 i') (v + 1) _ (by omega) ⟨c ++ c2, (H0 55 i', mLen F) :: W, O ++ c ++ c2, ?_, by omega, by omega, ?_, by omega, ?_, wl1, ?_, mR_trans st1 mr⟩
                  · rw [← List.append_assoc]
                    exact L_h756
                  · rw [List.length_append, if_neg (by omega)]
                    omega
                  · rw [if_neg (show ¬ H0 55 i' = -1 by omega), mFl_4 _ (by omega), List.append_assoc]
                  · rcases ty with ⟨y, s⟩ | ⟨y, -⟩
                    · exact Or.inr ⟨by omega, c, c2, rfl, suC_le s (by omega), suC_le sc (by omega)⟩
                    · exact absurd hw1 y
                · skip
                  exfalso
                  omega
              · skip
                refine ⟨?_, ?_⟩
                · first | omega | (unfold xI; omega) | (exfalso; omega)
                have lt1 : (O ++ c).length < 300 := by
                  rw [if_neg (by assumption)] at cl
                  rw [List.length_append]
                  omega
                refine s_161 (by omega) tb L_H lt1 (fun h758 L_h758 => ?_)
                refine s_160 (by omega) tb L_h758 (by omega) (fun h760 L_h760 => ?_)
                have st1 : rMK H0 (1, i, q, F, W, O, C) (1, i' + 1, q, F, ((H0 55 i', mLen F) :: W), (O ++ c ++ [10000 + w]), C) := mR_trans ms (mR_one ok1 (by
                  rw [mS_2]
                  unfold mS2
                  rw [if_pos (by omega)]
                  rw [mRk_3 (by omega), ← mFl_two (show (3 : Int) ≤ 4 by decide), fl, if_neg (by assumption)]
                  dsimp only
                  rw [mFl_hit _ (by rw [mRk_3 (by omega)]; exact Int.le_refl _), mFl_no _ wG]))
                have wl1 : ((H0 55 i', mLen F) :: W).length ≤ W.length + 2 := by
                  show W.length + 1 ≤ _
                  omega
                have wm1 : ∀ p ∈ ((H0 55 i', mLen F) :: W), p.2 ≤ (F.length : Int) := by
                  intro p hp
                  rcases List.mem_cons.mp hp with e | e
                  · rw [e]
                    exact Int.le_refl _
                  · exact Int.le_of_lt (wF p e)
                rw [if_neg (by assumption)] at cl
                have ol0 : (O ++ c ++ [10000 + w]).length = O.length + c.length + 1 := by
                  rw [List.length_append, List.length_append]
                  rfl
                have ol1 : ((O ++ c ++ [10000 + w]).length : Int) ≤ i' + 1 := by
                  omega
                refine hO X d _ (by omega) H0 ta lo (i' + 1) q (O ++ c ++ [10000 + w]) F ((H0 55 i', mLen F) :: W) C _ tb L_h760 hk ⟨by omega, q1, ol1, f1, f2, by omega, cC, f7, wm1⟩ (fun J763 h762 P => P.elim (fun ok => ?_) (fun fa => ⟨fun c => absurd fa.1 c, fun _ => hQ 0 h762 (Or.inr ⟨rfl, faP_pre st1 fa.2⟩)⟩))
                obtain ⟨hr, j, c2, ⟨L_h762, lj, lc, sc⟩, mr⟩ := ok
                have lt2 : ((O ++ c ++ [10000 + w]) ++ c2).length < 300 := by
                  rw [List.length_append]
                  omega
                refine ⟨fun c9 => ?_, fun c9 => ?_⟩
                · skip
                  refine ⟨?_, ?_⟩
                  · first | omega | (unfold xI; omega) | (exfalso; omega)
                  have hw1 : ¬ w = -1 := by assumption
                  refine ih j (H0 55 i') (v + 1) _ (by omega) ⟨c ++ [10000 + w] ++ c2, (H0 55 i', mLen F) :: W, O ++ c ++ [10000 + w] ++ c2, ?_, by omega, by omega, ?_, by omega, ?_, wl1, ?_, mR_trans st1 mr⟩
                  · rw [← List.append_assoc, ← List.append_assoc]
                    exact L_h762
                  · rw [List.length_append, List.length_append, if_neg (by omega)]
                    simp only [List.length_cons, List.length_nil]
                    omega
                  · rw [if_neg (show ¬ H0 55 i' = -1 by omega), mFl_4 _ (by omega), ← List.append_assoc, ← List.append_assoc]
                  · rcases ty with ⟨y, -⟩ | ⟨-, a, b, e, sa, sb⟩
                    · exact absurd y hw1
                    · refine Or.inr ⟨by omega, c ++ [10000 + w], c2, rfl, ?_, suC_le sc (by omega)⟩
                      rw [e, List.append_assoc]
                      exact suC_ar sa sb (by omega)
                · skip
                  exfalso
                  omega
            · skip
              refine s_160 (by omega) tb L_H (by omega) (fun h764 L_h764 => ?_)
              have st1 : rMK H0 (1, i, q, F, W, O, C) (1, i' + 1, q, F, ((H0 55 i', mLen F) :: (if w = -1 then W else (w, mLen F) :: W)), (O ++ c), C) := mR_trans ms (mR_one ok1 (by
                rw [mS_2]
                unfold mS2
                rw [if_pos (by omega)]
                rw [mRk_4 (by omega), fl]))
              have wl1 : ((H0 55 i', mLen F) :: (if w = -1 then W else (w, mLen F) :: W)).length ≤ W.length + 2 := by
                show (if w = -1 then W else (w, mLen F) :: W).length + 1 ≤ _
                split
                · omega
                · show W.length + 1 + 1 ≤ _
                  omega
              have wm1 : ∀ p ∈ ((H0 55 i', mLen F) :: (if w = -1 then W else (w, mLen F) :: W)), p.2 ≤ (F.length : Int) := by
                intro p hp
                rcases List.mem_cons.mp hp with e | e
                · rw [e]
                  exact Int.le_refl _
                · split at e
                  · exact Int.le_of_lt (wF p e)
                  · rcases List.mem_cons.mp e with e | e
                    · rw [e]
                      exact Int.le_refl _
                    · exact Int.le_of_lt (wF p e)
              have ol0 : (O ++ c).length = O.length + c.length := List.length_append
              have ol1 : ((O ++ c).length : Int) ≤ i' + 1 := by
                omega
              refine hO X d _ (by omega) H0 ta lo (i' + 1) q (O ++ c) F ((H0 55 i', mLen F) :: (if w = -1 then W else (w, mLen F) :: W)) C _ tb L_h764 hk ⟨by omega, q1, ol1, f1, f2, by omega, cC, f7, wm1⟩ (fun J767 h766 P => P.elim (fun ok => ?_) (fun fa => ⟨fun c => absurd fa.1 c, fun _ => hQ 0 h766 (Or.inr ⟨rfl, faP_pre st1 fa.2⟩)⟩))
              obtain ⟨hr, j, c2, ⟨L_h766, lj, lc, sc⟩, mr⟩ := ok
              have lt2 : ((O ++ c) ++ c2).length < 300 := by
                rw [List.length_append]
                omega
              refine ⟨fun c10 => ?_, fun c10 => ?_⟩
              · skip
                refine ⟨?_, ?_⟩
                · first | omega | (unfold xI; omega) | (exfalso; omega)
                refine s_161 (by omega) tb L_h766 lt2 (fun h768 L_h768 => ?_)
                refine ⟨?_, ?_⟩
                · first | omega | (unfold xI; omega) | (exfalso; omega)
                refine ih j w (v + 1) _ (by omega) ⟨c ++ (c2 ++ [10000 + H0 55 i']), (H0 55 i', mLen F) :: (if w = -1 then W else (w, mLen F) :: W), O ++ c ++ c2, ?_, by omega, hw, ?_, by omega, ?_, wl1, ?_, mR_trans st1 mr⟩
                · rw [← List.append_assoc, ← List.append_assoc]
                  exact L_h768
                · rw [List.length_append, List.length_append]
                  simp only [List.length_cons, List.length_nil]
                  omega
                · rw [mFl_hit _ (by rw [mRk_4 (by omega)]; exact Int.le_refl _), ← List.append_assoc, ← List.append_assoc]
                  split
                  · exact mFl_no _ wG
                  · exact mFl_4 _ (by omega)
                · rcases ty with ⟨y, s⟩ | ⟨y, a, b, e, sa, sb⟩
                  · exact Or.inl ⟨y, suC_ar s sc (by omega)⟩
                  · exact Or.inr ⟨y, a, b ++ (c2 ++ [10000 + H0 55 i']), by rw [e, List.append_assoc], sa, suC_ar sb sc (by omega)⟩
              · skip
                exfalso
                omega
        · skip
          refine ⟨fun c11 => ?_, fun c11 => ?_⟩
          · skip
            have hw : w = -1 := by assumption
            rw [if_pos hw] at fl cl
            refine hQ 1 _ (Or.inl ⟨rfl, i', c, Wm, Om, ⟨L_H, li, by omega, ?_⟩, by omega, ?_, wl, ms⟩)
            · rcases ty with ⟨-, y⟩ | ⟨y, -⟩
              · exact suC_le y (by omega)
              · exact absurd hw y
            · rw [← mFl_two (show (3 : Int) ≤ 4 by decide), fl]
              exact mFl_no _ wG
          · skip
            refine ⟨?_, ?_⟩
            · first | omega | (unfold xI; omega) | (exfalso; omega)
            have lt1 : (O ++ c).length < 300 := by
              rw [if_neg (by assumption)] at cl
              rw [List.length_append]
              omega
            refine s_161 (by omega) tb L_H lt1 (fun h746 L_h746 => ?_)
            have hw : ¬ w = -1 := by assumption
            rw [if_neg hw] at fl cl
            refine hQ 1 _ (Or.inl ⟨rfl, i', c ++ [10000 + w], Wm, Om, ⟨by rw [← List.append_assoc]; exact L_h746, li, by rw [List.length_append]; simp only [List.length_cons, List.length_nil]; omega, ?_⟩, by omega, ?_, wl, ms⟩)
            · rcases ty with ⟨y, -⟩ | ⟨-, a, b, e, sa, sb⟩
              · exact absurd y hw
              · rw [e, List.append_assoc]
                exact suC_le (suC_ar sa sb (by omega)) (by omega)
            · rw [← mFl_two (show (3 : Int) ≤ 4 by decide), fl]
              dsimp only
              rw [mFl_hit _ (by rw [mRk_3 (by omega)]; exact Int.le_refl _), mFl_no _ wG, List.append_assoc]
  refine U_163 (by omega) q H ?_
  refine hO X d _ (by omega) H0 ta lo i q O F W C _ tb L0 hk pr.1 (fun J771 h770 P => P.elim (fun ok => ?_) (fun fa => ⟨fun c => absurd fa.1 c, fun _ => hQ 0 h770 (Or.inr ⟨rfl, fa.2⟩)⟩))
  obtain ⟨hr, j, c, ⟨L_HH, lj, lc, sc⟩, mr⟩ := ok
  refine ⟨fun c1 => ?_, fun c1 => ?_⟩
  · skip
    refine key ((H0 51 10 - j).toNat + 1) j (-1) 0 _ (by omega) ⟨c, W, O ++ c, L_HH, lj, Or.inl rfl, by rw [if_pos rfl]; omega, by omega, ?_, by omega, Or.inl ⟨rfl, suC_le sc (by omega)⟩, mr⟩
    rw [if_pos rfl]
    exact mFl_no _ wG
  · skip
    exfalso
    omega

theorem OnSu : ∀ k : Nat, OnS k ∧ SuS k
  | 0 => by
    have o := On_of 0 (fun k' q => absurd q (Nat.succ_ne_zero k'))
    exact ⟨o, Su_of 0 o⟩
  | k + 1 => by
    have o := On_of (k + 1) (fun k' q => by
      have e : k' = k := by omega
      rw [e]
      exact (OnSu k).2)
    exact ⟨o, Su_of (k + 1) o⟩
theorem s_163 {X : Int × (Int → Int)} {d : Nat} {Q : Int → XH → Prop} (hd : 24 ≤ d) {H0 : XH} {ta lo i q : Int} {O : List Int} (F W C : List (Int × Int)) {H : XH} (tb : rTB H0) (L : rLS H0 ta lo i O H) (pr : prS H0 i q O F W C) (hQ : ∀ r h1, suP H0 ta lo i q O F W C r h1 → Q r h1) : xc X d 163 [(2, 51), (0, q)] H Q :=
  (OnSu 8).2 X d Q (by omega) H0 ta lo i q O F W C H tb L (by have := pr.1.2.1; omega) pr hQ
