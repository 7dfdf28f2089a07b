/-! THE PURE LAYER 63: the walk followed: the class -/
theorem U_215 {X : Int × (Int → Int)} {d : Nat} {Q : Int → XH → Prop} (hd : 1 ≤ d) (H : XH) (h : (xc X d 205 [(2, 58)] H (fun (J1766 : Int) (h1765 : XH) => (xc X d 211 [(2, 58), (0, 1), (0, 0)] h1765 (fun (J1768 : Int) (h1767 : XH) => ((xc X d 212 [(2, 59), (0, max 0 (min 100 J1768))] h1767 (fun (J1770 : Int) (h1769 : XH) => (xc X d 205 [(2, 58)] h1769 (fun (J1772 : Int) (h1771 : XH) => (xc X d 211 [(2, 58), (0, 3), (0, 0)] h1771 (fun (J1774 : Int) (h1773 : XH) => ((J1774 = 0) → (xc X d 205 [(2, 58)] h1773 (fun (J1776 : Int) (h1775 : XH) => (xc X d 211 [(2, 58), (0, 0), (0, 10)] h1775 (fun (J1778 : Int) (h1777 : XH) => (xq X d 215 Q 65 [(0, (2, 58)), (1, (0, max 0 (min 99 J1778))), (2, (0, 0)), (3, (0, 0))] [] h1777)))))) ∧ (¬ (J1774 = 0) → (xc X d 213 [(2, 59)] h1773 (fun (J1780 : Int) (h1779 : XH) => (xc X d 205 [(2, 58)] h1779 (fun (J1782 : Int) (h1781 : XH) => (xc X d 211 [(2, 58), (0, 0), (0, 10)] h1781 (fun (J1784 : Int) (h1783 : XH) => (xq X d 215 Q 65 [(0, (2, 58)), (1, (0, max 0 (min 99 J1784))), (2, (0, 0)), (3, (0, 0))] [] h1783)))))))))))))))))))) : xc X (d + 1) 215 [(2, 58)] H Q := by
  refine ⟨rfl, ?_⟩
  show xq X d 215 Q 100000 [(0, (2, 58))] [] H
  refine xq_run [4, 14, 20, 23, 27, 33, 43, 47, 54, 60, 65, 77, 109, 140, 154, 171, 178, 197, 200] 300 ?_
  show xWM (xE X) xMC d 205 [(2, 58)] xKZ H _
  refine xc_in (xc_mono (fun J1766 h1765 q_ => ?_) h)
  replace h := q_
  show xq X d 215 Q 4 [(0, (2, 58))] [] h1765
  refine xq_run [4, 14, 20, 23, 27, 33, 43, 47, 54, 60, 65, 77, 109, 140, 154, 171, 178, 197, 200] 300 ?_
  show xWM (xE X) xMC d 211 [(2, 58), (0, 1), (0, 0)] xKZ h1765 _
  refine xc_in (xc_mono (fun J1768 h1767 q_ => ?_) h)
  replace h := q_
  show xq X d 215 Q 14 [(0, (2, 58))] [(0, J1768), (2, 59)] h1767
  refine xq_run [4, 14, 20, 23, 27, 33, 43, 47, 54, 60, 65, 77, 109, 140, 154, 171, 178, 197, 200] 300 ?_
  show xWM (xE X) xMC d 3 [(0, J1768), (0, 0), (0, 100)] xKZ h1767 _
  refine xc_in (s_3 (by omega) J1768 0 100 h1767 (by omega)  ?_)
  replace h := h
  show xq X d 215 Q 20 [(0, (2, 58))] [(0, max 0 (min 100 J1768)), (2, 59)] h1767
  refine xq_run [4, 14, 20, 23, 27, 33, 43, 47, 54, 60, 65, 77, 109, 140, 154, 171, 178, 197, 200] 300 ?_
  show xWM (xE X) xMC d 212 [(2, 59), (0, max 0 (min 100 J1768))] xKZ h1767 _
  refine xc_in (xc_mono (fun J1770 h1769 q_ => ?_) h)
  replace h := q_
  show xq X d 215 Q 23 [(0, (2, 58))] [] h1769
  refine xq_run [4, 14, 20, 23, 27, 33, 43, 47, 54, 60, 65, 77, 109, 140, 154, 171, 178, 197, 200] 300 ?_
  show xWM (xE X) xMC d 205 [(2, 58)] xKZ h1769 _
  refine xc_in (xc_mono (fun J1772 h1771 q_ => ?_) h)
  replace h := q_
  show xq X d 215 Q 27 [(0, (2, 58))] [] h1771
  refine xq_run [4, 14, 20, 23, 27, 33, 43, 47, 54, 60, 65, 77, 109, 140, 154, 171, 178, 197, 200] 300 ?_
  show xWM (xE X) xMC d 211 [(2, 58), (0, 3), (0, 0)] xKZ h1771 _
  refine xc_in (xc_mono (fun J1774 h1773 q_ => ?_) h)
  replace h := q_
  show xq X d 215 Q 33 [(0, (2, 58))] [(0, J1774)] h1773
  refine xq_run [4, 14, 20, 23, 27, 33, 43, 47, 54, 60, 65, 77, 109, 140, 154, 171, 178, 197, 200] 300 ?_
  show ((J1774 = 0) → xq X d 215 Q 43 [(0, (2, 58))] [] h1773) ∧ (¬ (J1774 = 0) → xWM (xE X) xMC d 213 [(2, 59)] xKZ h1773 _)
  refine ⟨fun k_ => ?_, fun k_ => ?_⟩
  · replace h := h.1 k_
    show xq X d 215 Q 43 [(0, (2, 58))] [] h1773
    refine xq_run [4, 14, 20, 23, 27, 33, 43, 47, 54, 60, 65, 77, 109, 140, 154, 171, 178, 197, 200] 300 ?_
    show xWM (xE X) xMC d 205 [(2, 58)] xKZ h1773 _
    refine xc_in (xc_mono (fun J1776 h1775 q_ => ?_) h)
    replace h := q_
    show xq X d 215 Q 47 [(0, (2, 58))] [] h1775
    refine xq_run [4, 14, 20, 23, 27, 33, 43, 47, 54, 60, 65, 77, 109, 140, 154, 171, 178, 197, 200] 300 ?_
    show xWM (xE X) xMC d 211 [(2, 58), (0, 0), (0, 10)] xKZ h1775 _
    refine xc_in (xc_mono (fun J1778 h1777 q_ => ?_) h)
    replace h := q_
    show xq X d 215 Q 54 [(0, (2, 58))] [(0, J1778)] h1777
    refine xq_run [4, 14, 20, 23, 27, 33, 43, 47, 54, 60, 65, 77, 109, 140, 154, 171, 178, 197, 200] 300 ?_
    show xWM (xE X) xMC d 3 [(0, J1778), (0, 0), (0, 99)] xKZ h1777 _
    refine xc_in (s_3 (by omega) J1778 0 99 h1777 (by omega)  ?_)
    replace h := h
    show xq X d 215 Q 60 [(0, (2, 58))] [(0, max 0 (min 99 J1778))] h1777
    refine xq_run [4, 14, 20, 23, 27, 33, 43, 47, 54, 60, 65, 77, 109, 140, 154, 171, 178, 197, 200] 300 ?_
    show xq X d 215 Q 65 [(0, (2, 58)), (1, (0, max 0 (min 99 J1778))), (2, (0, 0)), (3, (0, 0))] [] h1777
    exact h
  · replace h := h.2 k_
    refine xc_in (xc_mono (fun J1780 h1779 q_ => ?_) h)
    replace h := q_
    show xq X d 215 Q 43 [(0, (2, 58))] [] h1779
    refine xq_run [4, 14, 20, 23, 27, 33, 43, 47, 54, 60, 65, 77, 109, 140, 154, 171, 178, 197, 200] 300 ?_
    show xWM (xE X) xMC d 205 [(2, 58)] xKZ h1779 _
    refine xc_in (xc_mono (fun J1782 h1781 q_ => ?_) h)
    replace h := q_
    show xq X d 215 Q 47 [(0, (2, 58))] [] h1781
    refine xq_run [4, 14, 20, 23, 27, 33, 43, 47, 54, 60, 65, 77, 109, 140, 154, 171, 178, 197, 200] 300 ?_
    show xWM (xE X) xMC d 211 [(2, 58), (0, 0), (0, 10)] xKZ h1781 _
    refine xc_in (xc_mono (fun J1784 h1783 q_ => ?_) h)
    replace h := q_
    show xq X d 215 Q 54 [(0, (2, 58))] [(0, J1784)] h1783
    refine xq_run [4, 14, 20, 23, 27, 33, 43, 47, 54, 60, 65, 77, 109, 140, 154, 171, 178, 197, 200] 300 ?_
    show xWM (xE X) xMC d 3 [(0, J1784), (0, 0), (0, 99)] xKZ h1783 _
    refine xc_in (s_3 (by omega) J1784 0 99 h1783 (by omega)  ?_)
    replace h := h
    show xq X d 215 Q 60 [(0, (2, 58))] [(0, max 0 (min 99 J1784))] h1783
    refine xq_run [4, 14, 20, 23, 27, 33, 43, 47, 54, 60, 65, 77, 109, 140, 154, 171, 178, 197, 200] 300 ?_
    show xq X d 215 Q 65 [(0, (2, 58)), (1, (0, max 0 (min 99 J1784))), (2, (0, 0)), (3, (0, 0))] [] h1783
    exact h
theorem U_215_65 {X : Int × (Int → Int)} {d : Nat} {Q : Int → XH → Prop} (hd : 4 ≤ d) (v1 v2 v3 : Int) (H : XH) (h : ((5 ≤ v3) → ((1 ≤ v2) → ((8 ≤ H 59 1) → ((H 59 1 < 1) → (0 ≤ H 59 1 ∧ H 59 1 ≤ 7) ∧ (∀ (h1785 : XH), (h1785 = adE H 59 60) → (xI ((h1785 59 1) - 1)) ∧ xq X d 215 Q 154 [(0, (2, 58)), (1, (0, v1)), (4, (0, (h1785 59 1) - 1)), (5, (0, 0))] [] h1785)) ∧ (¬ (H 59 1 < 1) → (xI ((H 59 1) - 1)) ∧ xq X d 215 Q 154 [(0, (2, 58)), (1, (0, v1)), (4, (0, (H 59 1) - 1)), (5, (0, 0))] [] H)) ∧ (¬ (8 ≤ H 59 1) → (xc X d 211 [(2, 58), (0, 2), (0, 0)] H (fun (J1787 : Int) (h1786 : XH) => ((J1787 = 0) → ((h1786 59 1 < 1) → (0 ≤ h1786 59 1 ∧ h1786 59 1 ≤ 7) ∧ (∀ (h1788 : XH), (h1788 = adE h1786 59 60) → (xI ((h1788 59 1) - 1)) ∧ xq X d 215 Q 154 [(0, (2, 58)), (1, (0, v1)), (4, (0, (h1788 59 1) - 1)), (5, (0, 0))] [] h1788)) ∧ (¬ (h1786 59 1 < 1) → (xI ((h1786 59 1) - 1)) ∧ xq X d 215 Q 154 [(0, (2, 58)), (1, (0, v1)), (4, (0, (h1786 59 1) - 1)), (5, (0, 0))] [] h1786)) ∧ (¬ (J1787 = 0) → ((h1786 59 1 < 1) → (0 ≤ h1786 59 1 ∧ h1786 59 1 ≤ 7) ∧ (∀ (h1789 : XH), (h1789 = adE h1786 59 60) → (xI ((h1789 59 1) - 1)) ∧ xq X d 215 Q 154 [(0, (2, 58)), (1, (0, v1)), (4, (0, (h1789 59 1) - 1)), (5, (0, 0))] [] h1789)) ∧ (¬ (h1786 59 1 < 1) → (0 ≤ h1786 59 1 ∧ h1786 59 1 ≤ 7) ∧ (∀ (h1790 : XH), (h1790 = adE h1786 59 60) → (xI ((h1790 59 1) - 1)) ∧ xq X d 215 Q 154 [(0, (2, 58)), (1, (0, v1)), (4, (0, (h1790 59 1) - 1)), (5, (0, 0))] [] h1790))))))) ∧ (¬ (1 ≤ v2) → Q 0 H)) ∧ (¬ (5 ≤ v3) → (xc X d 214 [(2, 58), (0, v1), (0, v3)] H (fun (J1792 : Int) (h1791 : XH) => (xI (v2 + J1792)) ∧ (xI (v3 + 1)) ∧ xq X d 215 Q 65 [(0, (2, 58)), (1, (0, v1)), (2, (0, v2 + J1792)), (3, (0, v3 + 1))] [] h1791)))) : xq X d 215 Q 65 [(0, (2, 58)), (1, (0, v1)), (2, (0, v2)), (3, (0, v3))] [] H := by
  show xq X d 215 Q 65 [(0, (2, 58)), (1, (0, v1)), (2, (0, v2)), (3, (0, v3))] [] H
  refine xq_run [4, 14, 20, 23, 27, 33, 43, 47, 54, 60, 65, 77, 109, 140, 154, 171, 178, 197, 200] 300 ?_
  show ((5 ≤ v3) → ((1 ≤ v2) → ((8 ≤ H 59 1) → ((H 59 1 < 1) → xWM (xE X) xMC d 51 [(2, 59)] xKZ H _) ∧ (¬ (H 59 1 < 1) → ((0 = 0) → xq X d 215 Q 140 [(3, (0, 0)), (0, (2, 58)), (1, (0, v1)), (2, (0, v2))] [] H) ∧ (¬ (0 = 0) → _))) ∧ (¬ (8 ≤ H 59 1) → xWM (xE X) xMC d 211 [(2, 58), (0, 2), (0, 0)] xKZ H _)) ∧ (¬ (1 ≤ v2) → xfR 2 0 ∧ xKZ = xKZ ∧ Q 0 H)) ∧ (¬ (5 ≤ v3) → xWM (xE X) xMC d 214 [(2, 58), (0, v1), (0, v3)] xKZ H _)
  refine ⟨fun k_ => ?_, fun k_ => ?_⟩
  · replace h := h.1 k_
    refine ⟨fun k_ => ?_, fun k_ => ?_⟩
    · replace h := h.1 k_
      refine ⟨fun k_ => ?_, fun k_ => ?_⟩
      · replace h := h.1 k_
        refine ⟨fun k_ => ?_, fun k_ => ?_⟩
        · replace h := h.1 k_
          refine xc_in (s_51_o59 (by omega) H (h.1) ?_)
          intro h1785 q_0
          replace h := h.2 h1785 q_0
          show xq X d 215 Q 140 [(3, (0, 0)), (0, (2, 58)), (1, (0, v1)), (2, (0, v2))] [] h1785
          refine xq_run [4, 14, 20, 23, 27, 33, 43, 47, 54, 60, 65, 77, 109, 140, 154, 171, 178, 197, 200] 300 ?_
          show (xI ((h1785 59 1) - 1)) ∧ xq X d 215 Q 154 [(0, (2, 58)), (1, (0, v1)), (4, (0, (h1785 59 1) - 1)), (5, (0, 0))] [] h1785
          refine ⟨h.1, ?_⟩
          replace h := h.2
          exact h
        · replace h := h.2 k_
          refine ⟨fun k_ => ?_, fun k_ => absurd (by decide) k_⟩
          show xq X d 215 Q 140 [(3, (0, 0)), (0, (2, 58)), (1, (0, v1)), (2, (0, v2))] [] H
          refine xq_run [4, 14, 20, 23, 27, 33, 43, 47, 54, 60, 65, 77, 109, 140, 154, 171, 178, 197, 200] 300 ?_
          show (xI ((H 59 1) - 1)) ∧ xq X d 215 Q 154 [(0, (2, 58)), (1, (0, v1)), (4, (0, (H 59 1) - 1)), (5, (0, 0))] [] H
          refine ⟨h.1, ?_⟩
          replace h := h.2
          exact h
      · replace h := h.2 k_
        refine xc_in (xc_mono (fun J1787 h1786 q_ => ?_) h)
        replace h := q_
        show xq X d 215 Q 109 [(0, (2, 58)), (1, (0, v1)), (2, (0, v2)), (3, (0, v3))] [(0, J1787)] h1786
        refine xq_run [4, 14, 20, 23, 27, 33, 43, 47, 54, 60, 65, 77, 109, 140, 154, 171, 178, 197, 200] 300 ?_
        show ((J1787 = 0) → ((h1786 59 1 < 1) → xWM (xE X) xMC d 51 [(2, 59)] xKZ h1786 _) ∧ (¬ (h1786 59 1 < 1) → ((0 = 0) → xq X d 215 Q 140 [(3, (0, 0)), (0, (2, 58)), (1, (0, v1)), (2, (0, v2))] [] h1786) ∧ (¬ (0 = 0) → _))) ∧ (¬ (J1787 = 0) → ((h1786 59 1 < 1) → xWM (xE X) xMC d 51 [(2, 59)] xKZ h1786 _) ∧ (¬ (h1786 59 1 < 1) → ((1 = 0) → _) ∧ (¬ (1 = 0) → xWM (xE X) xMC d 51 [(2, 59)] xKZ h1786 _)))
        refine ⟨fun k_ => ?_, fun k_ => ?_⟩
        · replace h := h.1 k_
          refine ⟨fun k_ => ?_, fun k_ => ?_⟩
          · replace h := h.1 k_
            refine xc_in (s_51_o59 (by omega) h1786 (h.1) ?_)
            intro h1788 q_0
            replace h := h.2 h1788 q_0
            show xq X d 215 Q 140 [(3, (0, 0)), (0, (2, 58)), (1, (0, v1)), (2, (0, v2))] [] h1788
            refine xq_run [4, 14, 20, 23, 27, 33, 43, 47, 54, 60, 65, 77, 109, 140, 154, 171, 178, 197, 200] 300 ?_
            show (xI ((h1788 59 1) - 1)) ∧ xq X d 215 Q 154 [(0, (2, 58)), (1, (0, v1)), (4, (0, (h1788 59 1) - 1)), (5, (0, 0))] [] h1788
            refine ⟨h.1, ?_⟩
            replace h := h.2
            exact h
          · replace h := h.2 k_
            refine ⟨fun k_ => ?_, fun k_ => absurd (by decide) k_⟩
            show xq X d 215 Q 140 [(3, (0, 0)), (0, (2, 58)), (1, (0, v1)), (2, (0, v2))] [] h1786
            refine xq_run [4, 14, 20, 23, 27, 33, 43, 47, 54, 60, 65, 77, 109, 140, 154, 171, 178, 197, 200] 300 ?_
            show (xI ((h1786 59 1) - 1)) ∧ xq X d 215 Q 154 [(0, (2, 58)), (1, (0, v1)), (4, (0, (h1786 59 1) - 1)), (5, (0, 0))] [] h1786
            refine ⟨h.1, ?_⟩
            replace h := h.2
            exact h
        · replace h := h.2 k_
          refine ⟨fun k_ => ?_, fun k_ => ?_⟩
          · replace h := h.1 k_
            refine xc_in (s_51_o59 (by omega) h1786 (h.1) ?_)
            intro h1789 q_0
            replace h := h.2 h1789 q_0
            show xq X d 215 Q 140 [(3, (0, 1)), (0, (2, 58)), (1, (0, v1)), (2, (0, v2))] [] h1789
            refine xq_run [4, 14, 20, 23, 27, 33, 43, 47, 54, 60, 65, 77, 109, 140, 154, 171, 178, 197, 200] 300 ?_
            show (xI ((h1789 59 1) - 1)) ∧ xq X d 215 Q 154 [(0, (2, 58)), (1, (0, v1)), (4, (0, (h1789 59 1) - 1)), (5, (0, 0))] [] h1789
            refine ⟨h.1, ?_⟩
            replace h := h.2
            exact h
          · replace h := h.2 k_
            refine ⟨fun k_ => absurd k_ (by decide), fun k_ => ?_⟩
            refine xc_in (s_51_o59 (by omega) h1786 (h.1) ?_)
            intro h1790 q_0
            replace h := h.2 h1790 q_0
            show xq X d 215 Q 140 [(3, (0, 1)), (0, (2, 58)), (1, (0, v1)), (2, (0, v2))] [] h1790
            refine xq_run [4, 14, 20, 23, 27, 33, 43, 47, 54, 60, 65, 77, 109, 140, 154, 171, 178, 197, 200] 300 ?_
            show (xI ((h1790 59 1) - 1)) ∧ xq X d 215 Q 154 [(0, (2, 58)), (1, (0, v1)), (4, (0, (h1790 59 1) - 1)), (5, (0, 0))] [] h1790
            refine ⟨h.1, ?_⟩
            replace h := h.2
            exact h
    · replace h := h.2 k_
      exact ⟨trivial, rfl, h⟩
  · replace h := h.2 k_
    refine xc_in (xc_mono (fun J1792 h1791 q_ => ?_) h)
    replace h := q_
    show xq X d 215 Q 77 [(0, (2, 58)), (1, (0, v1)), (2, (0, v2)), (3, (0, v3))] [(0, J1792), (0, v2)] h1791
    refine xq_run [4, 14, 20, 23, 27, 33, 43, 47, 54, 60, 65, 77, 109, 140, 154, 171, 178, 197, 200] 300 ?_
    show (xI (v2 + J1792)) ∧ (xI (v3 + 1)) ∧ xq X d 215 Q 65 [(0, (2, 58)), (1, (0, v1)), (2, (0, v2 + J1792)), (3, (0, v3 + 1))] [] h1791
    refine ⟨h.1, ?_⟩
    replace h := h.2
    refine ⟨h.1, ?_⟩
    replace h := h.2
    exact h
theorem U_215_154 {X : Int × (Int → Int)} {d : Nat} {Q : Int → XH → Prop} (hd : 3 ≤ d) (v1 v4 v5 : Int) (H : XH) (h : ((5 ≤ v5) → Q 0 H) ∧ (¬ (5 ≤ v5) → (0 ≤ v4 ∧ v4 < H 59 1) ∧ (0 ≤ v5 ∧ v5 < 5) ∧ (H 59 1 ≤ 8) ∧ ((xc X d 214 [(2, 58), (0, v1), (0, v5)] H (fun (J1794 : Int) (h1793 : XH) => (xI ((H 60 (v4 * 5 + v5)) + J1794)) ∧ ((0 ≤ v4 ∧ v4 < h1793 59 1) ∧ ((0 : Int) ≤ v5 ∧ (v5 : Int) ≤ 4) ∧ (h1793 59 1 ≤ 8) ∧ (∀ (h1795 : XH), (h1795 = xup h1793 60 (v4 * 5 + v5) (min 999 ((H 60 (v4 * 5 + v5)) + J1794))) → (xI (v5 + 1)) ∧ xq X d 215 Q 154 [(0, (2, 58)), (1, (0, v1)), (4, (0, v4)), (5, (0, v5 + 1))] [] h1795))))))) : xq X d 215 Q 154 [(0, (2, 58)), (1, (0, v1)), (4, (0, v4)), (5, (0, v5))] [] H := by
  show xq X d 215 Q 154 [(0, (2, 58)), (1, (0, v1)), (4, (0, v4)), (5, (0, v5))] [] H
  refine xq_run [4, 14, 20, 23, 27, 33, 43, 47, 54, 60, 65, 77, 109, 140, 154, 171, 178, 197, 200] 300 ?_
  show ((5 ≤ v5) → xfR 2 0 ∧ xKZ = xKZ ∧ Q 0 H) ∧ (¬ (5 ≤ v5) → xWM (xE X) xMC d 80 [(2, 59), (0, v4), (0, v5)] xKZ H _)
  refine ⟨fun k_ => ?_, fun k_ => ?_⟩
  · replace h := h.1 k_
    exact ⟨trivial, rfl, h⟩
  · replace h := h.2 k_
    refine xc_in (s_80_o59 (by omega) v4 v5 H (h.1) (h.2.1) (h.2.2.1) ?_)
    replace h := h.2.2.2
    show xq X d 215 Q 171 [(0, (2, 58)), (1, (0, v1)), (4, (0, v4)), (5, (0, v5))] [(0, H 60 (v4 * 5 + v5))] H
    refine xq_run [4, 14, 20, 23, 27, 33, 43, 47, 54, 60, 65, 77, 109, 140, 154, 171, 178, 197, 200] 300 ?_
    show xWM (xE X) xMC d 214 [(2, 58), (0, v1), (0, v5)] xKZ H _
    refine xc_in (xc_mono (fun J1794 h1793 q_ => ?_) h)
    replace h := q_
    show xq X d 215 Q 178 [(0, (2, 58)), (1, (0, v1)), (4, (0, v4)), (5, (0, v5))] [(0, J1794), (0, H 60 (v4 * 5 + v5))] h1793
    refine xq_run [4, 14, 20, 23, 27, 33, 43, 47, 54, 60, 65, 77, 109, 140, 154, 171, 178, 197, 200] 300 ?_
    show (xI ((H 60 (v4 * 5 + v5)) + J1794)) ∧ xWM (xE X) xMC d 1 [(0, 999), (0, (H 60 (v4 * 5 + v5)) + J1794)] xKZ h1793 _
    refine ⟨h.1, ?_⟩
    replace h := h.2
    refine xc_in (s_1 (by omega) 999 ((H 60 (v4 * 5 + v5)) + J1794) h1793  ?_)
    replace h := h
    show xq X d 215 Q 197 [(6, (0, (H 60 (v4 * 5 + v5)) + J1794)), (0, (2, 58)), (1, (0, v1)), (4, (0, v4)), (5, (0, v5))] [(0, min 999 ((H 60 (v4 * 5 + v5)) + J1794)), (0, v5), (0, v4), (2, 59)] h1793
    refine xq_run [4, 14, 20, 23, 27, 33, 43, 47, 54, 60, 65, 77, 109, 140, 154, 171, 178, 197, 200] 300 ?_
    show xWM (xE X) xMC d 50 [(2, 59), (0, v4), (0, v5), (0, min 999 ((H 60 (v4 * 5 + v5)) + J1794))] xKZ h1793 _
    refine xc_in (s_50b_o59 (by omega) v4 v5 (min 999 ((H 60 (v4 * 5 + v5)) + J1794)) h1793 (h.1) (h.2.1) (h.2.2.1) ?_)
    intro h1795 q_0
    replace h := h.2.2.2 h1795 q_0
    show xq X d 215 Q 200 [(6, (0, (H 60 (v4 * 5 + v5)) + J1794)), (0, (2, 58)), (1, (0, v1)), (4, (0, v4)), (5, (0, v5))] [] h1795
    refine xq_run [4, 14, 20, 23, 27, 33, 43, 47, 54, 60, 65, 77, 109, 140, 154, 171, 178, 197, 200] 300 ?_
    show (xI (v5 + 1)) ∧ xq X d 215 Q 154 [(0, (2, 58)), (1, (0, v1)), (4, (0, v4)), (5, (0, v5 + 1))] [] h1795
    refine ⟨h.1, ?_⟩
    replace h := h.2
    exact h

def wdW (G : Int → Int) (T a b c : Int) : Int → (Int → Int) → Int → Int := fun n f => wdV n f G T a b c
theorem t_215_154 {X : Int × (Int → Int)} {d : Nat} {Q : Int → XH → Prop} {lo : Option (List (Int × List Int))} {n : Int} {f G : Int → Int} {T a b c : Int} {h : XH} (hd : 4 ≤ d) (t : Int) (ht : 0 ≤ t ∧ t ≤ 99) (K : wCo lo n f G T a b c h) (g : gdI G T a b c) (hn : 1 ≤ n ∧ n ≤ 8) (hr : rgF n f) (hQ : ∀ h1, wF h h1 → wCo lo n (ptF t G T n f) G T a b c h1 → Q 0 h1) : xq X d 215 Q 154 [(0, (2, 58)), (1, (0, t)), (4, (0, n - 1)), (5, (0, 0))] [] h := by
  obtain ⟨k6, kl, kT, kG, ⟨kn, kf⟩, ka, kb, kc⟩ := K
  have key : ∀ (r : Nat) (s : Int) (h' : XH), s + (r : Int) = 5 → 0 ≤ s → (∀ o, ¬ o = 60 → h' o = h o) → (∀ k, 0 ≤ k → k < 5 * n → h' 60 k = if 5 * (n - 1) ≤ k ∧ k < 5 * (n - 1) + s then min 999 (f k + grV t G T (k - 5 * (n - 1))) else f k) → xq X d 215 Q 154 [(0, (2, 58)), (1, (0, t)), (4, (0, n - 1)), (5, (0, s))] [] h' := by
    intro r
    induction r with
    | zero =>
      intro s h' es h0 fo fk
      have es' : s = 5 := by omega
      subst es'
      have z := hQ h' (fun o q => fo o (by omega)) ⟨by rw [fo 58 (by decide)]; exact k6, lwC_fr (fo 53 (by decide)) (fo 54 (by decide)) (congrFun (fo 58 (by decide)) 7) kl, by rw [fo 58 (by decide)]; exact kT, by rw [fo 61 (by decide)]; exact kG, ⟨by rw [fo 59 (by decide)]; exact kn, fun k p q => by
        rw [fk k p q]
        unfold ptF
        by_cases y : 5 * (n - 1) ≤ k ∧ k < 5 * (n - 1) + 5
        · rw [if_pos y, if_pos (by omega)]
        · rw [if_neg y, if_neg (by omega)]⟩, by rw [fo 62 (by decide)]; exact ka, by rw [fo 62 (by decide)]; exact kb, by rw [fo 62 (by decide)]; exact kc⟩
      have e1 : h' 59 1 = n := by rw [fo 59 (by decide)]; exact kn
      refine U_215_154 (by omega) t (n - 1) 5 h' ?_
      rw [e1]
      refine ⟨fun c1 => ?_, fun c1 => ?_⟩
      · skip
        exact z
      · skip
        refine ⟨?_, ?_⟩
        · first | omega | (unfold xI; omega) | (unfold xJ; omega) | (exfalso; omega)
        refine ⟨?_, ?_⟩
        · first | omega | (unfold xI; omega) | (unfold xJ; omega) | (exfalso; omega)
        refine ⟨?_, ?_⟩
        · first | omega | (unfold xI; omega) | (unfold xJ; omega) | (exfalso; omega)
        exfalso
        omega
    | succ r ih =>
      intro s h' es h0 fo fk
      have e1 : h' 59 1 = n := by rw [fo 59 (by decide)]; exact kn
      have K' : wCo lo n (h' 60) G T a b c h' := ⟨by rw [fo 58 (by decide)]; exact k6, lwC_fr (fo 53 (by decide)) (fo 54 (by decide)) (congrFun (fo 58 (by decide)) 7) kl, by rw [fo 58 (by decide)]; exact kT, by rw [fo 61 (by decide)]; exact kG, ⟨e1, fun _ _ _ => rfl⟩, by rw [fo 62 (by decide)]; exact ka, by rw [fo 62 (by decide)]; exact kb, by rw [fo 62 (by decide)]; exact kc⟩
      have e60 : h' 60 ((n - 1) * 5 + s) = f ((n - 1) * 5 + s) := by
        rw [fk _ (by omega) (by omega), if_neg (by omega)]
      have fr := hr ((n - 1) * 5 + s) (by omega) (by omega)
      have z := ih (s + 1) (xup h' 60 ((n - 1) * 5 + s) (min 999 (f ((n - 1) * 5 + s) + grV t G T s))) (by omega) (by omega) (fun o y => by rw [xup_ne y]; exact fo o y) (fun k p y => by
        by_cases e : k = (n - 1) * 5 + s
        · rw [e, xup_self, if_pos (by omega), show (n - 1) * 5 + s - 5 * (n - 1) = s by omega]
        · rw [xup_k e, fk k p y]
          by_cases y2 : 5 * (n - 1) ≤ k ∧ k < 5 * (n - 1) + s
          · rw [if_pos y2, if_pos (by omega)]
          · rw [if_neg y2, if_neg (by omega)])
      refine U_215_154 (by omega) t (n - 1) s h' ?_
      rw [e1, e60]
      refine ⟨fun c1 => ?_, fun c1 => ?_⟩
      · skip
        exfalso
        omega
      · skip
        refine ⟨?_, ?_⟩
        · first | omega | (rw [e1]; omega) | (unfold xI; omega) | (exfalso; omega)
        refine ⟨?_, ?_⟩
        · first | omega | (rw [e1]; omega) | (unfold xI; omega) | (exfalso; omega)
        refine ⟨?_, ?_⟩
        · first | omega | (rw [e1]; omega) | (unfold xI; omega) | (exfalso; omega)
        refine s_214w (by omega) t s K' g ht ⟨h0, by omega⟩ (fun J1856 ej gj => ?_)
        subst ej
        refine ⟨?_, ?_⟩
        · first | omega | (rw [e1]; omega) | (unfold xI; omega) | (exfalso; omega)
        refine ⟨?_, ?_⟩
        · first | omega | (rw [e1]; omega) | (unfold xI; omega) | (exfalso; omega)
        refine ⟨?_, ?_⟩
        · first | omega | (rw [e1]; omega) | (unfold xI; omega) | (exfalso; omega)
        refine ⟨?_, ?_⟩
        · first | omega | (rw [e1]; omega) | (unfold xI; omega) | (exfalso; omega)
        intro h1857 c2
        subst c2
        refine ⟨?_, ?_⟩
        · first | omega | (rw [e1]; omega) | (unfold xI; omega) | (exfalso; omega)
        exact z
  exact key 5 0 h (by decide) (by decide) (fun _ _ => rfl) (fun k p q => by rw [if_neg (by omega)]; exact kf k p q)

theorem adE_w {lo : Option (List (Int × List Int))} {n : Int} {f G : Int → Int} {T a b c : Int} {h : XH} (K : wCo lo n f G T a b c h) (I : 0 ≤ n ∧ n ≤ 7) : wCo lo (n + 1) (zrF f n) G T a b c (adE h 59 60) := by
  obtain ⟨k6, kl, kT, kG, ⟨kn, kf⟩, ka, kb, kc⟩ := K
  have o' : ∀ o, ¬ o = 59 → ¬ o = 60 → adE h 59 60 o = h o := fun o p q => by
    unfold adE
    rw [xset_o q, xup_ne p]
  refine ⟨by rw [o' 58 (by decide) (by decide)]; exact k6, lwC_fr (o' 53 (by decide) (by decide)) (o' 54 (by decide) (by decide)) (congrFun (o' 58 (by decide) (by decide)) 7) kl, by rw [o' 58 (by decide) (by decide)]; exact kT, by rw [o' 61 (by decide) (by decide)]; exact kG, ⟨?_, fun k p q => ?_⟩, by rw [o' 62 (by decide) (by decide)]; exact ka, by rw [o' 62 (by decide) (by decide)]; exact kb, by rw [o' 62 (by decide) (by decide)]; exact kc⟩
  · unfold adE
    rw [xset_o (by decide), xup_self, kn]
  · unfold adE zrF
    rw [xset_at, kn]
    by_cases y : 5 * n ≤ k ∧ k < 5 * n + 5
    · rw [if_pos y, if_pos (by omega)]
    · rw [if_neg y, if_neg (by omega)]
      exact kf k p (by omega)
theorem adE_F {h : XH} : wF h (adE h 59 60) := fun o q => by
  unfold adE
  rw [xset_o (by omega), xup_ne (by omega)]

theorem t_215_65 {X : Int × (Int → Int)} {d : Nat} {Q : Int → XH → Prop} {lo : Option (List (Int × List Int))} {n : Int} {f G : Int → Int} {T a b c : Int} {h : XH} (hd : 9 ≤ d) (t : Int) (K : wCo lo n f G T a b c h) (g : gdI G T a b c) (I : wkI n f) (V : ∀ i, 0 ≤ i → i ≤ 10 → h 62 i = wdW G T a b c n f i) (et : t = tkV lo (wdW G T a b c) n f) (hQ : ∀ h1, wF h h1 → wCo lo (wqC lo (wdW G T a b c) G T n f).1 (wqC lo (wdW G T a b c) G T n f).2 G T a b c h1 → Q 0 h1) : xq X d 215 Q 65 [(0, (2, 58)), (1, (0, t)), (2, (0, 0)), (3, (0, 0))] [] h := by
  have K0 := K
  obtain ⟨k6, kl, kT, kG, ⟨kn, kf⟩, ka, kb, kc⟩ := K
  have I1 := I.1
  have ht : 0 ≤ t ∧ t ≤ 99 := by
    rw [et]
    unfold tkV
    omega
  have hw := wdV_rng I.1 I.2.1 g
  unfold wqC at hQ
  rw [← et] at hQ
  have c0 : sum5 (grV t G T) 0 < 1 → Q 0 h := fun q => by
    rw [if_pos q] at hQ
    exact hQ h (wF_refl h) K0
  have cN : ¬ sum5 (grV t G T) 0 < 1 → (n < 1 ∨ (n < 8 ∧ ¬ tlV lo (wdW G T a b c n f) 2 0 = 0)) → ∀ h1, wF h h1 → wCo lo n f G T a b c h1 → xq X d 215 Q 154 [(0, (2, 58)), (1, (0, t)), (4, (0, adE h1 59 60 59 1 - 1)), (5, (0, 0))] [] (adE h1 59 60) := fun q q2 h1 F1 K1 => by
    rw [if_neg q, if_pos q2] at hQ
    have K2 := adE_w K1 (by omega)
    rw [K2.2.2.2.2.1.1]
    refine t_215_154 (by omega) t ht K2 g (by omega) (fun k p y => ?_) (fun h2 F2 K3 => hQ h2 (wF_trans (wF_trans F1 adE_F) F2) K3)
    unfold zrF
    split
    · omega
    · exact I.2.1 k p (by omega)
  have cO : ¬ sum5 (grV t G T) 0 < 1 → ¬ (n < 1 ∨ (n < 8 ∧ ¬ tlV lo (wdW G T a b c n f) 2 0 = 0)) → ∀ h1, wF h h1 → wCo lo n f G T a b c h1 → xq X d 215 Q 154 [(0, (2, 58)), (1, (0, t)), (4, (0, h1 59 1 - 1)), (5, (0, 0))] [] h1 := fun q q2 h1 F1 K1 => by
    rw [if_neg q, if_neg q2] at hQ
    rw [K1.2.2.2.2.1.1]
    exact t_215_154 (by omega) t ht K1 g (by omega) I.2.1 (fun h2 F2 K3 => hQ h2 (wF_trans F1 F2) K3)
  have gs := fun s (p : 0 ≤ s ∧ s < 5) => (gr_1 (x := t) g p ⟨ht.1, by omega⟩).2
  have st : ∀ s v, 0 ≤ s → s < 5 → (0 ≤ v ∧ v ≤ 3000000) → xq X d 215 Q 65 [(0, (2, 58)), (1, (0, t)), (2, (0, v + grV t G T s)), (3, (0, s + 1))] [] h → xq X d 215 Q 65 [(0, (2, 58)), (1, (0, t)), (2, (0, v)), (3, (0, s))] [] h := fun s v s0 s5 hv hk => by
    refine U_215_65 (by omega) t v s h ?_
    refine ⟨fun c1 => ?_, fun c1 => ?_⟩
    · skip
      refine ⟨fun c2 => ?_, fun c2 => ?_⟩
      · skip
        refine ⟨fun c3 => ?_, fun c3 => ?_⟩
        · skip
          refine ⟨fun c4 => ?_, fun c4 => ?_⟩
          · skip
            refine ⟨?_, ?_⟩
            · first | omega | (unfold xI; omega) | (unfold xJ; omega) | (exfalso; omega)
            intro h1878 c5
            refine ⟨?_, ?_⟩
            · first | omega | (unfold xI; omega) | (unfold xJ; omega) | (exfalso; omega)
            exfalso
            omega
          · skip
            refine ⟨?_, ?_⟩
            · first | omega | (unfold xI; omega) | (unfold xJ; omega) | (exfalso; omega)
            exfalso
            omega
        · skip
          exfalso
          omega
      · skip
        exfalso
        omega
    · skip
      refine s_214w (by omega) t s K0 g ht ⟨s0, by omega⟩ (fun J1885 ej gj => ?_)
      subst ej
      refine ⟨?_, ?_⟩
      · first | omega | (unfold xI; omega) | (unfold xJ; omega) | (exfalso; omega)
      refine ⟨?_, ?_⟩
      · first | omega | (unfold xI; omega) | (unfold xJ; omega) | (exfalso; omega)
      exact hk
  have b0 : 0 ≤ grV t G T 0 ∧ grV t G T 0 ≤ 576000 := gs 0 (by omega)
  have b1 : 0 ≤ grV t G T 1 ∧ grV t G T 1 ≤ 576000 := gs 1 (by omega)
  have b2 : 0 ≤ grV t G T 2 ∧ grV t G T 2 ≤ 576000 := gs 2 (by omega)
  have b3 : 0 ≤ grV t G T 3 ∧ grV t G T 3 ≤ 576000 := gs 3 (by omega)
  have b4 : 0 ≤ grV t G T 4 ∧ grV t G T 4 ≤ 576000 := gs 4 (by omega)
  refine st 0 0 (by decide) (by decide) (by omega) ?_
  refine st 1 (0 + grV t G T 0) (by decide) (by decide) (by omega) ?_
  refine st 2 (0 + grV t G T 0 + grV t G T 1) (by decide) (by decide) (by omega) ?_
  refine st 3 (0 + grV t G T 0 + grV t G T 1 + grV t G T 2) (by decide) (by decide) (by omega) ?_
  refine st 4 (0 + grV t G T 0 + grV t G T 1 + grV t G T 2 + grV t G T 3) (by decide) (by decide) (by omega) ?_
  rw [show 0 + grV t G T 0 + grV t G T 1 + grV t G T 2 + grV t G T 3 + grV t G T 4 = sum5 (grV t G T) 0 by (rw [Int.zero_add]; rfl)]
  refine U_215_65 (by omega) t _ 5 h ?_
  refine ⟨fun c1 => ?_, fun c1 => ?_⟩
  · skip
    refine ⟨fun c2 => ?_, fun c2 => ?_⟩
    · skip
      refine ⟨fun c3 => ?_, fun c3 => ?_⟩
      · skip
        refine ⟨fun c4 => ?_, fun c4 => ?_⟩
        · skip
          refine ⟨?_, ?_⟩
          · first | omega | (have := K2.2.2.2.2.1.1; omega) | (unfold xI; omega) | (rw [(adE_w K2 (by omega)).2.2.2.2.1.1]; unfold xI; omega) | (rw [(adE_w K0 (by omega)).2.2.2.2.1.1]; unfold xI; omega) | (exfalso; omega)
          intro h1906 c5
          subst c5
          refine ⟨?_, ?_⟩
          · first | omega | (have := K2.2.2.2.2.1.1; omega) | (unfold xI; omega) | (rw [(adE_w K2 (by omega)).2.2.2.2.1.1]; unfold xI; omega) | (rw [(adE_w K0 (by omega)).2.2.2.2.1.1]; unfold xI; omega) | (exfalso; omega)
          first | (exfalso; omega) | exact c0 (by omega) | exact cN (by omega) (by omega) _ F2 K2 | exact cO (by omega) (by omega) _ F2 K2 | exact cN (by omega) (by omega) _ (wF_refl h) K0 | exact cO (by omega) (by omega) _ (wF_refl h) K0
        · skip
          refine ⟨?_, ?_⟩
          · first | omega | (have := K2.2.2.2.2.1.1; omega) | (unfold xI; omega) | (rw [(adE_w K2 (by omega)).2.2.2.2.1.1]; unfold xI; omega) | (rw [(adE_w K0 (by omega)).2.2.2.2.1.1]; unfold xI; omega) | (exfalso; omega)
          first | (exfalso; omega) | exact c0 (by omega) | exact cN (by omega) (by omega) _ F2 K2 | exact cO (by omega) (by omega) _ F2 K2 | exact cN (by omega) (by omega) _ (wF_refl h) K0 | exact cO (by omega) (by omega) _ (wF_refl h) K0
      · skip
        refine s_211w (by omega) 2 0 K0 V hw (by decide) (fun J1908 h1907 ej F2 K2 V2 => ?_)
        have e1_h1907 := K2.2.2.2.2.1.1
        refine ⟨fun c6 => ?_, fun c6 => ?_⟩
        · skip
          refine ⟨fun c7 => ?_, fun c7 => ?_⟩
          · skip
            refine ⟨?_, ?_⟩
            · first | omega | (have := K2.2.2.2.2.1.1; omega) | (unfold xI; omega) | (rw [(adE_w K2 (by omega)).2.2.2.2.1.1]; unfold xI; omega) | (rw [(adE_w K0 (by omega)).2.2.2.2.1.1]; unfold xI; omega) | (exfalso; omega)
            intro h1909 c8
            subst c8
            refine ⟨?_, ?_⟩
            · first | omega | (have := K2.2.2.2.2.1.1; omega) | (unfold xI; omega) | (rw [(adE_w K2 (by omega)).2.2.2.2.1.1]; unfold xI; omega) | (rw [(adE_w K0 (by omega)).2.2.2.2.1.1]; unfold xI; omega) | (exfalso; omega)
            first | (exfalso; omega) | exact c0 (by omega) | exact cN (by omega) (by omega) _ F2 K2 | exact cO (by omega) (by omega) _ F2 K2 | exact cN (by omega) (by omega) _ (wF_refl h) K0 | exact cO (by omega) (by omega) _ (wF_refl h) K0
          · skip
            refine ⟨?_, ?_⟩
            · first | omega | (have := K2.2.2.2.2.1.1; omega) | (unfold xI; omega) | (rw [(adE_w K2 (by omega)).2.2.2.2.1.1]; unfold xI; omega) | (rw [(adE_w K0 (by omega)).2.2.2.2.1.1]; unfold xI; omega) | (exfalso; omega)
            first | (exfalso; omega) | exact c0 (by omega) | exact cN (by omega) (by omega) _ F2 K2 | exact cO (by omega) (by omega) _ F2 K2 | exact cN (by omega) (by omega) _ (wF_refl h) K0 | exact cO (by omega) (by omega) _ (wF_refl h) K0
        · skip
          refine ⟨fun c9 => ?_, fun c9 => ?_⟩
          · skip
            refine ⟨?_, ?_⟩
            · first | omega | (have := K2.2.2.2.2.1.1; omega) | (unfold xI; omega) | (rw [(adE_w K2 (by omega)).2.2.2.2.1.1]; unfold xI; omega) | (rw [(adE_w K0 (by omega)).2.2.2.2.1.1]; unfold xI; omega) | (exfalso; omega)
            intro h1910 c10
            subst c10
            refine ⟨?_, ?_⟩
            · first | omega | (have := K2.2.2.2.2.1.1; omega) | (unfold xI; omega) | (rw [(adE_w K2 (by omega)).2.2.2.2.1.1]; unfold xI; omega) | (rw [(adE_w K0 (by omega)).2.2.2.2.1.1]; unfold xI; omega) | (exfalso; omega)
            first | (exfalso; omega) | exact c0 (by omega) | exact cN (by omega) (by omega) _ F2 K2 | exact cO (by omega) (by omega) _ F2 K2 | exact cN (by omega) (by omega) _ (wF_refl h) K0 | exact cO (by omega) (by omega) _ (wF_refl h) K0
          · skip
            refine ⟨?_, ?_⟩
            · first | omega | (have := K2.2.2.2.2.1.1; omega) | (unfold xI; omega) | (rw [(adE_w K2 (by omega)).2.2.2.2.1.1]; unfold xI; omega) | (rw [(adE_w K0 (by omega)).2.2.2.2.1.1]; unfold xI; omega) | (exfalso; omega)
            intro h1911 c11
            subst c11
            refine ⟨?_, ?_⟩
            · first | omega | (have := K2.2.2.2.2.1.1; omega) | (unfold xI; omega) | (rw [(adE_w K2 (by omega)).2.2.2.2.1.1]; unfold xI; omega) | (rw [(adE_w K0 (by omega)).2.2.2.2.1.1]; unfold xI; omega) | (exfalso; omega)
            first | (exfalso; omega) | exact c0 (by omega) | exact cN (by omega) (by omega) _ F2 K2 | exact cO (by omega) (by omega) _ F2 K2 | exact cN (by omega) (by omega) _ (wF_refl h) K0 | exact cO (by omega) (by omega) _ (wF_refl h) K0
    · skip
      first | (exfalso; omega) | exact c0 (by omega) | exact cN (by omega) (by omega) _ F2 K2 | exact cO (by omega) (by omega) _ F2 K2 | exact cN (by omega) (by omega) _ (wF_refl h) K0 | exact cO (by omega) (by omega) _ (wF_refl h) K0
  · skip
    exfalso
    omega

theorem s_215w {X : Int × (Int → Int)} {d : Nat} {Q : Int → XH → Prop} {lo : Option (List (Int × List Int))} {n : Int} {f G : Int → Int} {T a b c : Int} {h : XH} (hd : 10 ≤ d) (K : wCo lo n f G T a b c h) (I : wkI n f) (g : gdI G T a b c) (hQ : ∀ h1, wF h h1 → wCo lo (wqW lo (wdW G T a b c) G T n f).1 (wqW lo (wdW G T a b c) G T n f).2 G T a b c h1 → Q 0 h1) : xc X d 215 [(2, 58)] h Q := by
  cases d with
  | zero => omega
  | succ d =>
  unfold wqW at hQ
  have IA := wqA_ok (lo := lo) (W := wdW G T a b c) I
  generalize eA : wqA lo (wdW G T a b c) n f = A at hQ IA
  have IB := wqB_ok (lo := lo) (W := wdW G T a b c) IA
  have tail : ∀ h', wF h h' → wCo lo (wqB lo (wdW G T a b c) A.1 A.2) A.2 G T a b c h' → xc X d 205 [(2, 58)] h' (fun _ h1 => xc X d 211 [(2, 58), (0, 0), (0, 10)] h1 (fun J2 h2 => xq X d 215 Q 65 [(0, (2, 58)), (1, (0, max 0 (min 99 J2))), (2, (0, 0)), (3, (0, 0))] [] h2)) := fun h' F' K' => by
    refine s_205w (by omega) K' ⟨IB.1, IB.2.1⟩ g (fun h1 F1 K1 V1 => ?_)
    refine s_211w (by omega) (w := wdW G T a b c (wqB lo (wdW G T a b c) A.1 A.2) A.2) 0 10 K1 V1 (wdV_rng IB.1 IB.2.1 g) (by decide) (fun y h2 ey F2 K2 V2 => ?_)
    exact t_215_65 (by omega) _ K2 g IB V2 (by rw [ey]; rfl) (fun h3 F3 K3 => hQ h3 (wF_trans F' (wF_trans F1 (wF_trans F2 F3))) K3)
  refine U_215 (by omega) h ?_
  refine s_205w (by omega) K ⟨I.1, I.2.1⟩ g (fun h1 F1 K1 V1 => ?_)
  refine s_211w (by omega) (w := wdW G T a b c n f) 1 0 K1 V1 (wdV_rng I.1 I.2.1 g) (by decide) (fun y1 h2 e1 F2 K2 V2 => ?_)
  refine s_212w (by omega) _ ⟨by omega, by omega⟩ K2 ⟨I.1, I.2.1⟩ (fun h3 F3 K3' => ?_)
  have K3 : wCo lo A.1 A.2 G T a b c h3 := by
    rw [← eA]
    unfold wqA
    rw [← e1]
    exact K3'
  refine s_205w (by omega) K3 ⟨IA.1, IA.2.1⟩ g (fun h4 F4 K4 V4 => ?_)
  refine s_211w (by omega) (w := wdW G T a b c A.1 A.2) 3 0 K4 V4 (wdV_rng IA.1 IA.2.1 g) (by decide) (fun J1923 h6 e6 F6 K6 V6 => ?_)
  have F6' := wF_trans F1 (wF_trans F2 (wF_trans F3 (wF_trans F4 F6)))
  have kB : ¬ J1923 = 0 → wqB lo (wdW G T a b c) A.1 A.2 = if 0 < A.1 then A.1 - 1 else A.1 := fun q => by
    unfold wqB
    rw [← e6]
    by_cases q2 : 0 < A.1
    · rw [if_pos ⟨q2, q⟩, if_pos q2]
    · rw [if_neg (fun z => q2 z.1), if_neg q2]
  have kN : J1923 = 0 → wqB lo (wdW G T a b c) A.1 A.2 = A.1 := fun q => by
    unfold wqB
    rw [← e6]
    exact if_neg (fun z => z.2 q)
  refine ⟨fun c1 => ?_, fun c1 => ?_⟩
  · skip
    exact tail _ F6' (by rw [kN (by assumption)]; exact K6)
  · skip
    refine s_213w (by omega) K6 IA.1 (fun h7 F7' K7' => ?_)
    have F7 := wF_trans F6' F7'
    have K7 : wCo lo (wqB lo (wdW G T a b c) A.1 A.2) A.2 G T a b c h7 := by
      rw [kB (by assumption)]
      exact K7'
    exact tail _ F7 K7
