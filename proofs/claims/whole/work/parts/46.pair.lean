/-! THE PURE LAYER 16: dig, the pair together -/
theorem p_dig {X : Int × (Int → Int)} {d : Nat} (hd : 4 ≤ d) (c a b e f g : Int) (H : XH) (hi : InvS H) : xc X d 22 [(2, 0), (0, c), (0, a), (0, b), (0, e), (0, f), (0, g)] H (fun r H1 => xc X d 25 [(2, 67), (0, c), (0, a), (0, b), (0, e), (0, f), (0, g)] H1 (pOk H r)) := by
  cases d with
  | zero => omega
  | succ d =>
  have hg := hi.1
  have hs := hi.2
  have nn := hg.nn
  have l2 := hs.l2
  have l7 := hs.l7
  have g0 := hg.g0
  have nn' : -2147483648 < H 67 1 ∧ H 67 1 ≤ 2147483647 := by omega
  have no : pOk H (-1) (-1) H := ⟨rfl, hi, frO_refl H⟩
  refine U_22 (by omega) c a b e f g H ⟨fun q => ⟨by decide, fun k => ⟨by omega, q, by omega, ?_⟩, fun k => ?_⟩, fun q => ?_⟩
  · have h68 : putD H c a b e f g 68 = H 68 := putD_o _ _ _ _ _ _ _ _ (by decide)
    have h67 : putD H c a b e f g 67 = H 67 := putD_o _ _ _ _ _ _ _ _ (by decide)
    have hc : 0 ≤ c ∧ c < H 67 1 := by omega
    have dg := hg.dgb c hc.1 (by omega)
    have i4 := hs.i c hc.1 (by omega)
    have hiv := dig_inv H hi c a b e f g hc k.1 k.2.1 k.2.2.1 k.2.2.2.1 k.2.2.2.2.1 k.2.2.2.2.2
    have yes : pOk H (putD H c a b e f g 2 7) (putM (putD H c a b e f g) c a b e f g 68 0) (putM (putD H c a b e f g) c a b e f g) := by
      refine ⟨?_, hiv, fun o p q => ?_, ?_, bF_same ?_ ?_⟩
      · rw [putM_0 _ _ _ _ _ _ _ hc.1, h68, putD_7]
        split <;> omega
      · rw [putM_o _ _ _ _ _ _ _ _ q, putD_o _ _ _ _ _ _ _ _ (by omega)]
      · rw [putM_no _ _ _ _ _ _ _ _ (by decide) (by omega) (by omega), h68]
      · rw [putM_o _ _ _ _ _ _ _ _ (by decide), putD_o _ _ _ _ _ _ _ _ (by omega)]
      · rw [putM_o _ _ _ _ _ _ _ _ (by decide), putD_o _ _ _ _ _ _ _ _ (by omega)]
    refine U_25 (by omega) c a b e f g (putD H c a b e f g) ⟨by rw [h67]; exact nn', fun _ => ⟨fun _ => ⟨fun _ => ⟨fun _ => ⟨fun _ => ⟨fun _ => ⟨by unfold xI; omega, by unfold xI; omega, by unfold xI; omega, by unfold xI; omega, fun _ => ⟨by unfold xI; omega, by omega, by rw [h68]; unfold xI; omega, by rw [h68]; unfold xI; omega, by unfold xI; omega, by omega, by unfold xI; omega, by unfold xI; omega, by omega, by unfold xI; omega, by unfold xI; omega, by unfold xI; omega, by omega, by unfold xI; omega, by unfold xI; omega, by unfold xI; omega, by omega, by unfold xI; omega, by unfold xI; omega, by unfold xI; omega, by omega, by unfold xI; omega, by unfold xI; omega, by unfold xI; omega, by omega, yes⟩, fun z => absurd (by omega) z⟩, fun z => absurd k.2.2.2.2.1 z⟩, fun z => absurd k.2.2.2.1 z⟩, fun z => absurd k.2.2.1 z⟩, fun z => absurd k.2.1 z⟩, fun z => absurd k.1 z⟩, fun z => absurd (by rw [h67]; exact hc) z⟩
  · refine U_25 (by omega) c a b e f g H ⟨nn', fun _ => ⟨fun z1 => ⟨fun z2 => ⟨fun z3 => ⟨fun z4 => ⟨fun z5 => ⟨by unfold xI; omega, by unfold xI; omega, by unfold xI; omega, by unfold xI; omega, fun z6 => absurd ⟨z1, z2, z3, z4, z5, by omega⟩ k, fun _ => no⟩, fun _ => no⟩, fun _ => no⟩, fun _ => no⟩, fun _ => no⟩, fun _ => no⟩, fun _ => no⟩
  · exact U_25 (by omega) c a b e f g H ⟨nn', fun z => absurd (by omega) q, fun _ => no⟩
