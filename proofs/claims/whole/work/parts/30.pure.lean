/-! THE PURE LAYER 0: the objects by number; xc: a call ends with Q; xq: from a point of a body it ends with Q -/
noncomputable def xK0 : List XK := [(0, 11, [1, 20, 39, 46, 51, 58, 64]),
  (0, 6, [2, 7, 9, 12, 15, (-1), (-1)]),
  (0, 0, [(-1), (-1), (-1), 3, 4, 5, 6, (-1)]),
  (1, 320, []),
  (4, 64, []),
  (1, 64, []),
  (4, 64, []),
  (0, 2, [8, (-1)]),
  (1, 40, []),
  (0, 5, [(-1), (-1), (-1), (-1), (-1), (-1), 10, 11]),
  (1, 5, []),
  (1, 5, []),
  (0, 7, [13, 14]),
  (1, 240, []),
  (1, 4, []),
  (0, 9, [16, 17, 18, 19, (-1)]),
  (1, 60, []),
  (1, 60, []),
  (4, 60, []),
  (4, 60, []),
  (0, 6, [21, 26, 28, 31, 34, (-1), (-1)]),
  (0, 0, [(-1), (-1), (-1), 22, 23, 24, 25, (-1)]),
  (1, 320, []),
  (4, 64, []),
  (1, 64, []),
  (4, 64, []),
  (0, 2, [27, (-1)]),
  (1, 40, []),
  (0, 5, [(-1), (-1), (-1), (-1), (-1), (-1), 29, 30]),
  (1, 5, []),
  (1, 5, []),
  (0, 7, [32, 33]),
  (1, 240, []),
  (1, 4, []),
  (0, 9, [35, 36, 37, 38, (-1)]),
  (1, 60, []),
  (1, 60, []),
  (4, 60, []),
  (4, 60, []),
  (0, 8, [40, 41, 42, 43, 44, 45, (-1), (-1), (-1), (-1), (-1)]),
  (1, 320, []),
  (1, 64, []),
  (1, 512, []),
  (1, 64, []),
  (1, 4, []),
  (1, 8, []),
  (0, 4, [47, 48, 49, 50, (-1)]),
  (1, 4096, []),
  (1, 64, []),
  (1, 512, []),
  (1, 8, []),
  (0, 1, [52, 53, 54, (-1), (-1), (-1), (-1), 55, 56, 57, (-1), (-1), (-1), (-1), (-1), (-1)]),
  (5, 300, []),
  (1, 1200, []),
  (1, 4, []),
  (1, 301, []),
  (1, 301, []),
  (1, 301, []),
  (0, 10, [59, 61, (-1), 62, 63, (-1), (-1), (-1)]),
  (0, 2, [60, (-1)]),
  (1, 40, []),
  (1, 5, []),
  (1, 11, []),
  (1, 64, []),
  (0, 3, [65, 66, (-1), (-1), (-1)]),
  (1, 8, []),
  (1, 81, []),
  (0, 12, [(-1), (-1), 68, 69, 70, (-1), (-1), (-1), 71, 72, 73, 74, 75, 76, (-1), 77, 78, 79, 80, 81, 82, 83, 84, 85, (-1), (-1), (-1), (-1), (-1), (-1), (-1), (-1), (-1), 86, 87, (-1), 88, 89, (-1), (-1), 90, 91, (-1), 92, 93, 94, 95, (-1), 96, 97, 98]),
  (1, 1180, []),
  (1, 1180, []),
  (3, 300, []),
  (1, 4, []),
  (1, 40, []),
  (1, 40, []),
  (1, 1600, []),
  (1, 1600, []),
  (1, 5, []),
  (2, 5, []),
  (2, 5, []),
  (2, 384, []),
  (1, 4096, []),
  (1, 576, []),
  (1, 576, []),
  (1, 512, []),
  (1, 8, []),
  (1, 8, []),
  (1, 40, []),
  (1, 41, []),
  (1, 80, []),
  (1, 80, []),
  (1, 10, []),
  (1, 10, []),
  (1, 400, []),
  (1, 400, []),
  (1, 11, []),
  (2, 200, []),
  (1, 40, []),
  (1, 81, []),
  (1, 64, [])]
noncomputable def xKZ : XW := (xK0, 0, 0)
noncomputable abbrev xE (X : Int × (Int → Int)) : XE := (X, xTT, xSL, xMI)
def xc (X : Int × (Int → Int)) (d y : Nat) (a : List XV) (H : XH) (Q : Int → XH → Prop) : Prop := xWM (xE X) xMC d y a xKZ H (fun r K' H' => K' = xKZ ∧ Q r H')
def xq (X : Int × (Int → Int)) (d y : Nat) (Q : Int → XH → Prop) (n : Nat) (L : XL) (S : List XV) (H : XH) : Prop := xWB (xE X) (xWM (xE X) xMC d) (xMC y).1 (xMC y).2.1 (fun r K' H' => K' = xKZ ∧ Q r H') (n, L, S, xKZ, H)
def xmem : List Nat → Nat → Bool
  | [], _ => false
  | a :: l, n => bif Nat.beq a n then true else xmem l n
def xone (E : XE) (C : XC) (cd : Nat → XI) (rt : Nat) (P : XG → Prop) (Q : XQ) : XG → Prop
  | (pc, L, S, K, H) => xres C P Q (xop E rt pc (cd pc) L S K H)
def xrun (E : XE) (C : XC) (cd : Nat → XI) (rt : Nat) (P : XG → Prop) (Q : XQ) (st : List Nat) : Nat → XG → Prop
  | 0, g => P g
  | k + 1, (pc, L, S, K, H) => bif xmem st pc then P (pc, L, S, K, H) else xres C (xrun E C cd rt P Q st k) Q (xop E rt pc (cd pc) L S K H)
theorem xrun_ok {E : XE} {C : XC} (hC : xmonoC C) {cd : Nat → XI} {rt : Nat} {Q : XQ} {st : List Nat} : ∀ (k : Nat) (g : XG), xrun E C cd rt (xWB E C cd rt Q) Q st k g → xWB E C cd rt Q g
  | 0, _, h => h
  | k + 1, (pc, L, S, K, H), h => by
    unfold xrun at h
    cases hb : xmem st pc with
    | true => rw [hb] at h; exact h
    | false =>
      rw [hb] at h
      exact xWB.one hC (xres_mono hC (fun g e => xrun_ok hC k g e) (fun _ _ _ e => e) _ h)
theorem xq_run {X : Int × (Int → Int)} {d y : Nat} {Q : Int → XH → Prop} {n : Nat} {L : XL} {S : List XV} {H : XH} (st : List Nat) (k : Nat)
    (h : xone (xE X) (xWM (xE X) xMC d) (xMC y).1 (xMC y).2.1 (xrun (xE X) (xWM (xE X) xMC d) (xMC y).1 (xMC y).2.1 (xWB (xE X) (xWM (xE X) xMC d) (xMC y).1 (xMC y).2.1 (fun r K' H' => K' = xKZ ∧ Q r H')) (fun r K' H' => K' = xKZ ∧ Q r H') st k) (fun r K' H' => K' = xKZ ∧ Q r H') (n, L, S, xKZ, H)) : xq X d y Q n L S H :=
  xWB.one (xWM_mono _ _ d) (xres_mono (xWM_mono _ _ d) (fun g e => xrun_ok (xWM_mono _ _ d) k g e) (fun _ _ _ e => e) _ h)
theorem xc_in {X : Int × (Int → Int)} {d y : Nat} {a : List XV} {H : XH} {F : XQ} (h : xc X d y a H (fun r H' => F r xKZ H')) : xWM (xE X) xMC d y a xKZ H F :=
  xWM_mono _ _ d _ _ _ _ _ _ (fun r K' H' q => by rw [q.1]; exact q.2) h
theorem xc_mono {X : Int × (Int → Int)} {d y : Nat} {a : List XV} {H : XH} {Q Q' : Int → XH → Prop} (hQ : ∀ r H', Q r H' → Q' r H') (h : xc X d y a H Q) : xc X d y a H Q' :=
  xWM_mono _ _ d _ _ _ _ _ _ (fun r K' H' q => ⟨q.1, hQ r H' q.2⟩) h
def xb (c : Prop) [Decidable c] : Int := if c then 1 else 0
theorem xbe_0 {c : Prop} [Decidable c] : xb c = 0 ↔ ¬ c := by unfold xb; split <;> simp_all
theorem xbe_1 {c : Prop} [Decidable c] : ¬ xb c = 0 ↔ c := by unfold xb; split <;> simp_all
theorem xbe_n {c : Prop} [Decidable c] : ¬ ¬ xb c = 0 ↔ ¬ c := by unfold xb; split <;> simp_all
theorem xb_le {c : Prop} [Decidable c] : (0 : Int) ≤ xb c ∧ (xb c : Int) ≤ 1 := by unfold xb; split <;> omega
theorem xb_t {c : Prop} [Decidable c] (h : c) : xb c = 1 := if_pos h
theorem xb_f {c : Prop} [Decidable c] (h : ¬ c) : xb c = 0 := if_neg h
theorem xfR3_0 : xfR 3 0 := ⟨by decide, by decide⟩
theorem xfR3_1 : xfR 3 1 := ⟨by decide, by decide⟩
theorem xfR4_0 : xfR 4 0 := ⟨by decide, by decide⟩
theorem xfR4_1 : xfR 4 1 := ⟨by decide, by decide⟩
theorem xfR3_b {c : Prop} [Decidable c] : xfR 3 (xb c) := xb_le
theorem xfB_xb {c : Prop} [Decidable c] : xfB 4 (xb c) := ⟨fun q => absurd q (by decide), fun _ => xb_le⟩
theorem xcmp_eq {u v : Int} : xcmp u v = 0 ↔ u = v := by unfold xcmp; split <;> (try split) <;> omega
theorem xcmp_ne {u v : Int} : ¬ xcmp u v = 0 ↔ ¬ u = v := not_congr xcmp_eq
theorem xcmp_lt {u v : Int} : xcmp u v < 0 ↔ u < v := by unfold xcmp; split <;> (try split) <;> omega
theorem xcmp_ge {u v : Int} : 0 ≤ xcmp u v ↔ v ≤ u := by unfold xcmp; split <;> (try split) <;> omega
theorem xcmp_gt {u v : Int} : 0 < xcmp u v ↔ v < u := by unfold xcmp; split <;> (try split) <;> omega
theorem xcmp_le {u v : Int} : xcmp u v ≤ 0 ↔ u ≤ v := by unfold xcmp; split <;> (try split) <;> omega
theorem xup_self (H : XH) (o k x : Int) : xup H o k x o k = x := if_pos ⟨rfl, rfl⟩
theorem xup_o {H : XH} {o k x o' k' : Int} (h : ¬ o' = o) : xup H o k x o' k' = H o' k' := if_neg (fun q => h q.1)
theorem xup_k {H : XH} {o k x o' k' : Int} (h : ¬ k' = k) : xup H o k x o' k' = H o' k' := if_neg (fun q => h q.2)
