/-! THE PURE LAYER 52: the law is read, the model: its small calls -/
theorem U_173 {X : Int × (Int → Int)} {d : Nat} {Q : Int → XH → Prop} (hd : 0 ≤ d) (f : Int) (H : XH) (h : ((¬ H 67 29 = 0) → Q 0 H) ∧ (¬ (¬ H 67 29 = 0) → Q 0 (xup (xup H 67 29 f) 67 30 (H 67 26)))) : xc X (d + 1) 173 [(2, 67), (0, f)] H Q := by
  refine ⟨rfl, ?_⟩
  show xq X d 173 Q 100000 [(0, (2, 67)), (1, (0, f))] [] H
  refine xq_run [] 300 ?_
  show ((¬ H 67 29 = 0) → xfR 2 0 ∧ xKZ = xKZ ∧ Q 0 H) ∧ (¬ (¬ H 67 29 = 0) → xfR 2 0 ∧ xKZ = xKZ ∧ Q 0 (xup (xup H 67 29 f) 67 30 (H 67 26)))
  refine ⟨fun k_ => ?_, fun k_ => ?_⟩
  · replace h := h.1 k_
    exact ⟨trivial, rfl, h⟩
  · replace h := h.2 k_
    exact ⟨trivial, rfl, h⟩

theorem U_174 {X : Int × (Int → Int)} {d : Nat} {Q : Int → XH → Prop} (hd : 0 ≤ d) (f : Int) (H : XH) (h : ((0 : Int) ≤ H 67 32 ∧ (H 67 32 : Int) < 40) ∧ (xI ((H 67 32) + 1)) ∧ Q 0 (xup (xup H 86 (H 67 32) f) 67 32 ((H 67 32) + 1))) : xc X (d + 1) 174 [(2, 67), (0, f)] H Q := by
  refine ⟨rfl, ?_⟩
  show xq X d 174 Q 100000 [(0, (2, 67)), (1, (0, f))] [] H
  refine xq_run [] 300 ?_
  show ((0 : Int) ≤ H 67 32 ∧ (H 67 32 : Int) < 40) ∧ (xI ((H 67 32) + 1)) ∧ xfR 2 0 ∧ xKZ = xKZ ∧ Q 0 (xup (xup H 86 (H 67 32) f) 67 32 ((H 67 32) + 1))
  refine ⟨h.1, ?_⟩
  replace h := h.2
  refine ⟨h.1, ?_⟩
  replace h := h.2
  exact ⟨trivial, rfl, h⟩

theorem U_177 {X : Int × (Int → Int)} {d : Nat} {Q : Int → XH → Prop} (hd : 0 ≤ d) (a v : Int) (H : XH) (h : ((0 : Int) ≤ H 67 42 ∧ (H 67 42 : Int) < 400) ∧ ((0 : Int) ≤ H 67 42 ∧ (H 67 42 : Int) < 400) ∧ (xI ((H 67 42) + 1)) ∧ Q 0 (xup (xup (xup H 92 (H 67 42) a) 93 (H 67 42) v) 67 42 ((H 67 42) + 1))) : xc X (d + 1) 177 [(2, 67), (0, a), (0, v)] H Q := by
  refine ⟨rfl, ?_⟩
  show xq X d 177 Q 100000 [(0, (2, 67)), (1, (0, a)), (2, (0, v))] [] H
  refine xq_run [] 300 ?_
  show ((0 : Int) ≤ H 67 42 ∧ (H 67 42 : Int) < 400) ∧ ((0 : Int) ≤ H 67 42 ∧ (H 67 42 : Int) < 400) ∧ (xI ((H 67 42) + 1)) ∧ xfR 2 0 ∧ xKZ = xKZ ∧ Q 0 (xup (xup (xup H 92 (H 67 42) a) 93 (H 67 42) v) 67 42 ((H 67 42) + 1))
  refine ⟨h.1, ?_⟩
  replace h := h.2
  refine ⟨h.1, ?_⟩
  replace h := h.2
  refine ⟨h.1, ?_⟩
  replace h := h.2
  exact ⟨trivial, rfl, h⟩

theorem s_173m {X : Int × (Int → Int)} {d : Nat} {Q : Int → XH → Prop} (hd : 1 ≤ d) {t : Int → Int} {H0 : XH} {n T : Int} {B K N E : Int → Int} {st nc i o : Int} {F W : List (Int × Int)} {O : List Int} {C : List (Int × Int)} (f : Int) {h : XH} (cx : cXp t H0 n T B K N E) (m : mHp H0 n T B K N E st nc i o F W O C h) (hQ : ∀ h1, mEr H0 f (B i) h1 → Q 0 h1) : xc X d 173 [(2, 67), (0, f)] h Q := by
  cases d with
  | zero => omega
  | succ d =>
  have eb := mH_B cx m
  have a := m.1
  have c := m.2.2.1
  refine U_173 (by omega) f h ?_
  rw [eb]
  refine ⟨fun c1 => ?_, fun c1 => ?_⟩
  · skip
    first | (exfalso; omega) | exact hQ _ ⟨frM2_67 (frM2_67 a (by decide)) (by decide), rfl, xup_self _ _ _ _⟩
  · skip
    first | (exfalso; omega) | exact hQ _ ⟨frM2_67 (frM2_67 a (by decide)) (by decide), rfl, xup_self _ _ _ _⟩

theorem s_174m {X : Int × (Int → Int)} {d : Nat} {Q : Int → XH → Prop} (hd : 1 ≤ d)  {H0 : XH} {n T : Int} {B K N E : Int → Int} {st nc i o : Int} {F W : List (Int × Int)} {O : List Int} {C : List (Int × Int)} (f : Int) {h : XH} (m : mHp H0 n T B K N E st nc i o F W O C h) (hf : ¬ f = 5) (hl : F.length < 40) (hQ : ∀ h1, mHp H0 n T B K N E st nc i o ((f, 0) :: F) W O C h1 → Q 0 h1) : xc X d 174 [(2, 67), (0, f)] h Q := by
  cases d with
  | zero => omega
  | succ d =>
  have e := m.2.2.2.2.1.1
  have z := hQ _ (mH_push hf m)
  refine U_174 (by omega) f h ?_
  rw [e]
  refine ⟨?_, ?_⟩
  · first | omega | (unfold xI; omega) | (exfalso; omega)
  refine ⟨?_, ?_⟩
  · first | omega | (unfold xI; omega) | (exfalso; omega)
  exact z

theorem s_177m {X : Int × (Int → Int)} {d : Nat} {Q : Int → XH → Prop} (hd : 1 ≤ d)  {H0 : XH} {n T : Int} {B K N E : Int → Int} {st nc i o : Int} {F W : List (Int × Int)} {O : List Int} {C : List (Int × Int)} {x a v : Int} {h : XH} (m : mHp H0 n T B K N E st nc i o F W O C h) (hx : orR x a v) (hl : O.length < 400) (hQ : ∀ h1, mHp H0 n T B K N E st nc i o F W (O ++ [x]) C h1 → Q 0 h1) : xc X d 177 [(2, 67), (0, a), (0, v)] h Q := by
  cases d with
  | zero => omega
  | succ d =>
  have e := m.2.2.2.2.2.2.2.2.2.1
  have z := hQ _ (mH_emit hx m)
  refine U_177 (by omega) a v h ?_
  rw [e]
  refine ⟨?_, ?_⟩
  · first | omega | (unfold xI; omega) | (exfalso; omega)
  refine ⟨?_, ?_⟩
  · first | omega | (unfold xI; omega) | (exfalso; omega)
  refine ⟨?_, ?_⟩
  · first | omega | (unfold xI; omega) | (exfalso; omega)
  exact z

theorem U_175 {X : Int × (Int → Int)} {d : Nat} {Q : Int → XH → Prop} (hd : 0 ≤ d) (f : Int) (H : XH) (h : ((¬ H 67 31 = 8) → (xI ((H 67 31) + 1)) ∧ (xc X d 174 [(2, 67), (0, f)] (xup H 67 31 ((H 67 31) + 1)) (fun (J1191 : Int) (h1190 : XH) => (xc X d 171 [(2, 67)] h1190 (fun (J1193 : Int) (h1192 : XH) => Q 1 h1192))))) ∧ (¬ (¬ H 67 31 = 8) → (xc X d 173 [(2, 67), (0, 3)] H (fun (J1195 : Int) (h1194 : XH) => Q 0 h1194)))) : xc X (d + 1) 175 [(2, 67), (0, f)] H Q := by
  refine ⟨rfl, ?_⟩
  show xq X d 175 Q 100000 [(0, (2, 67)), (1, (0, f))] [] H
  refine xq_run [14, 31, 35] 300 ?_
  show ((¬ H 67 31 = 8) → (xI ((H 67 31) + 1)) ∧ xWM (xE X) xMC d 174 [(2, 67), (0, f)] xKZ (xup H 67 31 ((H 67 31) + 1)) _) ∧ (¬ (¬ H 67 31 = 8) → xWM (xE X) xMC d 173 [(2, 67), (0, 3)] xKZ H _)
  refine ⟨fun k_ => ?_, fun k_ => ?_⟩
  · replace h := h.1 k_
    refine ⟨h.1, ?_⟩
    replace h := h.2
    refine xc_in (xc_mono (fun J1191 h1190 q_ => ?_) h)
    replace h := q_
    show xq X d 175 Q 31 [(0, (2, 67)), (1, (0, f))] [] h1190
    refine xq_run [14, 31, 35] 300 ?_
    show xWM (xE X) xMC d 171 [(2, 67)] xKZ h1190 _
    refine xc_in (xc_mono (fun J1193 h1192 q_ => ?_) h)
    replace h := q_
    show xq X d 175 Q 35 [(0, (2, 67)), (1, (0, f))] [] h1192
    refine xq_run [14, 31, 35] 300 ?_
    show xfR 3 1 ∧ xKZ = xKZ ∧ Q 1 h1192
    exact ⟨xfR3_1, rfl, h⟩
  · replace h := h.2 k_
    refine xc_in (xc_mono (fun J1195 h1194 q_ => ?_) h)
    replace h := q_
    show xq X d 175 Q 14 [(0, (2, 67)), (1, (0, f))] [] h1194
    refine xq_run [14, 31, 35] 300 ?_
    show xfR 3 0 ∧ xKZ = xKZ ∧ Q 0 h1194
    exact ⟨xfR3_0, rfl, h⟩

theorem s_175m {X : Int × (Int → Int)} {d : Nat} {Q : Int → XH → Prop} (hd : 5 ≤ d) {t : Int → Int} {H0 : XH} {n T : Int} {B K N E : Int → Int} {st nc i o : Int} {F W : List (Int × Int)} {O : List Int} {C : List (Int × Int)} (f : Int) {h : XH} (cx : cXp t H0 n T B K N E) (L_H : mHp H0 n T B K N E st nc i o F W O C h) (hf : ¬ f = 5) (hl : F.length < 40) (hi : i < T) (ho : 0 ≤ o ∧ o ≤ 8) (hQ : ∀ r h1, (0 ≤ r ∧ r ≤ 1) ∧ ((o = 8 ∧ mEr H0 3 (B i) h1) ∨ (¬ o = 8 ∧ mHp H0 n T B K N E st nc (i + 1) (o + 1) ((f, 0) :: F) W O C h1)) → Q r h1) : xc X d 175 [(2, 67), (0, f)] h Q := by
  cases d with
  | zero => omega
  | succ d =>
  have e31 := L_H.2.2.2.1
  refine U_175 (by omega) f h ?_
  rw [e31]
  refine ⟨fun c1 => ?_, fun c1 => ?_⟩
  · skip
    refine ⟨?_, ?_⟩
    · first | omega | (unfold xI; omega) | (exfalso; omega)
    refine s_174m (by omega) _ (mH_31 _ L_H) hf hl (fun h1196 L_h1196 => ?_)
    refine s_171m (by omega) cx L_h1196 (by omega) rfl (fun h1198 L_h1198 => ?_)
    exact hQ 1 _ ⟨by decide, Or.inr ⟨by omega, L_h1198⟩⟩
  · skip
    refine s_173m (by omega) _ cx L_H (fun h1200 L_h1200 => ?_)
    exact hQ 0 _ ⟨by decide, Or.inl ⟨by omega, L_h1200⟩⟩

theorem fR_top {f g : Int → Int} {p : Int × Int} {F : List (Int × Int)} (h : fR f g (p :: F)) : f (((p :: F).length : Int) - 1) = p.1 := by
  have e : ((p :: F).length : Int) - 1 = (F.length : Int) := by
    simp only [List.length_cons]
    omega
  rw [e]
  exact h.1
theorem fP_tail {p : Int × Int} {F : List (Int × Int)} (h : fP (p :: F)) (hp : ¬ p.1 = 1) (hp2 : ¬ p.1 = 2) : fP F := by
  cases F with
  | nil =>
    rcases h.2 with q | q
    · exact absurd q hp
    · exact absurd q hp2
  | cons a b => exact ⟨List.cons_ne_nil _ _, h.2⟩

theorem U_179 {X : Int × (Int → Int)} {d : Nat} {Q : Int → XH → Prop} (hd : 0 ≤ d) (H : XH) (h : xq X d 179 Q 0 [(0, (2, 67))] [] H) : xc X (d + 1) 179 [(2, 67)] H Q := by
  refine ⟨rfl, ?_⟩
  show xq X d 179 Q 100000 [(0, (2, 67))] [] H
  refine xq_run [0, 4, 37] 300 ?_
  show xq X d 179 Q 0 [(0, (2, 67))] [] H
  exact h
theorem U_179_0 {X : Int × (Int → Int)} {d : Nat} {Q : Int → XH → Prop} (hd : 1 ≤ d) (H : XH) (h : (1 ≤ H 67 32 ∧ H 67 32 ≤ 40) ∧ (((¬ H 86 (H 67 32 - 1) = 7) → Q 0 (xup H 67 38 2)) ∧ (¬ (¬ H 86 (H 67 32 - 1) = 7) → (xI ((H 67 32) - 1)) ∧ (xI ((H 67 31) - 1)) ∧ (xc X d 177 [(2, 67), (0, 402), (0, 0)] (xup (xup H 67 32 ((H 67 32) - 1)) 67 31 ((H 67 31) - 1)) (fun (J1203 : Int) (h1202 : XH) => xq X d 179 Q 0 [(0, (2, 67))] [] h1202))))) : xq X d 179 Q 0 [(0, (2, 67))] [] H := by
  show xq X d 179 Q 0 [(0, (2, 67))] [] H
  refine xq_run [0, 4, 37] 300 ?_
  show xWM (xE X) xMC d 178 [(2, 67)] xKZ H _
  refine xc_in (s_178 (by omega) H (h.1) ?_)
  replace h := h.2
  show xq X d 179 Q 4 [(0, (2, 67))] [(0, H 86 (H 67 32 - 1))] H
  refine xq_run [0, 4, 37] 300 ?_
  show ((¬ H 86 (H 67 32 - 1) = 7) → xfR 2 0 ∧ xKZ = xKZ ∧ Q 0 (xup H 67 38 2)) ∧ (¬ (¬ H 86 (H 67 32 - 1) = 7) → (xI ((H 67 32) - 1)) ∧ (xI ((H 67 31) - 1)) ∧ xWM (xE X) xMC d 177 [(2, 67), (0, 402), (0, 0)] xKZ (xup (xup H 67 32 ((H 67 32) - 1)) 67 31 ((H 67 31) - 1)) _)
  refine ⟨fun k_ => ?_, fun k_ => ?_⟩
  · replace h := h.1 k_
    exact ⟨trivial, rfl, h⟩
  · replace h := h.2 k_
    refine ⟨h.1, ?_⟩
    replace h := h.2
    refine ⟨h.1, ?_⟩
    replace h := h.2
    refine xc_in (xc_mono (fun J1203 h1202 q_ => ?_) h)
    replace h := q_
    show xq X d 179 Q 37 [(0, (2, 67))] [] h1202
    refine xq_run [0, 4, 37] 300 ?_
    show xq X d 179 Q 0 [(0, (2, 67))] [] h1202
    exact h

theorem s_179m {X : Int × (Int → Int)} {d : Nat} {Q : Int → XH → Prop} (hd : 3 ≤ d)  {H0 : XH} {n T : Int} {B K N E : Int → Int} {st nc i o : Int} {F W : List (Int × Int)} {O : List Int} {C : List (Int × Int)}  {h : XH} (L_H : mHp H0 n T B K N E st nc i o F W O C h) (hf : fP F) (hl : F.length ≤ 40) (hO : O.length + F.length < 400) (ho : -1 ≤ o ∧ o ≤ 8) (hQ : ∀ h1, mHp H0 n T B K N E 2 nc i (mPop 7 10043 F o O).2.1 (mPop 7 10043 F o O).1 W (mPop 7 10043 F o O).2.2 C h1 → Q 0 h1) : xc X d 179 [(2, 67)] h Q := by
  cases d with
  | zero => omega
  | succ d =>
  have key : ∀ (F : List (Int × Int)) (o : Int) (O : List Int) (h : XH), mHp H0 n T B K N E st nc i o F W O C h → fP F → F.length ≤ 40 → O.length + F.length < 400 → -100 ≤ o - F.length → o ≤ 100 → (∀ h1, mHp H0 n T B K N E 2 nc i (mPop 7 10043 F o O).2.1 (mPop 7 10043 F o O).1 W (mPop 7 10043 F o O).2.2 C h1 → Q 0 h1) → xq X d 179 Q 0 [(0, (2, 67))] [] h := by
    intro F
    induction F with
    | nil =>
      intro o O h _ hf
      exact absurd rfl hf.1
    | cons p F ih =>
      intro o O h L_H hf hl hO ho ho2 hQ
      have lc : ((p :: F).length : Int) = (F.length : Int) + 1 := rfl
      have e32 := L_H.2.2.2.2.1.1
      have e31 := L_H.2.2.2.1
      have et := fR_top L_H.2.2.2.2.1.2
      have lc' : (p :: F).length = F.length + 1 := rfl
      refine U_179_0 (by omega) h ?_
      rw [e32, e31, et]
      refine ⟨?_, ?_⟩
      · first | omega | (unfold xI; omega) | (exfalso; omega)
      refine ⟨fun c1 => ?_, fun c1 => ?_⟩
      · skip
        have e : mPop 7 10043 (p :: F) o O = (p :: F, o, O) := if_neg (by omega)
        rw [e] at hQ
        exact hQ _ (mH_38 _ L_H)
      · skip
        refine ⟨?_, ?_⟩
        · first | omega | (unfold xI; omega) | (exfalso; omega)
        refine ⟨?_, ?_⟩
        · first | omega | (unfold xI; omega) | (exfalso; omega)
        refine s_177m (by omega) (x := 10043) (mH_31 _ (by rw [show ((p :: F).length : Int) - 1 = (F.length : Int) by omega]; exact mH_pop L_H)) (by unfold orR; omega) (by omega) (fun h1204 L_h1204 => ?_)
        have e : mPop 7 10043 (p :: F) o O = mPop 7 10043 F (o - 1) (O ++ [10043]) := if_pos (by omega)
        rw [e] at hQ
        exact ih (o - 1) (O ++ [10043]) _ L_h1204 (fP_tail hf (by omega) (by omega)) (by omega) (by rw [List.length_append]; simp only [List.length_cons, List.length_nil]; omega) (by omega) (by omega) hQ
  refine U_179 (by omega) h ?_
  exact key F o O h L_H hf hl hO (by omega) (by omega) hQ

theorem U_186 {X : Int × (Int → Int)} {d : Nat} {Q : Int → XH → Prop} (hd : 0 ≤ d) (H : XH) (h : xq X d 186 Q 0 [(0, (2, 67))] [] H) : xc X (d + 1) 186 [(2, 67)] H Q := by
  refine ⟨rfl, ?_⟩
  show xq X d 186 Q 100000 [(0, (2, 67))] [] H
  refine xq_run [0, 4, 36] 300 ?_
  show xq X d 186 Q 0 [(0, (2, 67))] [] H
  exact h
theorem U_186_0 {X : Int × (Int → Int)} {d : Nat} {Q : Int → XH → Prop} (hd : 1 ≤ d) (H : XH) (h : (1 ≤ H 67 32 ∧ H 67 32 ≤ 40) ∧ (((¬ H 86 (H 67 32 - 1) = 3) → Q 0 (xup H 67 38 3)) ∧ (¬ (¬ H 86 (H 67 32 - 1) = 3) → (xI ((H 67 32) - 1)) ∧ (xI ((H 67 31) - 1)) ∧ (xc X d 177 [(2, 67), (0, 405), (0, 0)] (xup (xup H 67 32 ((H 67 32) - 1)) 67 31 ((H 67 31) - 1)) (fun (J1207 : Int) (h1206 : XH) => xq X d 186 Q 0 [(0, (2, 67))] [] h1206))))) : xq X d 186 Q 0 [(0, (2, 67))] [] H := by
  show xq X d 186 Q 0 [(0, (2, 67))] [] H
  refine xq_run [0, 4, 36] 300 ?_
  show xWM (xE X) xMC d 178 [(2, 67)] xKZ H _
  refine xc_in (s_178 (by omega) H (h.1) ?_)
  replace h := h.2
  show xq X d 186 Q 4 [(0, (2, 67))] [(0, H 86 (H 67 32 - 1))] H
  refine xq_run [0, 4, 36] 300 ?_
  show ((¬ H 86 (H 67 32 - 1) = 3) → xfR 2 0 ∧ xKZ = xKZ ∧ Q 0 (xup H 67 38 3)) ∧ (¬ (¬ H 86 (H 67 32 - 1) = 3) → (xI ((H 67 32) - 1)) ∧ (xI ((H 67 31) - 1)) ∧ xWM (xE X) xMC d 177 [(2, 67), (0, 405), (0, 0)] xKZ (xup (xup H 67 32 ((H 67 32) - 1)) 67 31 ((H 67 31) - 1)) _)
  refine ⟨fun k_ => ?_, fun k_ => ?_⟩
  · replace h := h.1 k_
    exact ⟨trivial, rfl, h⟩
  · replace h := h.2 k_
    refine ⟨h.1, ?_⟩
    replace h := h.2
    refine ⟨h.1, ?_⟩
    replace h := h.2
    refine xc_in (xc_mono (fun J1207 h1206 q_ => ?_) h)
    replace h := q_
    show xq X d 186 Q 36 [(0, (2, 67))] [] h1206
    refine xq_run [0, 4, 36] 300 ?_
    show xq X d 186 Q 0 [(0, (2, 67))] [] h1206
    exact h

theorem s_186m {X : Int × (Int → Int)} {d : Nat} {Q : Int → XH → Prop} (hd : 3 ≤ d)  {H0 : XH} {n T : Int} {B K N E : Int → Int} {st nc i o : Int} {F W : List (Int × Int)} {O : List Int} {C : List (Int × Int)}  {h : XH} (L_H : mHp H0 n T B K N E st nc i o F W O C h) (hf : fP F) (hl : F.length ≤ 40) (hO : O.length + F.length < 400) (ho : -1 ≤ o ∧ o ≤ 8) (hQ : ∀ h1, mHp H0 n T B K N E 3 nc i (mPop 3 10006 F o O).2.1 (mPop 3 10006 F o O).1 W (mPop 3 10006 F o O).2.2 C h1 → Q 0 h1) : xc X d 186 [(2, 67)] h Q := by
  cases d with
  | zero => omega
  | succ d =>
  have key : ∀ (F : List (Int × Int)) (o : Int) (O : List Int) (h : XH), mHp H0 n T B K N E st nc i o F W O C h → fP F → F.length ≤ 40 → O.length + F.length < 400 → -100 ≤ o - F.length → o ≤ 100 → (∀ h1, mHp H0 n T B K N E 3 nc i (mPop 3 10006 F o O).2.1 (mPop 3 10006 F o O).1 W (mPop 3 10006 F o O).2.2 C h1 → Q 0 h1) → xq X d 186 Q 0 [(0, (2, 67))] [] h := by
    intro F
    induction F with
    | nil =>
      intro o O h _ hf
      exact absurd rfl hf.1
    | cons p F ih =>
      intro o O h L_H hf hl hO ho ho2 hQ
      have lc : ((p :: F).length : Int) = (F.length : Int) + 1 := rfl
      have e32 := L_H.2.2.2.2.1.1
      have e31 := L_H.2.2.2.1
      have et := fR_top L_H.2.2.2.2.1.2
      have lc' : (p :: F).length = F.length + 1 := rfl
      refine U_186_0 (by omega) h ?_
      rw [e32, e31, et]
      refine ⟨?_, ?_⟩
      · first | omega | (unfold xI; omega) | (exfalso; omega)
      refine ⟨fun c1 => ?_, fun c1 => ?_⟩
      · skip
        have e : mPop 3 10006 (p :: F) o O = (p :: F, o, O) := if_neg (by omega)
        rw [e] at hQ
        exact hQ _ (mH_38 _ L_H)
      · skip
        refine ⟨?_, ?_⟩
        · first | omega | (unfold xI; omega) | (exfalso; omega)
        refine ⟨?_, ?_⟩
        · first | omega | (unfold xI; omega) | (exfalso; omega)
        refine s_177m (by omega) (x := 10006) (mH_31 _ (by rw [show ((p :: F).length : Int) - 1 = (F.length : Int) by omega]; exact mH_pop L_H)) (by unfold orR; omega) (by omega) (fun h1208 L_h1208 => ?_)
        have e : mPop 3 10006 (p :: F) o O = mPop 3 10006 F (o - 1) (O ++ [10006]) := if_pos (by omega)
        rw [e] at hQ
        exact ih (o - 1) (O ++ [10006]) _ L_h1208 (fP_tail hf (by omega) (by omega)) (by omega) (by rw [List.length_append]; simp only [List.length_cons, List.length_nil]; omega) (by omega) (by omega) hQ
  refine U_186 (by omega) h ?_
  exact key F o O h L_H hf hl hO (by omega) (by omega) hQ

theorem wtR_rk {k u : Int} (h : wtR k u) : rkM u = mRk k := by
  unfold rkM mRk
  rcases h with ⟨a, b⟩ | ⟨a, b⟩ | ⟨a, b⟩ | ⟨a, b⟩ | ⟨a, b⟩ | ⟨a, b⟩ <;> subst a <;> subst b <;> rfl

theorem U_183 {X : Int × (Int → Int)} {d : Nat} {Q : Int → XH → Prop} (hd : 0 ≤ d) (r : Int) (H : XH) (h : xq X d 183 Q 0 [(0, (2, 67)), (1, (0, r))] [] H) : xc X (d + 1) 183 [(2, 67), (0, r)] H Q := by
  refine ⟨rfl, ?_⟩
  show xq X d 183 Q 100000 [(0, (2, 67)), (1, (0, r))] [] H
  refine xq_run [0, 39, 67] 300 ?_
  show xq X d 183 Q 0 [(0, (2, 67)), (1, (0, r))] [] H
  exact h
theorem U_183_0 {X : Int × (Int → Int)} {d : Nat} {Q : Int → XH → Prop} (hd : 1 ≤ d) (v1 : Int) (H : XH) (h : ((H 67 35 ≤ 0) → Q 0 H) ∧ (¬ (H 67 35 ≤ 0) → (xI ((H 67 35) - 1)) ∧ ((0 : Int) ≤ (H 67 35) - 1 ∧ ((H 67 35) - 1 : Int) < 80) ∧ ((¬ H 89 ((H 67 35) - 1) = H 67 32) → Q 0 H) ∧ (¬ (¬ H 89 ((H 67 35) - 1) = H 67 32) → (xI ((H 67 35) - 1)) ∧ ((0 : Int) ≤ (H 67 35) - 1 ∧ ((H 67 35) - 1 : Int) < 80) ∧ (((rkM (H 88 ((H 67 35) - 1)) < v1) → Q 0 H) ∧ (¬ (rkM (H 88 ((H 67 35) - 1)) < v1) → (xI ((H 67 35) - 1)) ∧ ((0 : Int) ≤ (H 67 35) - 1 ∧ ((H 67 35) - 1 : Int) < 80) ∧ (xc X d 177 [(2, 67), (0, H 88 ((H 67 35) - 1)), (0, 0)] (xup H 67 35 ((H 67 35) - 1)) (fun (J1211 : Int) (h1210 : XH) => xq X d 183 Q 0 [(0, (2, 67)), (1, (0, v1))] [] h1210))))))) : xq X d 183 Q 0 [(0, (2, 67)), (1, (0, v1))] [] H := by
  show xq X d 183 Q 0 [(0, (2, 67)), (1, (0, v1))] [] H
  refine xq_run [0, 39, 67] 300 ?_
  show ((H 67 35 ≤ 0) → xfR 2 0 ∧ xKZ = xKZ ∧ Q 0 H) ∧ (¬ (H 67 35 ≤ 0) → (xI ((H 67 35) - 1)) ∧ ((0 : Int) ≤ (H 67 35) - 1 ∧ ((H 67 35) - 1 : Int) < 80) ∧ ((¬ H 89 ((H 67 35) - 1) = H 67 32) → xfR 2 0 ∧ xKZ = xKZ ∧ Q 0 H) ∧ (¬ (¬ H 89 ((H 67 35) - 1) = H 67 32) → (xI ((H 67 35) - 1)) ∧ ((0 : Int) ≤ (H 67 35) - 1 ∧ ((H 67 35) - 1 : Int) < 80) ∧ xWM (xE X) xMC d 182 [(0, H 88 ((H 67 35) - 1))] xKZ H _))
  refine ⟨fun k_ => ?_, fun k_ => ?_⟩
  · replace h := h.1 k_
    exact ⟨trivial, rfl, h⟩
  · replace h := h.2 k_
    refine ⟨h.1, ?_⟩
    replace h := h.2
    refine ⟨h.1, ?_⟩
    replace h := h.2
    refine ⟨fun k_ => ?_, fun k_ => ?_⟩
    · replace h := h.1 k_
      exact ⟨trivial, rfl, h⟩
    · replace h := h.2 k_
      refine ⟨h.1, ?_⟩
      replace h := h.2
      refine ⟨h.1, ?_⟩
      replace h := h.2
      refine xc_in (s_182 (by omega) (H 88 ((H 67 35) - 1)) H  ?_)
      replace h := h
      show xq X d 183 Q 39 [(0, (2, 67)), (1, (0, v1))] [(0, rkM (H 88 ((H 67 35) - 1)))] H
      refine xq_run [0, 39, 67] 300 ?_
      show ((rkM (H 88 ((H 67 35) - 1)) < v1) → xfR 2 0 ∧ xKZ = xKZ ∧ Q 0 H) ∧ (¬ (rkM (H 88 ((H 67 35) - 1)) < v1) → (xI ((H 67 35) - 1)) ∧ ((0 : Int) ≤ (H 67 35) - 1 ∧ ((H 67 35) - 1 : Int) < 80) ∧ xWM (xE X) xMC d 177 [(2, 67), (0, H 88 ((H 67 35) - 1)), (0, 0)] xKZ (xup H 67 35 ((H 67 35) - 1)) _)
      refine ⟨fun k_ => ?_, fun k_ => ?_⟩
      · replace h := h.1 k_
        exact ⟨trivial, rfl, h⟩
      · replace h := h.2 k_
        refine ⟨h.1, ?_⟩
        replace h := h.2
        refine ⟨h.1, ?_⟩
        replace h := h.2
        refine xc_in (xc_mono (fun J1211 h1210 q_ => ?_) h)
        replace h := q_
        show xq X d 183 Q 67 [(0, (2, 67)), (1, (0, v1))] [] h1210
        refine xq_run [0, 39, 67] 300 ?_
        show xq X d 183 Q 0 [(0, (2, 67)), (1, (0, v1))] [] h1210
        exact h

theorem s_183m {X : Int × (Int → Int)} {d : Nat} {Q : Int → XH → Prop} (hd : 3 ≤ d)  {H0 : XH} {n T : Int} {B K N E : Int → Int} {st nc i o : Int} {F W : List (Int × Int)} {O : List Int} {C : List (Int × Int)} (r : Int) {h : XH} (L_H : mHp H0 n T B K N E st nc i o F W O C h) (hF : F.length ≤ 40) (hl : W.length ≤ 60) (hO : O.length + W.length < 400) (hQ : ∀ h1, mHp H0 n T B K N E st nc i o F (mFl (mLen F) r W O).1 (mFl (mLen F) r W O).2 C h1 → Q 0 h1) : xc X d 183 [(2, 67), (0, r)] h Q := by
  cases d with
  | zero => omega
  | succ d =>
  have key : ∀ (W : List (Int × Int)) (O : List Int) (h : XH), mHp H0 n T B K N E st nc i o F W O C h → W.length ≤ 60 → O.length + W.length < 400 → (∀ h1, mHp H0 n T B K N E st nc i o F (mFl (mLen F) r W O).1 (mFl (mLen F) r W O).2 C h1 → Q 0 h1) → xq X d 183 Q 0 [(0, (2, 67)), (1, (0, r))] [] h := by
    intro W
    induction W with
    | nil =>
      intro O h L_H hl hO hQ
      have e35 : h 67 35 = 0 := L_H.2.2.2.2.2.1.1
      refine U_183_0 (by omega) r h ?_
      rw [e35]
      refine ⟨fun c1 => ?_, fun c1 => ?_⟩
      · skip
        exact hQ h L_H
      · skip
        refine ⟨?_, ?_⟩
        · first | omega | (unfold xI; omega) | (exfalso; omega)
        refine ⟨?_, ?_⟩
        · first | omega | (unfold xI; omega) | (exfalso; omega)
        refine ⟨fun c2 => ?_, fun c2 => ?_⟩
        · skip
          exfalso
          omega
        · skip
          refine ⟨?_, ?_⟩
          · first | omega | (unfold xI; omega) | (exfalso; omega)
          refine ⟨?_, ?_⟩
          · first | omega | (unfold xI; omega) | (exfalso; omega)
          refine ⟨fun c3 => ?_, fun c3 => ?_⟩
          · skip
            exfalso
            omega
          · skip
            refine ⟨?_, ?_⟩
            · first | omega | (unfold xI; omega) | (exfalso; omega)
            refine ⟨?_, ?_⟩
            · first | omega | (unfold xI; omega) | (exfalso; omega)
            exfalso
            omega
    | cons p W ih =>
      intro O h L_H hl hO hQ
      have lc : ((p :: W).length : Int) = (W.length : Int) + 1 := rfl
      have lc' : (p :: W).length = W.length + 1 := rfl
      have e35 := L_H.2.2.2.2.2.1.1
      have e32 := L_H.2.2.2.2.1.1
      obtain ⟨w1, w2, -⟩ := L_H.2.2.2.2.2.1.2
      have rk := wtR_rk w1
      have eL : mLen F = (F.length : Int) := rfl
      have e1 : ((p :: W).length : Int) - 1 = (W.length : Int) := by omega
      refine U_183_0 (by omega) r h ?_
      rw [e35, e32, e1, w2, rk]
      refine ⟨fun c1 => ?_, fun c1 => ?_⟩
      · skip
        exfalso
        omega
      · skip
        refine ⟨?_, ?_⟩
        · first | omega | (unfold xI; omega) | (exfalso; omega)
        refine ⟨?_, ?_⟩
        · first | omega | (unfold xI; omega) | (exfalso; omega)
        refine ⟨fun c2 => ?_, fun c2 => ?_⟩
        · skip
          have e : mFl (mLen F) r (p :: W) O = (p :: W, O) := if_neg (fun q => by omega)
          rw [e] at hQ
          exact hQ h L_H
        · skip
          refine ⟨?_, ?_⟩
          · first | omega | (unfold xI; omega) | (exfalso; omega)
          refine ⟨?_, ?_⟩
          · first | omega | (unfold xI; omega) | (exfalso; omega)
          refine ⟨fun c3 => ?_, fun c3 => ?_⟩
          · skip
            have e : mFl (mLen F) r (p :: W) O = (p :: W, O) := if_neg (fun q => by omega)
            rw [e] at hQ
            exact hQ h L_H
          · skip
            refine ⟨?_, ?_⟩
            · first | omega | (unfold xI; omega) | (exfalso; omega)
            refine ⟨?_, ?_⟩
            · first | omega | (unfold xI; omega) | (exfalso; omega)
            refine s_177m (by omega) (x := 10000 + p.1) (mH_wpop L_H) (Or.inr (Or.inr (Or.inr (Or.inr (Or.inr (Or.inl (by rw [show 10000 + p.1 - 10000 = p.1 by omega]; exact w1))))))) (by omega) (fun h1214 L_h1214 => ?_)
            have e : mFl (mLen F) r (p :: W) O = mFl (mLen F) r W (O ++ [10000 + p.1]) := if_pos ⟨by omega, by omega⟩
            rw [e] at hQ
            exact ih (O ++ [10000 + p.1]) _ L_h1214 (by omega) (by rw [List.length_append]; simp only [List.length_cons, List.length_nil]; omega) hQ
  refine U_183 (by omega) r h ?_
  exact key W O h L_H hl hO hQ

theorem U_184 {X : Int × (Int → Int)} {d : Nat} {Q : Int → XH → Prop} (hd : 1 ≤ d) (u : Int) (H : XH) (h : ((xc X d 183 [(2, 67), (0, rkM u)] H (fun (J1217 : Int) (h1216 : XH) => ((0 : Int) ≤ h1216 67 35 ∧ (h1216 67 35 : Int) < 80) ∧ ((0 : Int) ≤ h1216 67 35 ∧ (h1216 67 35 : Int) < 80) ∧ (xI ((h1216 67 35) + 1)) ∧ (xc X d 171 [(2, 67)] (xup (xup (xup h1216 88 (h1216 67 35) u) 89 (h1216 67 35) (h1216 67 32)) 67 35 ((h1216 67 35) + 1)) (fun (J1219 : Int) (h1218 : XH) => Q 0 h1218)))))) : xc X (d + 1) 184 [(2, 67), (0, u)] H Q := by
  refine ⟨rfl, ?_⟩
  show xq X d 184 Q 100000 [(0, (2, 67)), (1, (0, u))] [] H
  refine xq_run [5, 8, 45] 300 ?_
  show xWM (xE X) xMC d 182 [(0, u)] xKZ H _
  refine xc_in (s_182 (by omega) u H  ?_)
  replace h := h
  show xq X d 184 Q 5 [(0, (2, 67)), (1, (0, u))] [(0, rkM u), (2, 67)] H
  refine xq_run [5, 8, 45] 300 ?_
  show xWM (xE X) xMC d 183 [(2, 67), (0, rkM u)] xKZ H _
  refine xc_in (xc_mono (fun J1217 h1216 q_ => ?_) h)
  replace h := q_
  show xq X d 184 Q 8 [(0, (2, 67)), (1, (0, u))] [] h1216
  refine xq_run [5, 8, 45] 300 ?_
  show ((0 : Int) ≤ h1216 67 35 ∧ (h1216 67 35 : Int) < 80) ∧ ((0 : Int) ≤ h1216 67 35 ∧ (h1216 67 35 : Int) < 80) ∧ (xI ((h1216 67 35) + 1)) ∧ xWM (xE X) xMC d 171 [(2, 67)] xKZ (xup (xup (xup h1216 88 (h1216 67 35) u) 89 (h1216 67 35) (h1216 67 32)) 67 35 ((h1216 67 35) + 1)) _
  refine ⟨h.1, ?_⟩
  replace h := h.2
  refine ⟨h.1, ?_⟩
  replace h := h.2
  refine ⟨h.1, ?_⟩
  replace h := h.2
  refine xc_in (xc_mono (fun J1219 h1218 q_ => ?_) h)
  replace h := q_
  show xq X d 184 Q 45 [(0, (2, 67)), (1, (0, u))] [] h1218
  refine xq_run [5, 8, 45] 300 ?_
  show xfR 2 0 ∧ xKZ = xKZ ∧ Q 0 h1218
  exact ⟨trivial, rfl, h⟩

theorem s_184m {X : Int × (Int → Int)} {d : Nat} {Q : Int → XH → Prop} (hd : 5 ≤ d) {t : Int → Int} {H0 : XH} {n T : Int} {B K N E : Int → Int} {st nc i o : Int} {F W : List (Int × Int)} {O : List Int} {C : List (Int × Int)} {k u : Int} {h : XH} (cx : cXp t H0 n T B K N E) (L_H : mHp H0 n T B K N E st nc i o F W O C h) (hk : wtR k u) (hi : i < T) (hF : F.length ≤ 40) (hl : W.length ≤ 60) (hO : O.length + W.length < 400) (hQ : ∀ h1, mHp H0 n T B K N E st nc (i + 1) o F ((k, mLen F) :: (mFl (mLen F) (mRk k) W O).1) (mFl (mLen F) (mRk k) W O).2 C h1 → Q 0 h1) : xc X d 184 [(2, 67), (0, u)] h Q := by
  cases d with
  | zero => omega
  | succ d =>
  have rk := wtR_rk hk
  have fl := mFl_len (d := mLen F) (r := mRk k) W O
  refine U_184 (by omega) u h ?_
  rw [rk]
  refine s_183m (by omega) _ L_H hF hl hO (fun h1220 L_h1220 => ?_)
  have e35 := L_h1220.2.2.2.2.2.1.1
  have e32 := L_h1220.2.2.2.2.1.1
  have L2 := mH_wpush (d := (F.length : Int)) hk L_h1220
  rw [← e35, ← e32] at L2
  refine ⟨?_, ?_⟩
  · first | omega | (unfold xI; omega) | (exfalso; omega)
  refine ⟨?_, ?_⟩
  · first | omega | (unfold xI; omega) | (exfalso; omega)
  refine ⟨?_, ?_⟩
  · first | omega | (unfold xI; omega) | (exfalso; omega)
  refine s_171m (by omega) cx (by first | exact L2 | (rw [e35, e32] at L2 ⊢; exact L2)) (by omega) rfl (fun h1222 L_h1222 => ?_)
  rw [e32] at L_h1222
  exact hQ _ L_h1222
