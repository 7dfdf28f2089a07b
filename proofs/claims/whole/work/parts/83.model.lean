/-! THE PURE LAYER 53: the law is read, the model: its steps -/
def mNc (st : Int) (C : List (Int × Int)) : Int := if st = 4 then (C.length : Int) else (C.length : Int) - 1
def mRl (H0 : XH) (n T : Int) (B K N E : Int → Int) : MS → XH → Prop
  | (st, i, o, F, W, O, C), h => (st ≤ 4 ∧ mHp H0 n T B K N E st (mNc st C) i o F W O C h) ∨ (10 ≤ st ∧ mEr H0 (st - 10) (B i) h)
theorem mRl_er {H0 : XH} {n T : Int} {B K N E : Int → Int} {f i o : Int} {F W : List (Int × Int)} {O : List Int} {C : List (Int × Int)} {h : XH} (hf : 0 ≤ f) (e : mEr H0 f (B i) h) : mRl H0 n T B K N E (mErr f i o F W O C) h := by
  refine Or.inr ⟨by omega, ?_⟩
  rw [show 10 + f - 10 = f by omega]
  exact e
theorem hT_or {n T : Int} {B K N E : Int → Int} {i a c s u : Int} (hK : K T = 21) (h : hTp n T B K N E i a c s u) : (K i = 21 ∧ s = 0) ∨ tkR (K i) (N i) s u := by
  rcases h.2 with q | q
  · exact Or.inr q.2.2.2
  · rw [q.1]
    exact Or.inl ⟨hK, q.2.2⟩

theorem tkA {k v s u : Int} (h : (k = 21 ∧ s = 0) ∨ tkR k v s u) : ((s = 1 ∧ u = 6) ↔ k = 6) ∧ (k = 6 → k = 6) := by
  rcases h with ⟨q1, q2⟩ | ⟨q1, q2, q3⟩ | ⟨q1, q2, q3, q4⟩ | ⟨q2, q1⟩ | ⟨q1, q2, q3⟩
  · refine ⟨?_, ?_⟩ <;> (first | omega | (intro w; omega) | (intro w; unfold wtR; omega) | (intro w; unfold cmR; omega))
  · refine ⟨?_, ?_⟩ <;> (first | omega | (intro w; omega) | (intro w; unfold wtR; omega) | (intro w; unfold cmR; omega))
  · refine ⟨?_, ?_⟩ <;> (first | omega | (intro w; omega) | (intro w; unfold wtR; omega) | (intro w; unfold cmR; omega))
  · rcases q1 with ⟨q1, q3⟩ | ⟨q1, q3⟩ | ⟨q1, q3⟩ | ⟨q1, q3⟩ | ⟨q1, q3⟩ | ⟨q1, q3⟩ | ⟨q1, q3⟩ | ⟨q1, q3⟩ | ⟨q1, q3⟩ | ⟨q1, q3⟩ | ⟨q1, q3⟩ | ⟨q1, q3⟩ | ⟨q1, q3⟩ <;> subst q3 <;> subst q2 <;> (refine ⟨?_, ?_⟩ <;> (first | omega | (intro w; omega) | (intro w; unfold wtR; omega) | (intro w; unfold cmR; omega)))
  · refine ⟨?_, ?_⟩ <;> (first | omega | (intro w; omega) | (intro w; unfold wtR; omega) | (intro w; unfold cmR; omega))

theorem tkB {k v s u : Int} (h : (k = 21 ∧ s = 0) ∨ tkR k v s u) : (s = 2 ↔ k = 20) ∧ (s = 2 → ((v ≤ 9999 ∧ u = v) ∨ (v = 10000 ∧ 10000 ≤ u)) ∧ 0 ≤ u ∧ u ≤ 2000000) ∧ ((s = 1 ∧ 6 < u) ↔ (7 ≤ k ∧ k ≤ 17)) ∧ (s = 1 → u = k) ∧ ((s = 3 ∧ u = 40) ↔ k = 38) ∧ ((s = 3 ∧ u = 45) ↔ k = 35) := by
  rcases h with ⟨q1, q2⟩ | ⟨q1, q2, q3⟩ | ⟨q1, q2, q3, q4⟩ | ⟨q2, q1⟩ | ⟨q1, q2, q3⟩
  · refine ⟨?_, ?_, ?_, ?_, ?_, ?_⟩ <;> (first | omega | (intro w; omega) | (intro w; unfold wtR; omega) | (intro w; unfold cmR; omega))
  · refine ⟨?_, ?_, ?_, ?_, ?_, ?_⟩ <;> (first | omega | (intro w; omega) | (intro w; unfold wtR; omega) | (intro w; unfold cmR; omega))
  · refine ⟨?_, ?_, ?_, ?_, ?_, ?_⟩ <;> (first | omega | (intro w; omega) | (intro w; unfold wtR; omega) | (intro w; unfold cmR; omega))
  · rcases q1 with ⟨q1, q3⟩ | ⟨q1, q3⟩ | ⟨q1, q3⟩ | ⟨q1, q3⟩ | ⟨q1, q3⟩ | ⟨q1, q3⟩ | ⟨q1, q3⟩ | ⟨q1, q3⟩ | ⟨q1, q3⟩ | ⟨q1, q3⟩ | ⟨q1, q3⟩ | ⟨q1, q3⟩ | ⟨q1, q3⟩ <;> subst q3 <;> subst q2 <;> (refine ⟨?_, ?_, ?_, ?_, ?_, ?_⟩ <;> (first | omega | (intro w; omega) | (intro w; unfold wtR; omega) | (intro w; unfold cmR; omega)))
  · refine ⟨?_, ?_, ?_, ?_, ?_, ?_⟩ <;> (first | omega | (intro w; omega) | (intro w; unfold wtR; omega) | (intro w; unfold cmR; omega))

theorem tkC {k v s u : Int} (h : (k = 21 ∧ s = 0) ∨ tkR k v s u) : ((s = 3 ∧ (u = 43 ∨ u = 45 ∨ u = 42 ∨ u = 47)) ↔ (34 ≤ k ∧ k ≤ 37)) ∧ ((34 ≤ k ∧ k ≤ 37) → wtR k u) ∧ ((s = 3 ∧ u = 41) ↔ k = 39) ∧ ((s = 3 ∧ (u = 60 ∨ u = 62 ∨ u = 61 ∨ u = 35 ∨ u = 300 ∨ u = 301)) ↔ ((30 ≤ k ∧ k ≤ 33) ∨ k = 41 ∨ k = 42)) ∧ (((30 ≤ k ∧ k ≤ 33) ∨ k = 41 ∨ k = 42) → cmR k u) ∧ ((s = 3 ∧ u = 59) ↔ k = 40) := by
  rcases h with ⟨q1, q2⟩ | ⟨q1, q2, q3⟩ | ⟨q1, q2, q3, q4⟩ | ⟨q2, q1⟩ | ⟨q1, q2, q3⟩
  · refine ⟨?_, ?_, ?_, ?_, ?_, ?_⟩ <;> (first | omega | (intro w; omega) | (intro w; unfold wtR; omega) | (intro w; unfold cmR; omega))
  · refine ⟨?_, ?_, ?_, ?_, ?_, ?_⟩ <;> (first | omega | (intro w; omega) | (intro w; unfold wtR; omega) | (intro w; unfold cmR; omega))
  · refine ⟨?_, ?_, ?_, ?_, ?_, ?_⟩ <;> (first | omega | (intro w; omega) | (intro w; unfold wtR; omega) | (intro w; unfold cmR; omega))
  · rcases q1 with ⟨q1, q3⟩ | ⟨q1, q3⟩ | ⟨q1, q3⟩ | ⟨q1, q3⟩ | ⟨q1, q3⟩ | ⟨q1, q3⟩ | ⟨q1, q3⟩ | ⟨q1, q3⟩ | ⟨q1, q3⟩ | ⟨q1, q3⟩ | ⟨q1, q3⟩ | ⟨q1, q3⟩ | ⟨q1, q3⟩ <;> subst q3 <;> subst q2 <;> (refine ⟨?_, ?_, ?_, ?_, ?_, ?_⟩ <;> (first | omega | (intro w; omega) | (intro w; unfold wtR; omega) | (intro w; unfold cmR; omega)))
  · refine ⟨?_, ?_, ?_, ?_, ?_, ?_⟩ <;> (first | omega | (intro w; omega) | (intro w; unfold wtR; omega) | (intro w; unfold cmR; omega))

theorem tkD {k v s u : Int} (h : (k = 21 ∧ s = 0) ∨ tkR k v s u) : ((s = 1 ∧ u = 4) ↔ k = 4) ∧ ((s = 1 ∧ u = 5) ↔ k = 5) ∧ ((s = 3 ∧ u = 59) ↔ k = 40) := by
  rcases h with ⟨q1, q2⟩ | ⟨q1, q2, q3⟩ | ⟨q1, q2, q3, q4⟩ | ⟨q2, q1⟩ | ⟨q1, q2, q3⟩
  · refine ⟨?_, ?_, ?_⟩ <;> (first | omega | (intro w; omega) | (intro w; unfold wtR; omega) | (intro w; unfold cmR; omega))
  · refine ⟨?_, ?_, ?_⟩ <;> (first | omega | (intro w; omega) | (intro w; unfold wtR; omega) | (intro w; unfold cmR; omega))
  · refine ⟨?_, ?_, ?_⟩ <;> (first | omega | (intro w; omega) | (intro w; unfold wtR; omega) | (intro w; unfold cmR; omega))
  · rcases q1 with ⟨q1, q3⟩ | ⟨q1, q3⟩ | ⟨q1, q3⟩ | ⟨q1, q3⟩ | ⟨q1, q3⟩ | ⟨q1, q3⟩ | ⟨q1, q3⟩ | ⟨q1, q3⟩ | ⟨q1, q3⟩ | ⟨q1, q3⟩ | ⟨q1, q3⟩ | ⟨q1, q3⟩ | ⟨q1, q3⟩ <;> subst q3 <;> subst q2 <;> (refine ⟨?_, ?_, ?_⟩ <;> (first | omega | (intro w; omega) | (intro w; unfold wtR; omega) | (intro w; unfold cmR; omega)))
  · refine ⟨?_, ?_, ?_⟩ <;> (first | omega | (intro w; omega) | (intro w; unfold wtR; omega) | (intro w; unfold cmR; omega))

theorem tkE {k v s u : Int} (h : (k = 21 ∧ s = 0) ∨ tkR k v s u) : ((s = 1 ∧ u ≤ 3) ↔ (0 ≤ k ∧ k ≤ 3)) ∧ (s = 1 → u = k ∧ 0 ≤ k ∧ k ≤ 17) := by
  rcases h with ⟨q1, q2⟩ | ⟨q1, q2, q3⟩ | ⟨q1, q2, q3, q4⟩ | ⟨q2, q1⟩ | ⟨q1, q2, q3⟩
  · refine ⟨?_, ?_⟩ <;> (first | omega | (intro w; omega) | (intro w; unfold wtR; omega) | (intro w; unfold cmR; omega))
  · refine ⟨?_, ?_⟩ <;> (first | omega | (intro w; omega) | (intro w; unfold wtR; omega) | (intro w; unfold cmR; omega))
  · refine ⟨?_, ?_⟩ <;> (first | omega | (intro w; omega) | (intro w; unfold wtR; omega) | (intro w; unfold cmR; omega))
  · rcases q1 with ⟨q1, q3⟩ | ⟨q1, q3⟩ | ⟨q1, q3⟩ | ⟨q1, q3⟩ | ⟨q1, q3⟩ | ⟨q1, q3⟩ | ⟨q1, q3⟩ | ⟨q1, q3⟩ | ⟨q1, q3⟩ | ⟨q1, q3⟩ | ⟨q1, q3⟩ | ⟨q1, q3⟩ | ⟨q1, q3⟩ <;> subst q3 <;> subst q2 <;> (refine ⟨?_, ?_⟩ <;> (first | omega | (intro w; omega) | (intro w; unfold wtR; omega) | (intro w; unfold cmR; omega)))
  · refine ⟨?_, ?_⟩ <;> (first | omega | (intro w; omega) | (intro w; unfold wtR; omega) | (intro w; unfold cmR; omega))

theorem U_187 {X : Int × (Int → Int)} {d : Nat} {Q : Int → XH → Prop} (hd : 0 ≤ d) (H : XH) (h : (xc X d 183 [(2, 67), (0, 1)] H (fun (J1225 : Int) (h1224 : XH) => (xc X d 177 [(2, 67), (0, 408), (0, 0)] (xup h1224 67 32 0) (fun (J1227 : Int) (h1226 : XH) => (xI ((h1226 67 39) + 1)) ∧ (xc X d 171 [(2, 67)] (xup h1226 67 39 ((h1226 67 39) + 1)) (fun (J1229 : Int) (h1228 : XH) => Q 0 (xup h1228 67 38 4)))))))) : xc X (d + 1) 187 [(2, 67)] H Q := by
  refine ⟨rfl, ?_⟩
  show xq X d 187 Q 100000 [(0, (2, 67))] [] H
  refine xq_run [5, 18, 32] 300 ?_
  show xWM (xE X) xMC d 183 [(2, 67), (0, 1)] xKZ H _
  refine xc_in (xc_mono (fun J1225 h1224 q_ => ?_) h)
  replace h := q_
  show xq X d 187 Q 5 [(0, (2, 67))] [] h1224
  refine xq_run [5, 18, 32] 300 ?_
  show xWM (xE X) xMC d 177 [(2, 67), (0, 408), (0, 0)] xKZ (xup h1224 67 32 0) _
  refine xc_in (xc_mono (fun J1227 h1226 q_ => ?_) h)
  replace h := q_
  show xq X d 187 Q 18 [(0, (2, 67))] [] h1226
  refine xq_run [5, 18, 32] 300 ?_
  show (xI ((h1226 67 39) + 1)) ∧ xWM (xE X) xMC d 171 [(2, 67)] xKZ (xup h1226 67 39 ((h1226 67 39) + 1)) _
  refine ⟨h.1, ?_⟩
  replace h := h.2
  refine xc_in (xc_mono (fun J1229 h1228 q_ => ?_) h)
  replace h := q_
  show xq X d 187 Q 32 [(0, (2, 67))] [] h1228
  refine xq_run [5, 18, 32] 300 ?_
  show xfR 2 0 ∧ xKZ = xKZ ∧ Q 0 (xup h1228 67 38 4)
  exact ⟨trivial, rfl, h⟩

theorem s_187m {X : Int × (Int → Int)} {d : Nat} {Q : Int → XH → Prop} (hd : 5 ≤ d) {t : Int → Int} {H0 : XH} {n T : Int} {B K N E : Int → Int} {st nc i o : Int} {F W : List (Int × Int)} {O : List Int} {C : List (Int × Int)}  {h : XH} (cx : cXp t H0 n T B K N E) (L_H : mHp H0 n T B K N E st nc i o F W O C h) (hi : i < T) (hF : F.length ≤ 40) (hl : W.length ≤ 60) (hO : O.length + W.length < 399) (hC : 1 ≤ C.length ∧ C.length ≤ 10) (hn : nc ≤ 9 ∧ -5 ≤ nc) (hQ : ∀ h1, mHp H0 n T B K N E 4 (nc + 1) (i + 1) o [] (mFl (mLen F) 1 W O).1 ((mFl (mLen F) 1 W O).2 ++ [10000 + (mLst C).1]) C h1 → Q 0 h1) : xc X d 187 [(2, 67)] h Q := by
  cases d with
  | zero => omega
  | succ d =>
  have fl := mFl_len (d := mLen F) (r := 1) W O
  have cl : 0 ≤ (mLst C).1 ∧ (mLst C).1 ≤ 3 := by
    have hm : mLst C ∈ C := by
      unfold mLst
      cases C with
      | nil => exact absurd hC.1 (by decide)
      | cons a b =>
        rw [List.getLastD_cons]
        cases hb : b.getLast? with
        | none =>
          rw [List.getLast?_eq_none_iff] at hb
          rw [hb]
          exact List.mem_cons_self
        | some x =>
          have e : b.getLastD a = x := by
            rw [List.getLastD_eq_getLast?, hb]
            rfl
          rw [e]
          exact List.mem_cons_of_mem _ (List.mem_of_getLast? hb)
    exact L_H.2.2.2.2.2.2.2.2.1.2 _ hm
  refine U_187 (by omega) h ?_
  refine s_183m (by omega) _ L_H hF hl (by omega) (fun h1230 L_h1230 => ?_)
  refine s_177m (by omega) (x := 10000 + (mLst C).1) (mH_clr L_h1230) (by unfold orR; omega) (by omega) (fun h1232 L_h1232 => ?_)
  have e39 := L_h1232.2.2.2.2.2.2.2.1
  refine ⟨?_, ?_⟩
  · first | omega | (unfold xI; omega) | (rw [e39]; unfold xI; omega) | (exfalso; omega)
  refine s_171m (by omega) cx (st := st) (nc := nc + 1) (by rw [e39]; exact mH_39 _ L_h1232) (by omega) rfl (fun h1234 L_h1234 => ?_)
  exact hQ _ (mH_38 _ L_h1234)

theorem U_176 {X : Int × (Int → Int)} {d : Nat} {Q : Int → XH → Prop} (hd : 1 ≤ d) (H : XH) (h : ((((H 67 27 = 1 ∧ H 67 28 = 6)) → (xc X d 175 [(2, 67), (0, 3)] H (fun (J1239 : Int) (h1238 : XH) => Q 0 h1238))) ∧ (¬ ((H 67 27 = 1 ∧ H 67 28 = 6)) → (xc X d 174 [(2, 67), (0, 4)] H (fun (J1237 : Int) (h1236 : XH) => Q 0 (xup h1236 67 38 1)))))) : xc X (d + 1) 176 [(2, 67)] H Q := by
  refine ⟨rfl, ?_⟩
  show xq X d 176 Q 100000 [(0, (2, 67))] [] H
  refine xq_run [6, 14, 23] 300 ?_
  show xWM (xE X) xMC d 172 [(2, 67), (0, 6)] xKZ H _
  refine xc_in (s_172 (by omega) 6 H  ?_)
  replace h := h
  show xq X d 176 Q 6 [(0, (2, 67))] [(0, xb (H 67 27 = 1 ∧ H 67 28 = 6))] H
  refine xq_run [6, 14, 23] 300 ?_
  show ((xb (H 67 27 = 1 ∧ H 67 28 = 6) = 0) → xWM (xE X) xMC d 174 [(2, 67), (0, 4)] xKZ H _) ∧ (¬ (xb (H 67 27 = 1 ∧ H 67 28 = 6) = 0) → xWM (xE X) xMC d 175 [(2, 67), (0, 3)] xKZ H _)
  refine ⟨fun k_ => ?_, fun k_ => ?_⟩
  · replace h := h.2 (xbe_0.mp k_)
    refine xc_in (xc_mono (fun J1237 h1236 q_ => ?_) h)
    replace h := q_
    show xq X d 176 Q 23 [(0, (2, 67))] [] h1236
    refine xq_run [6, 14, 23] 300 ?_
    show xfR 2 0 ∧ xKZ = xKZ ∧ Q 0 (xup h1236 67 38 1)
    exact ⟨trivial, rfl, h⟩
  · replace h := h.1 (xbe_1.mp k_)
    refine xc_in (xc_mono (fun J1239 h1238 q_ => ?_) h)
    replace h := q_
    show xq X d 176 Q 14 [(0, (2, 67))] [(0, J1239)] h1238
    refine xq_run [6, 14, 23] 300 ?_
    show xfR 2 0 ∧ xKZ = xKZ ∧ Q 0 h1238
    exact ⟨trivial, rfl, h⟩

theorem s_176m {X : Int × (Int → Int)} {d : Nat} {Q : Int → XH → Prop} (hd : 7 ≤ d) {t : Int → Int} {H0 : XH} {n T : Int} {B K N E : Int → Int} {i o : Int} {F W : List (Int × Int)} {O : List Int} {C : List (Int × Int)} {h : XH} (cx : cXp t H0 n T B K N E) (L_H : mHp H0 n T B K N E 0 (mNc 0 C) i o F W O C h) (ok : mOk K T (0, i, o, F, W, O, C)) (hQ : ∀ h1, mRl H0 n T B K N E (mS0 K i o F W O C) h1 → Q 0 h1) : xc X d 176 [(2, 67)] h Q := by
  cases d with
  | zero => omega
  | succ d =>
  have hK : K T = 21 := cx.1.2.2.2.2.2.2
  have tk := hT_or hK L_H.2.1
  have iT : ¬ K i = 21 → i < T := fun z => by
    have := L_H.2.1.1
    by_cases y : i = T
    · exact absurd (by rw [y]; exact hK) z
    · omega
  obtain ⟨-, k4, i1, o1, F1, W1, O1, C1, C2, fb⟩ := ok
  have fp : fP F := by
    rcases fb with q | q
    · exact absurd q.1 (by decide)
    · exact q
  have C2 := C2 (by decide)
  have fA := (tkA tk).1
  refine U_176 (by omega) h ?_
  refine ⟨fun c1 => ?_, fun c1 => ?_⟩
  · skip
    have k6 := fA.mp (by assumption)
    refine s_175m (by omega) _ cx L_H (by decide) (by omega) (by omega) o1 (fun J1243 h1242 rr => ?_)
    refine hQ _ ?_
    unfold mS0
    rw [if_pos (fA.mp (by assumption))]
    rcases rr.2 with ⟨q, z⟩ | ⟨q, z⟩
    · rw [if_pos q]
      exact mRl_er (by decide) z
    · rw [if_neg q]
      exact Or.inl ⟨by decide, z⟩
  · skip
    refine s_174m (by omega) _ L_H (by decide) (by omega) (fun h1240 L_h1240 => ?_)
    refine hQ _ ?_
    unfold mS0
    rw [if_neg (fun z => absurd (fA.mpr z) (by assumption))]
    exact Or.inl ⟨by decide, mH_38 _ L_h1240⟩

theorem U_181 {X : Int × (Int → Int)} {d : Nat} {Q : Int → XH → Prop} (hd : 1 ≤ d) (H : XH) (h : ((¬ H 67 27 = 2) → ((¬ H 67 27 = 1) → ((((H 67 27 = 3 ∧ H 67 28 = 40)) → (xc X d 175 [(2, 67), (0, 6)] H (fun (J1249 : Int) (h1248 : XH) => Q 0 h1248))) ∧ (¬ ((H 67 27 = 3 ∧ H 67 28 = 40)) → ((((H 67 27 = 3 ∧ H 67 28 = 45)) → (xc X d 175 [(2, 67), (0, 7)] H (fun (J1247 : Int) (h1246 : XH) => Q 0 h1246))) ∧ (¬ ((H 67 27 = 3 ∧ H 67 28 = 45)) → (xc X d 173 [(2, 67), (0, 1)] H (fun (J1245 : Int) (h1244 : XH) => Q 0 h1244))))))) ∧ (¬ (¬ H 67 27 = 1) → ((H 67 28 ≤ 6) → ((((H 67 27 = 3 ∧ H 67 28 = 40)) → (xc X d 175 [(2, 67), (0, 6)] H (fun (J1255 : Int) (h1254 : XH) => Q 0 h1254))) ∧ (¬ ((H 67 27 = 3 ∧ H 67 28 = 40)) → ((((H 67 27 = 3 ∧ H 67 28 = 45)) → (xc X d 175 [(2, 67), (0, 7)] H (fun (J1253 : Int) (h1252 : XH) => Q 0 h1252))) ∧ (¬ ((H 67 27 = 3 ∧ H 67 28 = 45)) → (xc X d 173 [(2, 67), (0, 1)] H (fun (J1251 : Int) (h1250 : XH) => Q 0 h1250))))))) ∧ (¬ (H 67 28 ≤ 6) → (xI ((H 67 28) - 6)) ∧ (xI (((H 67 28) - 6) - 1)) ∧ (xc X d 177 [(2, 67), (0, 401), (0, ((H 67 28) - 6) - 1)] H (fun (J1257 : Int) (h1256 : XH) => (xc X d 171 [(2, 67)] h1256 (fun (J1259 : Int) (h1258 : XH) => (xc X d 179 [(2, 67)] h1258 (fun (J1261 : Int) (h1260 : XH) => Q 0 h1260))))))))) ∧ (¬ (¬ H 67 27 = 2) → ((H 67 28 ≤ 9999) → (xc X d 177 [(2, 67), (0, 400), (0, H 67 28)] H (fun (J1263 : Int) (h1262 : XH) => (xc X d 171 [(2, 67)] h1262 (fun (J1265 : Int) (h1264 : XH) => (xc X d 179 [(2, 67)] h1264 (fun (J1267 : Int) (h1266 : XH) => Q 0 h1266))))))) ∧ (¬ (H 67 28 ≤ 9999) → (xc X d 173 [(2, 67), (0, 2)] H (fun (J1269 : Int) (h1268 : XH) => Q 0 h1268))))) : xc X (d + 1) 181 [(2, 67)] H Q := by
  refine ⟨rfl, ?_⟩
  show xq X d 181 Q 100000 [(0, (2, 67))] [] H
  refine xq_run [23, 35, 39, 43, 79, 83, 87, 96, 105, 115, 124, 133] 300 ?_
  show ((¬ H 67 27 = 2) → ((¬ H 67 27 = 1) → xWM (xE X) xMC d 180 [(2, 67), (0, 40)] xKZ H _) ∧ (¬ (¬ H 67 27 = 1) → ((H 67 28 ≤ 6) → xWM (xE X) xMC d 180 [(2, 67), (0, 40)] xKZ H _) ∧ (¬ (H 67 28 ≤ 6) → (xI ((H 67 28) - 6)) ∧ (xI (((H 67 28) - 6) - 1)) ∧ xWM (xE X) xMC d 177 [(2, 67), (0, 401), (0, ((H 67 28) - 6) - 1)] xKZ H _))) ∧ (¬ (¬ H 67 27 = 2) → ((H 67 28 ≤ 9999) → xWM (xE X) xMC d 177 [(2, 67), (0, 400), (0, H 67 28)] xKZ H _) ∧ (¬ (H 67 28 ≤ 9999) → xWM (xE X) xMC d 173 [(2, 67), (0, 2)] xKZ H _))
  refine ⟨fun k_ => ?_, fun k_ => ?_⟩
  · replace h := h.1 k_
    refine ⟨fun k_ => ?_, fun k_ => ?_⟩
    · replace h := h.1 k_
      refine xc_in (s_180 (by omega) 40 H  ?_)
      replace h := h
      show xq X d 181 Q 96 [(0, (2, 67))] [(0, xb (H 67 27 = 3 ∧ H 67 28 = 40))] H
      refine xq_run [23, 35, 39, 43, 79, 83, 87, 96, 105, 115, 124, 133] 300 ?_
      show ((xb (H 67 27 = 3 ∧ H 67 28 = 40) = 0) → xWM (xE X) xMC d 180 [(2, 67), (0, 45)] xKZ H _) ∧ (¬ (xb (H 67 27 = 3 ∧ H 67 28 = 40) = 0) → xWM (xE X) xMC d 175 [(2, 67), (0, 6)] xKZ H _)
      refine ⟨fun k_ => ?_, fun k_ => ?_⟩
      · replace h := h.2 (xbe_0.mp k_)
        refine xc_in (s_180 (by omega) 45 H  ?_)
        replace h := h
        show xq X d 181 Q 115 [(0, (2, 67))] [(0, xb (H 67 27 = 3 ∧ H 67 28 = 45))] H
        refine xq_run [23, 35, 39, 43, 79, 83, 87, 96, 105, 115, 124, 133] 300 ?_
        show ((xb (H 67 27 = 3 ∧ H 67 28 = 45) = 0) → xWM (xE X) xMC d 173 [(2, 67), (0, 1)] xKZ H _) ∧ (¬ (xb (H 67 27 = 3 ∧ H 67 28 = 45) = 0) → xWM (xE X) xMC d 175 [(2, 67), (0, 7)] xKZ H _)
        refine ⟨fun k_ => ?_, fun k_ => ?_⟩
        · replace h := h.2 (xbe_0.mp k_)
          refine xc_in (xc_mono (fun J1245 h1244 q_ => ?_) h)
          replace h := q_
          show xq X d 181 Q 133 [(0, (2, 67))] [] h1244
          refine xq_run [23, 35, 39, 43, 79, 83, 87, 96, 105, 115, 124, 133] 300 ?_
          show xfR 2 0 ∧ xKZ = xKZ ∧ Q 0 h1244
          exact ⟨trivial, rfl, h⟩
        · replace h := h.1 (xbe_1.mp k_)
          refine xc_in (xc_mono (fun J1247 h1246 q_ => ?_) h)
          replace h := q_
          show xq X d 181 Q 124 [(0, (2, 67))] [(0, J1247)] h1246
          refine xq_run [23, 35, 39, 43, 79, 83, 87, 96, 105, 115, 124, 133] 300 ?_
          show xq X d 181 Q 133 [(1, (0, J1247)), (0, (2, 67))] [] h1246
          show xq X d 181 Q 133 [(1, (0, J1247)), (0, (2, 67))] [] h1246
          refine xq_run [23, 35, 39, 43, 79, 83, 87, 96, 105, 115, 124, 133] 300 ?_
          show xfR 2 0 ∧ xKZ = xKZ ∧ Q 0 h1246
          exact ⟨trivial, rfl, h⟩
      · replace h := h.1 (xbe_1.mp k_)
        refine xc_in (xc_mono (fun J1249 h1248 q_ => ?_) h)
        replace h := q_
        show xq X d 181 Q 105 [(0, (2, 67))] [(0, J1249)] h1248
        refine xq_run [23, 35, 39, 43, 79, 83, 87, 96, 105, 115, 124, 133] 300 ?_
        show xq X d 181 Q 133 [(1, (0, J1249)), (0, (2, 67))] [] h1248
        show xq X d 181 Q 133 [(1, (0, J1249)), (0, (2, 67))] [] h1248
        refine xq_run [23, 35, 39, 43, 79, 83, 87, 96, 105, 115, 124, 133] 300 ?_
        show xfR 2 0 ∧ xKZ = xKZ ∧ Q 0 h1248
        exact ⟨trivial, rfl, h⟩
    · replace h := h.2 k_
      refine ⟨fun k_ => ?_, fun k_ => ?_⟩
      · replace h := h.1 k_
        refine xc_in (s_180 (by omega) 40 H  ?_)
        replace h := h
        show xq X d 181 Q 96 [(0, (2, 67))] [(0, xb (H 67 27 = 3 ∧ H 67 28 = 40))] H
        refine xq_run [23, 35, 39, 43, 79, 83, 87, 96, 105, 115, 124, 133] 300 ?_
        show ((xb (H 67 27 = 3 ∧ H 67 28 = 40) = 0) → xWM (xE X) xMC d 180 [(2, 67), (0, 45)] xKZ H _) ∧ (¬ (xb (H 67 27 = 3 ∧ H 67 28 = 40) = 0) → xWM (xE X) xMC d 175 [(2, 67), (0, 6)] xKZ H _)
        refine ⟨fun k_ => ?_, fun k_ => ?_⟩
        · replace h := h.2 (xbe_0.mp k_)
          refine xc_in (s_180 (by omega) 45 H  ?_)
          replace h := h
          show xq X d 181 Q 115 [(0, (2, 67))] [(0, xb (H 67 27 = 3 ∧ H 67 28 = 45))] H
          refine xq_run [23, 35, 39, 43, 79, 83, 87, 96, 105, 115, 124, 133] 300 ?_
          show ((xb (H 67 27 = 3 ∧ H 67 28 = 45) = 0) → xWM (xE X) xMC d 173 [(2, 67), (0, 1)] xKZ H _) ∧ (¬ (xb (H 67 27 = 3 ∧ H 67 28 = 45) = 0) → xWM (xE X) xMC d 175 [(2, 67), (0, 7)] xKZ H _)
          refine ⟨fun k_ => ?_, fun k_ => ?_⟩
          · replace h := h.2 (xbe_0.mp k_)
            refine xc_in (xc_mono (fun J1251 h1250 q_ => ?_) h)
            replace h := q_
            show xq X d 181 Q 133 [(0, (2, 67))] [] h1250
            refine xq_run [23, 35, 39, 43, 79, 83, 87, 96, 105, 115, 124, 133] 300 ?_
            show xfR 2 0 ∧ xKZ = xKZ ∧ Q 0 h1250
            exact ⟨trivial, rfl, h⟩
          · replace h := h.1 (xbe_1.mp k_)
            refine xc_in (xc_mono (fun J1253 h1252 q_ => ?_) h)
            replace h := q_
            show xq X d 181 Q 124 [(0, (2, 67))] [(0, J1253)] h1252
            refine xq_run [23, 35, 39, 43, 79, 83, 87, 96, 105, 115, 124, 133] 300 ?_
            show xq X d 181 Q 133 [(1, (0, J1253)), (0, (2, 67))] [] h1252
            show xq X d 181 Q 133 [(1, (0, J1253)), (0, (2, 67))] [] h1252
            refine xq_run [23, 35, 39, 43, 79, 83, 87, 96, 105, 115, 124, 133] 300 ?_
            show xfR 2 0 ∧ xKZ = xKZ ∧ Q 0 h1252
            exact ⟨trivial, rfl, h⟩
        · replace h := h.1 (xbe_1.mp k_)
          refine xc_in (xc_mono (fun J1255 h1254 q_ => ?_) h)
          replace h := q_
          show xq X d 181 Q 105 [(0, (2, 67))] [(0, J1255)] h1254
          refine xq_run [23, 35, 39, 43, 79, 83, 87, 96, 105, 115, 124, 133] 300 ?_
          show xq X d 181 Q 133 [(1, (0, J1255)), (0, (2, 67))] [] h1254
          show xq X d 181 Q 133 [(1, (0, J1255)), (0, (2, 67))] [] h1254
          refine xq_run [23, 35, 39, 43, 79, 83, 87, 96, 105, 115, 124, 133] 300 ?_
          show xfR 2 0 ∧ xKZ = xKZ ∧ Q 0 h1254
          exact ⟨trivial, rfl, h⟩
      · replace h := h.2 k_
        refine ⟨h.1, ?_⟩
        replace h := h.2
        refine ⟨h.1, ?_⟩
        replace h := h.2
        refine xc_in (xc_mono (fun J1257 h1256 q_ => ?_) h)
        replace h := q_
        show xq X d 181 Q 79 [(0, (2, 67))] [] h1256
        refine xq_run [23, 35, 39, 43, 79, 83, 87, 96, 105, 115, 124, 133] 300 ?_
        show xWM (xE X) xMC d 171 [(2, 67)] xKZ h1256 _
        refine xc_in (xc_mono (fun J1259 h1258 q_ => ?_) h)
        replace h := q_
        show xq X d 181 Q 83 [(0, (2, 67))] [] h1258
        refine xq_run [23, 35, 39, 43, 79, 83, 87, 96, 105, 115, 124, 133] 300 ?_
        show xWM (xE X) xMC d 179 [(2, 67)] xKZ h1258 _
        refine xc_in (xc_mono (fun J1261 h1260 q_ => ?_) h)
        replace h := q_
        show xq X d 181 Q 87 [(0, (2, 67))] [] h1260
        refine xq_run [23, 35, 39, 43, 79, 83, 87, 96, 105, 115, 124, 133] 300 ?_
        show xq X d 181 Q 133 [(0, (2, 67))] [] h1260
        show xq X d 181 Q 133 [(0, (2, 67))] [] h1260
        refine xq_run [23, 35, 39, 43, 79, 83, 87, 96, 105, 115, 124, 133] 300 ?_
        show xfR 2 0 ∧ xKZ = xKZ ∧ Q 0 h1260
        exact ⟨trivial, rfl, h⟩
  · replace h := h.2 k_
    refine ⟨fun k_ => ?_, fun k_ => ?_⟩
    · replace h := h.1 k_
      refine xc_in (xc_mono (fun J1263 h1262 q_ => ?_) h)
      replace h := q_
      show xq X d 181 Q 35 [(0, (2, 67))] [] h1262
      refine xq_run [23, 35, 39, 43, 79, 83, 87, 96, 105, 115, 124, 133] 300 ?_
      show xWM (xE X) xMC d 171 [(2, 67)] xKZ h1262 _
      refine xc_in (xc_mono (fun J1265 h1264 q_ => ?_) h)
      replace h := q_
      show xq X d 181 Q 39 [(0, (2, 67))] [] h1264
      refine xq_run [23, 35, 39, 43, 79, 83, 87, 96, 105, 115, 124, 133] 300 ?_
      show xWM (xE X) xMC d 179 [(2, 67)] xKZ h1264 _
      refine xc_in (xc_mono (fun J1267 h1266 q_ => ?_) h)
      replace h := q_
      show xq X d 181 Q 43 [(0, (2, 67))] [] h1266
      refine xq_run [23, 35, 39, 43, 79, 83, 87, 96, 105, 115, 124, 133] 300 ?_
      show xq X d 181 Q 133 [(0, (2, 67))] [] h1266
      show xq X d 181 Q 133 [(0, (2, 67))] [] h1266
      refine xq_run [23, 35, 39, 43, 79, 83, 87, 96, 105, 115, 124, 133] 300 ?_
      show xfR 2 0 ∧ xKZ = xKZ ∧ Q 0 h1266
      exact ⟨trivial, rfl, h⟩
    · replace h := h.2 k_
      refine xc_in (xc_mono (fun J1269 h1268 q_ => ?_) h)
      replace h := q_
      show xq X d 181 Q 23 [(0, (2, 67))] [] h1268
      refine xq_run [23, 35, 39, 43, 79, 83, 87, 96, 105, 115, 124, 133] 300 ?_
      show xfR 2 0 ∧ xKZ = xKZ ∧ Q 0 h1268
      exact ⟨trivial, rfl, h⟩

theorem s_181m {X : Int × (Int → Int)} {d : Nat} {Q : Int → XH → Prop} (hd : 7 ≤ d) {t : Int → Int} {H0 : XH} {n T : Int} {B K N E : Int → Int} {i o : Int} {F W : List (Int × Int)} {O : List Int} {C : List (Int × Int)} {h : XH} (cx : cXp t H0 n T B K N E) (L_H : mHp H0 n T B K N E 1 (mNc 1 C) i o F W O C h) (ok : mOk K T (1, i, o, F, W, O, C)) (hQ : ∀ h1, mRl H0 n T B K N E (mS1 K N i o F W O C) h1 → Q 0 h1) : xc X d 181 [(2, 67)] h Q := by
  cases d with
  | zero => omega
  | succ d =>
  have hK : K T = 21 := cx.1.2.2.2.2.2.2
  have tk := hT_or hK L_H.2.1
  have iT : ¬ K i = 21 → i < T := fun z => by
    have := L_H.2.1.1
    by_cases y : i = T
    · exact absurd (by rw [y]; exact hK) z
    · omega
  obtain ⟨-, k4, i1, o1, F1, W1, O1, C1, C2, fb⟩ := ok
  have fp : fP F := by
    rcases fb with q | q
    · exact absurd q.1 (by decide)
    · exact q
  have C2 := C2 (by decide)
  obtain ⟨f1, f2, f3, f4, f5, f6⟩ := tkB tk
  refine U_181 (by omega) h ?_
  refine ⟨fun c1 => ?_, fun c1 => ?_⟩
  · skip
    refine ⟨fun c2 => ?_, fun c2 => ?_⟩
    · skip
      refine ⟨fun c3 => ?_, fun c3 => ?_⟩
      · skip
        have kk := f5.mp (by assumption)
        refine s_175m (by omega) _ cx L_H (by decide) (by omega) (by omega) o1 (fun J1275 h1274 rr => ?_)
        have k20 : ¬ K i = 20 := by omega
        have kw : ¬ (7 ≤ K i ∧ K i ≤ 17) := fun z => by have := f3.mpr z; omega
        refine hQ _ ?_
        unfold mS1
        rw [if_neg k20, if_neg kw, if_pos kk]
        rcases rr.2 with ⟨q, z⟩ | ⟨q, z⟩
        · rw [if_pos q]
          exact mRl_er (by decide) z
        · rw [if_neg q]
          exact Or.inl ⟨by decide, z⟩
      · skip
        refine ⟨fun c4 => ?_, fun c4 => ?_⟩
        · skip
          have kk := f6.mp (by assumption)
          refine s_175m (by omega) _ cx L_H (by decide) (by omega) (by omega) o1 (fun J1273 h1272 rr => ?_)
          have k20 : ¬ K i = 20 := by omega
          have kw : ¬ (7 ≤ K i ∧ K i ≤ 17) := fun z => by have := f3.mpr z; omega
          refine hQ _ ?_
          unfold mS1
          rw [if_neg k20, if_neg kw, if_neg (by omega), if_pos kk]
          rcases rr.2 with ⟨q, z⟩ | ⟨q, z⟩
          · rw [if_pos q]
            exact mRl_er (by decide) z
          · rw [if_neg q]
            exact Or.inl ⟨by decide, z⟩
        · skip
          refine s_173m (by omega) _ cx L_H (fun h1270 L_h1270 => ?_)
          have k20 : ¬ K i = 20 := fun z => absurd (f1.mpr z) (by assumption)
          have kw : ¬ (7 ≤ K i ∧ K i ≤ 17) := fun z => by have := f3.mpr z; omega
          have k38 : ¬ K i = 38 := fun z => absurd (f5.mpr z) (by assumption)
          have k35 : ¬ K i = 35 := fun z => absurd (f6.mpr z) (by assumption)
          refine hQ _ ?_
          unfold mS1
          rw [if_neg k20, if_neg kw, if_neg k38, if_neg k35]
          exact mRl_er (by decide) L_h1270
    · skip
      refine ⟨fun c5 => ?_, fun c5 => ?_⟩
      · skip
        refine ⟨fun c6 => ?_, fun c6 => ?_⟩
        · skip
          have kk := f5.mp (by assumption)
          refine s_175m (by omega) _ cx L_H (by decide) (by omega) (by omega) o1 (fun J1281 h1280 rr => ?_)
          have k20 : ¬ K i = 20 := by omega
          have kw : ¬ (7 ≤ K i ∧ K i ≤ 17) := fun z => by have := f3.mpr z; omega
          refine hQ _ ?_
          unfold mS1
          rw [if_neg k20, if_neg kw, if_pos kk]
          rcases rr.2 with ⟨q, z⟩ | ⟨q, z⟩
          · rw [if_pos q]
            exact mRl_er (by decide) z
          · rw [if_neg q]
            exact Or.inl ⟨by decide, z⟩
        · skip
          refine ⟨fun c7 => ?_, fun c7 => ?_⟩
          · skip
            have kk := f6.mp (by assumption)
            refine s_175m (by omega) _ cx L_H (by decide) (by omega) (by omega) o1 (fun J1279 h1278 rr => ?_)
            have k20 : ¬ K i = 20 := by omega
            have kw : ¬ (7 ≤ K i ∧ K i ≤ 17) := fun z => by have := f3.mpr z; omega
            refine hQ _ ?_
            unfold mS1
            rw [if_neg k20, if_neg kw, if_neg (by omega), if_pos kk]
            rcases rr.2 with ⟨q, z⟩ | ⟨q, z⟩
            · rw [if_pos q]
              exact mRl_er (by decide) z
            · rw [if_neg q]
              exact Or.inl ⟨by decide, z⟩
          · skip
            refine s_173m (by omega) _ cx L_H (fun h1276 L_h1276 => ?_)
            have k20 : ¬ K i = 20 := fun z => absurd (f1.mpr z) (by assumption)
            have kw : ¬ (7 ≤ K i ∧ K i ≤ 17) := fun z => by have := f3.mpr z; omega
            have k38 : ¬ K i = 38 := fun z => absurd (f5.mpr z) (by assumption)
            have k35 : ¬ K i = 35 := fun z => absurd (f6.mpr z) (by assumption)
            refine hQ _ ?_
            unfold mS1
            rw [if_neg k20, if_neg kw, if_neg k38, if_neg k35]
            exact mRl_er (by decide) L_h1276
      · skip
        refine ⟨?_, ?_⟩
        · first | omega | (unfold xI; omega) | (have f4 := f4 (by omega); have f3 := f3.mp (by omega); unfold xI; omega) | (exfalso; omega)
        refine ⟨?_, ?_⟩
        · first | omega | (unfold xI; omega) | (have f4 := f4 (by omega); have f3 := f3.mp (by omega); unfold xI; omega) | (exfalso; omega)
        have kw := f3.mp (by omega)
        have f4 := f4 (by omega)
        refine s_177m (by omega) (x := 10000 + K i) L_H (by unfold orR; omega) (by omega) (fun h1282 L_h1282 => ?_)
        refine s_171m (by omega) cx L_h1282 (by omega) rfl (fun h1284 L_h1284 => ?_)
        refine s_179m (by omega) L_h1284 fp (by omega) (by rw [List.length_append]; simp only [List.length_cons, List.length_nil]; omega) (by omega) (fun h1286 L_h1286 => ?_)
        refine hQ _ ?_
        unfold mS1 mOne
        rw [if_neg (by omega), if_pos kw]
        exact Or.inl ⟨by decide, L_h1286⟩
  · skip
    refine ⟨fun c8 => ?_, fun c8 => ?_⟩
    · skip
      have k20 := f1.mp (by omega)
      have f2 := f2 (by omega)
      refine s_177m (by omega) (x := N i) L_H (by unfold orR; omega) (by omega) (fun h1288 L_h1288 => ?_)
      refine s_171m (by omega) cx L_h1288 (by omega) rfl (fun h1290 L_h1290 => ?_)
      refine s_179m (by omega) L_h1290 fp (by omega) (by rw [List.length_append]; simp only [List.length_cons, List.length_nil]; omega) (by omega) (fun h1292 L_h1292 => ?_)
      refine hQ _ ?_
      unfold mS1 mOne
      rw [if_pos k20, if_neg (by omega)]
      exact Or.inl ⟨by decide, L_h1292⟩
    · skip
      refine s_173m (by omega) _ cx L_H (fun h1294 L_h1294 => ?_)
      refine hQ _ ?_
      have k20 := f1.mp (by omega)
      have f2 := f2 (by omega)
      unfold mS1
      rw [if_pos k20, if_pos (by omega)]
      exact mRl_er (by decide) L_h1294
