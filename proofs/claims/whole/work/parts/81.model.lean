/-! THE PURE LAYER 51: the law is read, the model: its parts -/
theorem U_172 {X : Int × (Int → Int)} {d : Nat} {Q : Int → XH → Prop} (hd : 0 ≤ d) (w : Int) (H : XH) (h : ((¬ H 67 27 = 1) → Q 0 H) ∧ (¬ (¬ H 67 27 = 1) → ((¬ H 67 28 = w) → Q 0 H) ∧ (¬ (¬ H 67 28 = w) → Q 1 H))) : xc X (d + 1) 172 [(2, 67), (0, w)] H Q := by
  refine ⟨rfl, ?_⟩
  show xq X d 172 Q 100000 [(0, (2, 67)), (1, (0, w))] [] H
  refine xq_run [] 300 ?_
  show ((¬ H 67 27 = 1) → xfR 3 0 ∧ xKZ = xKZ ∧ Q 0 H) ∧ (¬ (¬ H 67 27 = 1) → ((¬ H 67 28 = w) → xfR 3 0 ∧ xKZ = xKZ ∧ Q 0 H) ∧ (¬ (¬ H 67 28 = w) → xfR 3 1 ∧ xKZ = xKZ ∧ Q 1 H))
  refine ⟨fun k_ => ?_, fun k_ => ?_⟩
  · replace h := h.1 k_
    exact ⟨xfR3_0, rfl, h⟩
  · replace h := h.2 k_
    refine ⟨fun k_ => ?_, fun k_ => ?_⟩
    · replace h := h.1 k_
      exact ⟨xfR3_0, rfl, h⟩
    · replace h := h.2 k_
      exact ⟨xfR3_1, rfl, h⟩

theorem s_172 {X : Int × (Int → Int)} {d : Nat} {Q : Int → XH → Prop} (hd : 1 ≤ d) (w : Int) (H : XH) (hQ : Q (xb (H 67 27 = 1 ∧ H 67 28 = w)) H) : xc X d 172 [(2, 67), (0, w)] H Q := by
  cases d with
  | zero => omega
  | succ d =>
  refine U_172 (by omega) w H ?_
  refine ⟨fun c1 => ?_, fun c1 => ?_⟩
  · skip
    exact xQr hQ (by unfold xb; split <;> omega)
  · skip
    refine ⟨fun c2 => ?_, fun c2 => ?_⟩
    · skip
      exact xQr hQ (by unfold xb; split <;> omega)
    · skip
      exact xQr hQ (by unfold xb; split <;> omega)

theorem U_180 {X : Int × (Int → Int)} {d : Nat} {Q : Int → XH → Prop} (hd : 0 ≤ d) (w : Int) (H : XH) (h : ((¬ H 67 27 = 3) → Q 0 H) ∧ (¬ (¬ H 67 27 = 3) → ((¬ H 67 28 = w) → Q 0 H) ∧ (¬ (¬ H 67 28 = w) → Q 1 H))) : xc X (d + 1) 180 [(2, 67), (0, w)] H Q := by
  refine ⟨rfl, ?_⟩
  show xq X d 180 Q 100000 [(0, (2, 67)), (1, (0, w))] [] H
  refine xq_run [] 300 ?_
  show ((¬ H 67 27 = 3) → xfR 3 0 ∧ xKZ = xKZ ∧ Q 0 H) ∧ (¬ (¬ H 67 27 = 3) → ((¬ H 67 28 = w) → xfR 3 0 ∧ xKZ = xKZ ∧ Q 0 H) ∧ (¬ (¬ H 67 28 = w) → xfR 3 1 ∧ xKZ = xKZ ∧ Q 1 H))
  refine ⟨fun k_ => ?_, fun k_ => ?_⟩
  · replace h := h.1 k_
    exact ⟨xfR3_0, rfl, h⟩
  · replace h := h.2 k_
    refine ⟨fun k_ => ?_, fun k_ => ?_⟩
    · replace h := h.1 k_
      exact ⟨xfR3_0, rfl, h⟩
    · replace h := h.2 k_
      exact ⟨xfR3_1, rfl, h⟩

theorem s_180 {X : Int × (Int → Int)} {d : Nat} {Q : Int → XH → Prop} (hd : 1 ≤ d) (w : Int) (H : XH) (hQ : Q (xb (H 67 27 = 3 ∧ H 67 28 = w)) H) : xc X d 180 [(2, 67), (0, w)] H Q := by
  cases d with
  | zero => omega
  | succ d =>
  refine U_180 (by omega) w H ?_
  refine ⟨fun c1 => ?_, fun c1 => ?_⟩
  · skip
    exact xQr hQ (by unfold xb; split <;> omega)
  · skip
    refine ⟨fun c2 => ?_, fun c2 => ?_⟩
    · skip
      exact xQr hQ (by unfold xb; split <;> omega)
    · skip
      exact xQr hQ (by unfold xb; split <;> omega)

theorem U_178 {X : Int × (Int → Int)} {d : Nat} {Q : Int → XH → Prop} (hd : 0 ≤ d) (H : XH) (h : (xI ((H 67 32) - 1)) ∧ ((0 : Int) ≤ (H 67 32) - 1 ∧ ((H 67 32) - 1 : Int) < 40) ∧ Q (H 86 ((H 67 32) - 1)) H) : xc X (d + 1) 178 [(2, 67)] H Q := by
  refine ⟨rfl, ?_⟩
  show xq X d 178 Q 100000 [(0, (2, 67))] [] H
  refine xq_run [] 300 ?_
  show (xI ((H 67 32) - 1)) ∧ ((0 : Int) ≤ (H 67 32) - 1 ∧ ((H 67 32) - 1 : Int) < 40) ∧ xfR 0 (H 86 ((H 67 32) - 1)) ∧ xKZ = xKZ ∧ Q (H 86 ((H 67 32) - 1)) H
  refine ⟨h.1, ?_⟩
  replace h := h.2
  refine ⟨h.1, ?_⟩
  replace h := h.2
  exact ⟨trivial, rfl, h⟩

theorem s_178 {X : Int × (Int → Int)} {d : Nat} {Q : Int → XH → Prop} (hd : 1 ≤ d) (H : XH) (p0 : 1 ≤ H 67 32 ∧ H 67 32 ≤ 40) (hQ : Q (H 86 (H 67 32 - 1)) H) : xc X d 178 [(2, 67)] H Q := by
  cases d with
  | zero => omega
  | succ d =>
  refine U_178 (by omega) H ?_
  refine ⟨?_, ?_⟩
  · first | omega | (unfold xI; omega) | (unfold xJ; omega) | assumption | (exfalso; omega)
  refine ⟨?_, ?_⟩
  · first | omega | (unfold xI; omega) | (unfold xJ; omega) | assumption | (exfalso; omega)
  exact hQ

def rkM (o : Int) : Int := if o = 407 then 1 else if o = 406 then 2 else if o = 43 ∨ o = 45 then 3 else 4

theorem U_182 {X : Int × (Int → Int)} {d : Nat} {Q : Int → XH → Prop} (hd : 0 ≤ d) (o : Int) (H : XH) (h : ((¬ o = 407) → ((¬ o = 406) → ((o = 43) → Q 3 H) ∧ (¬ (o = 43) → ((¬ o = 45) → Q 4 H) ∧ (¬ (¬ o = 45) → Q 3 H))) ∧ (¬ (¬ o = 406) → Q 2 H)) ∧ (¬ (¬ o = 407) → Q 1 H)) : xc X (d + 1) 182 [(0, o)] H Q := by
  refine ⟨rfl, ?_⟩
  show xq X d 182 Q 100000 [(0, (0, o))] [] H
  refine xq_run [] 300 ?_
  show ((¬ o = 407) → ((¬ o = 406) → ((o = 43) → xfR 0 3 ∧ xKZ = xKZ ∧ Q 3 H) ∧ (¬ (o = 43) → ((¬ o = 45) → xfR 0 4 ∧ xKZ = xKZ ∧ Q 4 H) ∧ (¬ (¬ o = 45) → xfR 0 3 ∧ xKZ = xKZ ∧ Q 3 H))) ∧ (¬ (¬ o = 406) → xfR 0 2 ∧ xKZ = xKZ ∧ Q 2 H)) ∧ (¬ (¬ o = 407) → xfR 0 1 ∧ xKZ = xKZ ∧ Q 1 H)
  refine ⟨fun k_ => ?_, fun k_ => ?_⟩
  · replace h := h.1 k_
    refine ⟨fun k_ => ?_, fun k_ => ?_⟩
    · replace h := h.1 k_
      refine ⟨fun k_ => ?_, fun k_ => ?_⟩
      · replace h := h.1 k_
        exact ⟨trivial, rfl, h⟩
      · replace h := h.2 k_
        refine ⟨fun k_ => ?_, fun k_ => ?_⟩
        · replace h := h.1 k_
          exact ⟨trivial, rfl, h⟩
        · replace h := h.2 k_
          exact ⟨trivial, rfl, h⟩
    · replace h := h.2 k_
      exact ⟨trivial, rfl, h⟩
  · replace h := h.2 k_
    exact ⟨trivial, rfl, h⟩

theorem s_182 {X : Int × (Int → Int)} {d : Nat} {Q : Int → XH → Prop} (hd : 1 ≤ d) (o : Int) (H : XH) (hQ : Q (rkM o) H) : xc X d 182 [(0, o)] H Q := by
  cases d with
  | zero => omega
  | succ d =>
  refine U_182 (by omega) o H ?_
  refine ⟨fun c1 => ?_, fun c1 => ?_⟩
  · skip
    refine ⟨fun c2 => ?_, fun c2 => ?_⟩
    · skip
      refine ⟨fun c3 => ?_, fun c3 => ?_⟩
      · skip
        exact xQr hQ (by unfold rkM; split <;> (try split) <;> (try split) <;> omega)
      · skip
        refine ⟨fun c4 => ?_, fun c4 => ?_⟩
        · skip
          exact xQr hQ (by unfold rkM; split <;> (try split) <;> (try split) <;> omega)
        · skip
          exact xQr hQ (by unfold rkM; split <;> (try split) <;> (try split) <;> omega)
    · skip
      exact xQr hQ (by unfold rkM; split <;> (try split) <;> (try split) <;> omega)
  · skip
    exact xQr hQ (by unfold rkM; split <;> (try split) <;> (try split) <;> omega)

theorem U_185 {X : Int × (Int → Int)} {d : Nat} {Q : Int → XH → Prop} (hd : 0 ≤ d) (s : Int) (H : XH) (h : ((s = 60) → Q 1 H) ∧ (¬ (s = 60) → ((s = 62) → Q 1 H) ∧ (¬ (s = 62) → ((s = 61) → Q 1 H) ∧ (¬ (s = 61) → ((s = 35) → Q 1 H) ∧ (¬ (s = 35) → ((s = 300) → Q 1 H) ∧ (¬ (s = 300) → ((¬ s = 301) → Q 0 H) ∧ (¬ (¬ s = 301) → Q 1 H))))))) : xc X (d + 1) 185 [(0, s)] H Q := by
  refine ⟨rfl, ?_⟩
  show xq X d 185 Q 100000 [(0, (0, s))] [] H
  refine xq_run [] 300 ?_
  show ((s = 60) → xfR 3 1 ∧ xKZ = xKZ ∧ Q 1 H) ∧ (¬ (s = 60) → ((s = 62) → xfR 3 1 ∧ xKZ = xKZ ∧ Q 1 H) ∧ (¬ (s = 62) → ((s = 61) → xfR 3 1 ∧ xKZ = xKZ ∧ Q 1 H) ∧ (¬ (s = 61) → ((s = 35) → xfR 3 1 ∧ xKZ = xKZ ∧ Q 1 H) ∧ (¬ (s = 35) → ((s = 300) → xfR 3 1 ∧ xKZ = xKZ ∧ Q 1 H) ∧ (¬ (s = 300) → ((¬ s = 301) → xfR 3 0 ∧ xKZ = xKZ ∧ Q 0 H) ∧ (¬ (¬ s = 301) → xfR 3 1 ∧ xKZ = xKZ ∧ Q 1 H))))))
  refine ⟨fun k_ => ?_, fun k_ => ?_⟩
  · replace h := h.1 k_
    exact ⟨xfR3_1, rfl, h⟩
  · replace h := h.2 k_
    refine ⟨fun k_ => ?_, fun k_ => ?_⟩
    · replace h := h.1 k_
      exact ⟨xfR3_1, rfl, h⟩
    · replace h := h.2 k_
      refine ⟨fun k_ => ?_, fun k_ => ?_⟩
      · replace h := h.1 k_
        exact ⟨xfR3_1, rfl, h⟩
      · replace h := h.2 k_
        refine ⟨fun k_ => ?_, fun k_ => ?_⟩
        · replace h := h.1 k_
          exact ⟨xfR3_1, rfl, h⟩
        · replace h := h.2 k_
          refine ⟨fun k_ => ?_, fun k_ => ?_⟩
          · replace h := h.1 k_
            exact ⟨xfR3_1, rfl, h⟩
          · replace h := h.2 k_
            refine ⟨fun k_ => ?_, fun k_ => ?_⟩
            · replace h := h.1 k_
              exact ⟨xfR3_0, rfl, h⟩
            · replace h := h.2 k_
              exact ⟨xfR3_1, rfl, h⟩

theorem s_185 {X : Int × (Int → Int)} {d : Nat} {Q : Int → XH → Prop} (hd : 1 ≤ d) (s : Int) (H : XH) (hQ : Q (xb (s = 60 ∨ s = 62 ∨ s = 61 ∨ s = 35 ∨ s = 300 ∨ s = 301)) H) : xc X d 185 [(0, s)] H Q := by
  cases d with
  | zero => omega
  | succ d =>
  refine U_185 (by omega) s H ?_
  refine ⟨fun c1 => ?_, fun c1 => ?_⟩
  · skip
    exact xQr hQ (by unfold xb; split <;> omega)
  · skip
    refine ⟨fun c2 => ?_, fun c2 => ?_⟩
    · skip
      exact xQr hQ (by unfold xb; split <;> omega)
    · skip
      refine ⟨fun c3 => ?_, fun c3 => ?_⟩
      · skip
        exact xQr hQ (by unfold xb; split <;> omega)
      · skip
        refine ⟨fun c4 => ?_, fun c4 => ?_⟩
        · skip
          exact xQr hQ (by unfold xb; split <;> omega)
        · skip
          refine ⟨fun c5 => ?_, fun c5 => ?_⟩
          · skip
            exact xQr hQ (by unfold xb; split <;> omega)
          · skip
            refine ⟨fun c6 => ?_, fun c6 => ?_⟩
            · skip
              exact xQr hQ (by unfold xb; split <;> omega)
            · skip
              exact xQr hQ (by unfold xb; split <;> omega)

def wtR (k u : Int) : Prop := (k = 34 ∧ u = 43) ∨ (k = 35 ∧ u = 45) ∨ (k = 36 ∧ u = 42) ∨ (k = 37 ∧ u = 47) ∨ (k = 5 ∧ u = 406) ∨ (k = 4 ∧ u = 407)
def cmR (k u : Int) : Prop := (k = 30 ∧ u = 60) ∨ (k = 31 ∧ u = 62) ∨ (k = 32 ∧ u = 61) ∨ (k = 33 ∧ u = 35) ∨ (k = 41 ∧ u = 300) ∨ (k = 42 ∧ u = 301)
/-- the model's order for a sign of the code -/
def orR (x o v : Int) : Prop := (0 ≤ x ∧ x ≤ 9999 ∧ o = 400 ∧ v = x) ∨ (10007 ≤ x ∧ x ≤ 10017 ∧ o = 401 ∧ v = x - 10007) ∨ (x = 10043 ∧ o = 402) ∨ (x = 10006 ∧ o = 405) ∨ (10000 ≤ x ∧ x ≤ 10003 ∧ o = 408) ∨ wtR (x - 10000) o ∨ cmR (x - 10000) o
def fR (f g : Int → Int) : List (Int × Int) → Prop
  | [] => True
  | p :: F => f (F.length : Int) = p.1 ∧ (p.1 = 5 → cmR p.2 (g ((F.length : Int) + 1))) ∧ fR f g F
def wR (f g : Int → Int) : List (Int × Int) → Prop
  | [] => True
  | p :: W => wtR p.1 (f (W.length : Int)) ∧ g (W.length : Int) = p.2 ∧ wR f g W
theorem fR_up {f g f' g' : Int → Int} : ∀ F : List (Int × Int), (∀ k : Int, 0 ≤ k → k < F.length → f' k = f k) → (∀ k : Int, 0 ≤ k → k ≤ F.length → g' k = g k) → fR f g F → fR f' g' F
  | [], _, _, _ => trivial
  | p :: F, h1, h2, h => by
    have l : ((p :: F).length : Int) = (F.length : Int) + 1 := rfl
    refine ⟨by rw [h1 _ (by omega) (by omega)]; exact h.1, fun q => by rw [h2 _ (by omega) (by omega)]; exact h.2.1 q, fR_up F (fun k a b => h1 k a (by omega)) (fun k a b => h2 k a (by omega)) h.2.2⟩
theorem wR_up {f g f' g' : Int → Int} : ∀ W : List (Int × Int), (∀ k : Int, 0 ≤ k → k < W.length → f' k = f k ∧ g' k = g k) → wR f g W → wR f' g' W
  | [], _, _ => trivial
  | p :: W, h1, h => by
    have l : ((p :: W).length : Int) = (W.length : Int) + 1 := rfl
    have z := h1 W.length (by omega) (by omega)
    exact ⟨by rw [z.1]; exact h.1, by rw [z.2]; exact h.2.1, wR_up W (fun k a b => h1 k a (by omega)) h.2.2⟩
def hTp (n T : Int) (B K N E : Int → Int) (i a c s u : Int) : Prop := (0 ≤ i ∧ i ≤ T) ∧ ((i < T ∧ a = E (i + 1) ∧ c = B i ∧ tkR (K i) (N i) s u) ∨ (i = T ∧ c = n ∧ s = 0))
def hFp (F : List (Int × Int)) (c : Int) (f g : Int → Int) : Prop := c = (F.length : Int) ∧ fR f g F
def hWp (W : List (Int × Int)) (c : Int) (f g : Int → Int) : Prop := c = (W.length : Int) ∧ wR f g W
def hOp (O : List Int) (c : Int) (f g : Int → Int) : Prop := c = (O.length : Int) ∧ ∀ k : Nat, k < O.length → orR (O.getD k 0) (f k) (g k)
def hCp (C : List (Int × Int)) (f g : Int → Int) : Prop := (∀ k : Nat, k < C.length → f k = (C.getD k (0, 0)).1 ∧ g k = (C.getD k (0, 0)).2) ∧ ∀ p ∈ C, 0 ≤ p.1 ∧ p.1 ≤ 3
def frM2 (H h : XH) : Prop := (∀ o, ¬ o = 67 → ¬ (86 ≤ o ∧ o ≤ 93) → h o = H o) ∧ ∀ k, ¬ (25 ≤ k ∧ k ≤ 44) → h 67 k = H 67 k
theorem frM2_67 {H h : XH} (f : frM2 H h) {k x : Int} (hk : 25 ≤ k ∧ k ≤ 44) : frM2 H (xup h 67 k x) := ⟨fun o a b => by rw [xup_ne a]; exact f.1 o a b, fun j a => by rw [xup_k (by omega)]; exact f.2 j a⟩
theorem frM2_o {H h : XH} (f : frM2 H h) {o k x : Int} (ho : 86 ≤ o ∧ o ≤ 93) : frM2 H (xup h o k x) := ⟨fun o' a b => by rw [xup_ne (by omega)]; exact f.1 o' a b, fun j a => by rw [xup_ne (by omega)]; exact f.2 j a⟩
theorem frM2_nx {H h h1 : XH} (f : frM2 H h) (g : nxF h h1) : frM2 H h1 := ⟨fun o a b => by rw [g.1 o a]; exact f.1 o a b, fun k a => by rw [g.2 k (by omega)]; exact f.2 k a⟩
/-- the model's heap says what the machine's state says -/
def mHp (H0 : XH) (n T : Int) (B K N E : Int → Int) (st nc i o : Int) (F W : List (Int × Int)) (O : List Int) (C : List (Int × Int)) (h : XH) : Prop := frM2 H0 h ∧ hTp n T B K N E i (h 67 25) (h 67 26) (h 67 27) (h 67 28) ∧ (h 67 29 = 0 ∧ h 67 30 = -1) ∧ h 67 31 = o ∧ hFp F (h 67 32) (h 86) (h 87) ∧ hWp W (h 67 35) (h 88) (h 89) ∧ h 67 38 = st ∧ h 67 39 = nc ∧ hCp C (h 90) (h 91) ∧ hOp O (h 67 42) (h 92) (h 93)
def mEr (H0 : XH) (f e : Int) (h : XH) : Prop := frM2 H0 h ∧ h 67 29 = f ∧ h 67 30 = e
/-- what is known of the text -/
def cXp (t : Int → Int) (H0 : XH) (n T : Int) (B K N E : Int → Int) : Prop := TKS t n T B K N E ∧ (∀ i, 0 ≤ i → i < n → byR (t i) (H0 70 i)) ∧ H0 67 24 = n ∧ 0 ≤ n ∧ n ≤ 300
theorem mH_38 {H0 : XH} {n T : Int} {B K N E : Int → Int} {st nc i o : Int} {F W : List (Int × Int)} {O : List Int} {C : List (Int × Int)} {h : XH} (x : Int) (m : mHp H0 n T B K N E st nc i o F W O C h) : mHp H0 n T B K N E x nc i o F W O C (xup h 67 38 x) := by
  obtain ⟨a, b, c, e, f, g, k, l, p, q⟩ := m
  exact ⟨frM2_67 a (by decide), b, c, e, f, g, rfl, l, p, q⟩
theorem mH_39 {H0 : XH} {n T : Int} {B K N E : Int → Int} {st nc i o : Int} {F W : List (Int × Int)} {O : List Int} {C : List (Int × Int)} {h : XH} (x : Int) (m : mHp H0 n T B K N E st nc i o F W O C h) : mHp H0 n T B K N E st x i o F W O C (xup h 67 39 x) := by
  obtain ⟨a, b, c, e, f, g, k, l, p, q⟩ := m
  exact ⟨frM2_67 a (by decide), b, c, e, f, g, k, rfl, p, q⟩
theorem mH_31 {H0 : XH} {n T : Int} {B K N E : Int → Int} {st nc i o : Int} {F W : List (Int × Int)} {O : List Int} {C : List (Int × Int)} {h : XH} (x : Int) (m : mHp H0 n T B K N E st nc i o F W O C h) : mHp H0 n T B K N E st nc i x F W O C (xup h 67 31 x) := by
  obtain ⟨a, b, c, e, f, g, k, l, p, q⟩ := m
  exact ⟨frM2_67 a (by decide), b, c, rfl, f, g, k, l, p, q⟩
theorem mH_pop {H0 : XH} {n T : Int} {B K N E : Int → Int} {st nc i o : Int} {F W : List (Int × Int)} {O : List Int} {C : List (Int × Int)} {p : Int × Int} {h : XH} (m : mHp H0 n T B K N E st nc i o (p :: F) W O C h) : mHp H0 n T B K N E st nc i o F W O C (xup h 67 32 (F.length : Int)) := by
  obtain ⟨a, b, c, e, f, g, k, l, p, q⟩ := m
  exact ⟨frM2_67 a (by decide), b, c, e, ⟨rfl, f.2.2.2⟩, g, k, l, p, q⟩
theorem mH_clr {H0 : XH} {n T : Int} {B K N E : Int → Int} {st nc i o : Int} {F W : List (Int × Int)} {O : List Int} {C : List (Int × Int)} {h : XH} (m : mHp H0 n T B K N E st nc i o F W O C h) : mHp H0 n T B K N E st nc i o [] W O C (xup h 67 32 0) := by
  obtain ⟨a, b, c, e, f, g, k, l, p, q⟩ := m
  exact ⟨frM2_67 a (by decide), b, c, e, ⟨rfl, trivial⟩, g, k, l, p, q⟩
theorem mH_push {H0 : XH} {n T : Int} {B K N E : Int → Int} {st nc i o : Int} {F W : List (Int × Int)} {O : List Int} {C : List (Int × Int)} {h : XH} {x : Int} (hx : ¬ x = 5) (m : mHp H0 n T B K N E st nc i o F W O C h) : mHp H0 n T B K N E st nc i o ((x, 0) :: F) W O C (xup (xup h 86 (F.length : Int) x) 67 32 ((F.length : Int) + 1)) := by
  obtain ⟨a, b, c, e, f, g, k, l, p, q⟩ := m
  refine ⟨frM2_67 (frM2_o a (by decide)) (by decide), b, c, e, ⟨rfl, ?_, fun y => absurd y hx, ?_⟩, g, k, l, p, q⟩
  · exact (xup_self _ _ _ _ : xup h 86 (F.length : Int) x 86 (F.length : Int) = x)
  · refine fR_up F (fun k' a b => ?_) (fun k' _ _ => rfl) f.2
    show xup h 86 (F.length : Int) x 86 k' = h 86 k'
    exact xup_k (by omega)
theorem mH_cmp {H0 : XH} {n T : Int} {B K N E : Int → Int} {st nc i o : Int} {F W : List (Int × Int)} {O : List Int} {C : List (Int × Int)} {p : Int × Int} {h : XH} {k u : Int} (hx : cmR k u) (m : mHp H0 n T B K N E st nc i o (p :: F) W O C h) : mHp H0 n T B K N E st nc i o ((5, k) :: F) W O C (xup (xup h 87 ((F.length : Int) + 1) u) 86 (F.length : Int) 5) := by
  obtain ⟨a, b, c, e, f, g, k, l, p, q⟩ := m
  refine ⟨frM2_o (frM2_o a (by decide)) (by decide), b, c, e, ⟨f.1, ?_, fun _ => ?_, ?_⟩, g, k, l, p, q⟩
  · exact xup_self _ _ _ _
  · show cmR _ (xup h 87 ((F.length : Int) + 1) u 87 ((F.length : Int) + 1))
    rw [xup_self]
    exact hx
  · refine fR_up F (fun k' a b => ?_) (fun k' a b => ?_) f.2.2.2
    · show xup h 86 (F.length : Int) 5 86 k' = h 86 k'
      exact xup_k (by omega)
    · show xup h 87 ((F.length : Int) + 1) u 87 k' = h 87 k'
      exact xup_k (by omega)
theorem mH_emit {H0 : XH} {n T : Int} {B K N E : Int → Int} {st nc i o : Int} {F W : List (Int × Int)} {O : List Int} {C : List (Int × Int)} {h : XH} {x a v : Int} (hx : orR x a v) (m : mHp H0 n T B K N E st nc i o F W O C h) : mHp H0 n T B K N E st nc i o F W (O ++ [x]) C (xup (xup (xup h 92 (O.length : Int) a) 93 (O.length : Int) v) 67 42 ((O.length : Int) + 1)) := by
  obtain ⟨a, b, c, e, f, g, k, l, p, q⟩ := m
  refine ⟨frM2_67 (frM2_o (frM2_o a (by decide)) (by decide)) (by decide), b, c, e, f, g, k, l, p, ?_, fun j y => ?_⟩
  · show (O.length : Int) + 1 = _
    rw [List.length_append]
    rfl
  · rw [List.length_append] at y
    have y' : j < O.length + 1 := y
    show orR _ (xup h 92 (O.length : Int) _ 92 (j : Int)) (xup h 93 (O.length : Int) _ 93 (j : Int))
    by_cases z : j = O.length
    · rw [z, gD_at, xup_self, xup_self]
      exact hx
    · rw [gD_lt (by omega), xup_k (by omega), xup_k (by omega)]
      exact q.2 j (by omega)
theorem mH_wpop {H0 : XH} {n T : Int} {B K N E : Int → Int} {st nc i o : Int} {F W : List (Int × Int)} {O : List Int} {C : List (Int × Int)} {p : Int × Int} {h : XH} (m : mHp H0 n T B K N E st nc i o F (p :: W) O C h) : mHp H0 n T B K N E st nc i o F W O C (xup h 67 35 (W.length : Int)) := by
  obtain ⟨a, b, c, e, f, g, k, l, p, q⟩ := m
  exact ⟨frM2_67 a (by decide), b, c, e, f, ⟨rfl, g.2.2.2⟩, k, l, p, q⟩
theorem mH_wpush {H0 : XH} {n T : Int} {B K N E : Int → Int} {st nc i o : Int} {F W : List (Int × Int)} {O : List Int} {C : List (Int × Int)} {h : XH} {k u d : Int} (hx : wtR k u) (m : mHp H0 n T B K N E st nc i o F W O C h) : mHp H0 n T B K N E st nc i o F ((k, d) :: W) O C (xup (xup (xup h 88 (W.length : Int) u) 89 (W.length : Int) d) 67 35 ((W.length : Int) + 1)) := by
  obtain ⟨a, b, c, e, f, g, k, l, p, q⟩ := m
  refine ⟨frM2_67 (frM2_o (frM2_o a (by decide)) (by decide)) (by decide), b, c, e, f, ⟨rfl, ?_, ?_, ?_⟩, k, l, p, q⟩
  · show wtR _ (xup h 88 (W.length : Int) u 88 (W.length : Int))
    rw [xup_self]
    exact hx
  · exact xup_self _ _ _ _
  · refine wR_up W (fun k' a b => ⟨?_, ?_⟩) g.2
    · show xup h 88 (W.length : Int) u 88 k' = h 88 k'
      exact xup_k (by omega)
    · show xup h 89 (W.length : Int) d 89 k' = h 89 k'
      exact xup_k (by omega)
theorem gC_lt {a : List (Int × Int)} {x : Int × Int} {k : Nat} (h : k < a.length) : (a ++ [x]).getD k (0, 0) = a.getD k (0, 0) := by
  rw [List.getD_eq_getElem?_getD, List.getD_eq_getElem?_getD, List.getElem?_append_left h]
theorem gC_at (a : List (Int × Int)) (x : Int × Int) : (a ++ [x]).getD a.length (0, 0) = x := by
  rw [List.getD_eq_getElem?_getD, List.getElem?_append_right (Nat.le_refl _), Nat.sub_self]
  rfl
theorem mH_cls {H0 : XH} {n T : Int} {B K N E : Int → Int} {st nc i o : Int} {F W : List (Int × Int)} {O : List Int} {C : List (Int × Int)} {h : XH} {w at' : Int} (hw : 0 ≤ w ∧ w ≤ 3) (m : mHp H0 n T B K N E st nc i o F W O C h) : mHp H0 n T B K N E st nc i o F W O (C ++ [(w, at')]) (xup (xup h 90 (C.length : Int) w) 91 (C.length : Int) at') := by
  obtain ⟨a, b, c, e, f, g, k, l, p, q⟩ := m
  refine ⟨frM2_o (frM2_o a (by decide)) (by decide), b, c, e, f, g, k, l, ⟨fun j y => ?_, fun r hr => ?_⟩, q⟩
  · rw [List.length_append] at y
    have y' : j < C.length + 1 := y
    show xup h 90 (C.length : Int) w 90 (j : Int) = _ ∧ xup h 91 (C.length : Int) at' 91 (j : Int) = _
    by_cases z : j = C.length
    · rw [z, gC_at, xup_self, xup_self]
      exact ⟨rfl, rfl⟩
    · rw [gC_lt (by omega), xup_k (by omega), xup_k (by omega)]
      exact p.1 j (by omega)
  · rcases List.mem_append.mp hr with z | z
    · exact p.2 r z
    · rw [List.mem_singleton.mp z]
      exact hw

/-- reading the next token, told of the machine's heap -/
theorem s_171m {X : Int × (Int → Int)} {d : Nat} {Q : Int → XH → Prop} (hd : 4 ≤ d) {t : Int → Int} {H0 : XH} {n T : Int} {B K N E : Int → Int} {st nc i j o : Int} {F W : List (Int × Int)} {O : List Int} {C : List (Int × Int)} {h : XH} (cx : cXp t H0 n T B K N E) (m : mHp H0 n T B K N E st nc i o F W O C h) (hi : i < T) (hj : j = i + 1) (hQ : ∀ h1, mHp H0 n T B K N E st nc j o F W O C h1 → Q 0 h1) : xc X d 171 [(2, 67)] h Q := by
  obtain ⟨a, b, c, e, f, g, k, l, p, q⟩ := m
  obtain ⟨⟨u1, u2, u3, u4, u5, u6, u7⟩, cb, c24, cn⟩ := cx
  have bi := b.1
  have b2 := b.2.resolve_right (fun z => by omega)
  have bj : (E j ≤ B j ∧ B j ≤ n) ∧ (∀ x, E j ≤ x → x < B j → isBl (t x)) ∧ (B j < n → ¬ isBl (t (B j))) := by
    by_cases y : j = T
    · rw [y, u6]
      exact ⟨⟨u4, Int.le_refl _⟩, u5, fun z => by omega⟩
    · have z := u3 j (by omega) (by omega)
      exact ⟨⟨z.1.1, by omega⟩, z.2.1, fun _ => z.2.2.1⟩
  have ej : 0 ≤ E j := by
    have key : ∀ x : Nat, (x : Int) ≤ T → 0 ≤ E x := by
      intro x
      induction x with
      | zero =>
        intro _
        exact Int.le_of_eq u2.symm
      | succ x ih =>
        intro y
        have z := u3 x (by omega) (by omega)
        have w := tkP_e z.1.2 z.2.2.2
        have v := ih (by omega)
        show 0 ≤ E ((x : Int) + 1)
        omega
    have z := key j.toNat (by omega)
    rw [Int.toNat_of_nonneg (by omega)] at z
    exact z
  have h70 := a.1 70 (by decide) (by decide)
  have h24 := a.2 24 (by decide)
  refine s_171 hd (H := h) (t := t) (b := H0 70) (n := n) (a := E j) (p := B j) h70 (by omega) (by rw [b2.2.1, hj]) cb ⟨cn.1, cn.2⟩ (by omega) bj.2.1 bj.2.2 (fun h1 nx k1 k2 => hQ h1 ?_)
  have e1 : ∀ o, ¬ o = 67 → h1 o = h o := nx.1
  have e2 : ∀ x, ¬ (25 ≤ x ∧ x ≤ 28) → h1 67 x = h 67 x := nx.2
  refine ⟨frM2_nx a nx, ⟨by omega, ?_⟩, ?_, ?_, ?_, ?_, ?_, ?_, ?_, ?_⟩
  · by_cases y : j = T
    · have z := k1 (by rw [y]; exact u6)
      exact Or.inr ⟨y, z.2.1, z.2.2⟩
    · have z := u3 j (by omega) (by omega)
      have w := k2 _ _ _ z.1.2 z.2.2.2
      exact Or.inl ⟨by omega, w.1, w.2.1, w.2.2⟩
  · rw [e2 29 (by decide), e2 30 (by decide)]
    exact c
  · rw [e2 31 (by decide)]
    exact e
  · rw [e2 32 (by decide), e1 86 (by decide), e1 87 (by decide)]
    exact f
  · rw [e2 35 (by decide), e1 88 (by decide), e1 89 (by decide)]
    exact g
  · rw [e2 38 (by decide)]
    exact k
  · rw [e2 39 (by decide)]
    exact l
  · rw [e1 90 (by decide), e1 91 (by decide)]
    exact p
  · rw [e2 42 (by decide), e1 92 (by decide), e1 93 (by decide)]
    exact q
theorem mH_B {t : Int → Int} {H0 : XH} {n T : Int} {B K N E : Int → Int} {st nc i o : Int} {F W : List (Int × Int)} {O : List Int} {C : List (Int × Int)} {h : XH} (cx : cXp t H0 n T B K N E) (m : mHp H0 n T B K N E st nc i o F W O C h) : h 67 26 = B i := by
  have u6 := cx.1.2.2.2.2.2.1
  rcases m.2.1.2 with ⟨-, -, z, -⟩ | ⟨y, z, -⟩
  · exact z
  · rw [y, u6]
    exact z
