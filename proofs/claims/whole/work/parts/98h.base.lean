/-! THE PURE LAYER 75: constructors: the list of objects grows -/
def xkq (X : Int × (Int → Int)) (d y : Nat) (Q : Int → XW → XH → Prop) (n : Nat) (L : XL) (S : List XV) (K : XW) (H : XH) : Prop := xWB (xE X) (xWM (xE X) xMC d) (xMC y).1 (xMC y).2.1 Q (n, L, S, K, H)
theorem xkq_run {X : Int × (Int → Int)} {d y : Nat} {Q : Int → XW → XH → Prop} {n : Nat} {L : XL} {S : List XV} {K : XW} {H : XH} (st : List Nat) (k : Nat)
    (h : xone (xE X) (xWM (xE X) xMC d) (xMC y).1 (xMC y).2.1 (xrun (xE X) (xWM (xE X) xMC d) (xMC y).1 (xMC y).2.1 (xWB (xE X) (xWM (xE X) xMC d) (xMC y).1 (xMC y).2.1 Q) Q st k) Q (n, L, S, K, H)) : xkq X d y Q n L S K H :=
  xWB.one (xWM_mono _ _ d) (xres_mono (xWM_mono _ _ d) (fun g e => xrun_ok (xWM_mono _ _ d) k g e) (fun _ _ _ e => e) _ h)
/-- the same below n -/
def xbl (n : Int) (H h : XH) : Prop := ∀ o, o < n → h o = H o
theorem xbl_rf {n : Int} {H : XH} : xbl n H H := fun _ _ => rfl
theorem xbl_tr {n m : Int} {H h h' : XH} (a : xbl n H h) (b : xbl m h h') (e : n ≤ m) : xbl n H h' := fun o q => (b o (Int.lt_of_lt_of_le q e)).trans (a o q)
theorem xbl_up {n : Int} {H h : XH} {o k x : Int} (a : xbl n H h) (e : n ≤ o) : xbl n H (xup h o k x) := fun o' q => by
  rw [← a o' q]
  funext k'
  exact xup_o (by omega)
theorem xbl_zr {n : Int} {H h : XH} {o : Int} (a : xbl n H h) (e : n ≤ o) : xbl n H (xzr h o) := fun o' q => by
  rw [← a o' q]
  funext k'
  exact if_neg (by omega)
theorem xbl_zo {n : Int} {t : List Nat} {H h : XH} {o : Int} (a : xbl n H h) (e : n ≤ o) : xbl n H (xzo t h o) := fun o' q => by
  rw [← a o' q]
  funext k'
  exact if_neg (by omega)
theorem k_1 {X : Int × (Int → Int)} {d : Nat} {Q : Int → XW → XH → Prop} (hd : 1 ≤ d) (v l : Int) (P : List XK) (H : XH) (hQ : Q (min v l) (P, 0, 0) H) : xWM (xE X) xMC d 1 [(0, v), (0, l)] (P, 0, 0) H Q := by
  cases d with
  | zero => omega
  | succ d =>
  refine ⟨rfl, ?_⟩
  show xkq X d 1 Q 100000 [(0, (0, v)), (1, (0, l))] [] (P, 0, 0) H
  refine xkq_run [] 300 ?_
  show ((l < v) → True ∧ Q l (P, 0, 0) H) ∧ (¬ (l < v) → True ∧ Q v (P, 0, 0) H)
  refine ⟨fun c => ⟨trivial, ?_⟩, fun c => ⟨trivial, ?_⟩⟩
  · rw [show min v l = l by omega] at hQ; exact hQ
  · rw [show min v l = v by omega] at hQ; exact hQ
theorem k_2 {X : Int × (Int → Int)} {d : Nat} {Q : Int → XW → XH → Prop} (hd : 1 ≤ d) (v l : Int) (P : List XK) (H : XH) (hQ : Q (max v l) (P, 0, 0) H) : xWM (xE X) xMC d 2 [(0, v), (0, l)] (P, 0, 0) H Q := by
  cases d with
  | zero => omega
  | succ d =>
  refine ⟨rfl, ?_⟩
  show xkq X d 2 Q 100000 [(0, (0, v)), (1, (0, l))] [] (P, 0, 0) H
  refine xkq_run [] 300 ?_
  show ((v < l) → True ∧ Q l (P, 0, 0) H) ∧ (¬ (v < l) → True ∧ Q v (P, 0, 0) H)
  refine ⟨fun c => ⟨trivial, ?_⟩, fun c => ⟨trivial, ?_⟩⟩
  · rw [show max v l = l by omega] at hQ; exact hQ
  · rw [show max v l = v by omega] at hQ; exact hQ
theorem k_3 {X : Int × (Int → Int)} {d : Nat} {Q : Int → XW → XH → Prop} (hd : 2 ≤ d) (v l m : Int) (hlm : l ≤ m) (P : List XK) (H : XH) (hQ : Q (max l (min m v)) (P, 0, 0) H) : xWM (xE X) xMC d 3 [(0, v), (0, l), (0, m)] (P, 0, 0) H Q := by
  cases d with
  | zero => omega
  | succ d =>
  refine ⟨rfl, ?_⟩
  show xkq X d 3 Q 100000 [(0, (0, v)), (1, (0, l)), (2, (0, m))] [] (P, 0, 0) H
  refine xkq_run [] 300 ?_
  show ((l ≤ v) → ((v ≤ m) → True ∧ Q v (P, 0, 0) H) ∧ (¬ (v ≤ m) → True ∧ Q m (P, 0, 0) H)) ∧ (¬ (l ≤ v) → True ∧ Q l (P, 0, 0) H)
  refine ⟨fun c => ⟨fun e => ⟨trivial, ?_⟩, fun e => ⟨trivial, ?_⟩⟩, fun c => ⟨trivial, ?_⟩⟩
  · rw [show max l (min m v) = v by omega] at hQ; exact hQ
  · rw [show max l (min m v) = m by omega] at hQ; exact hQ
  · rw [show max l (min m v) = l by omega] at hQ; exact hQ
/-- a place of the script, 0 behind its end -/
def celV (X : Int × (Int → Int)) (k : Int) : Int := if X.1 ≤ k then 0 else X.2 k
theorem k_0 {X : Int × (Int → Int)} {d : Nat} {Q : Int → XW → XH → Prop} (hd : 1 ≤ d) (k : Int) (hk : 0 ≤ k) (P : List XK) (H : XH) (hQ : Q (celV X k) (P, 0, 0) H) : xWM (xE X) xMC d 0 [(4, 0), (0, k)] (P, 0, 0) H Q := by
  cases d with
  | zero => omega
  | succ d =>
  refine ⟨rfl, ?_⟩
  show xkq X d 0 Q 100000 [(0, (4, 0)), (1, (0, k))] [] (P, 0, 0) H
  refine xkq_run [] 300 ?_
  show ((X.1 ≤ k) → True ∧ Q 0 (P, 0, 0) H) ∧ (¬ (X.1 ≤ k) → ((0 : Int) ≤ k ∧ k < X.1) ∧ True ∧ Q (X.2 k) (P, 0, 0) H)
  unfold celV at hQ
  refine ⟨fun c => ⟨trivial, ?_⟩, fun c => ⟨⟨hk, by omega⟩, trivial, ?_⟩⟩
  · rw [if_pos c] at hQ; exact hQ
  · rw [if_neg c] at hQ; exact hQ
/-- the sides of the land -/
def clp (x : Int) : Int := max 3 (min 8 x)
theorem clp_rng (x : Int) : 3 ≤ clp x ∧ clp x ≤ 8 := by unfold clp; omega
theorem clp_mul (x y : Int) : 9 ≤ clp x * clp y ∧ clp x * clp y ≤ 64 := by
  have a := clp_rng x
  have b := clp_rng y
  rcases (show clp x = 3 ∨ clp x = 4 ∨ clp x = 5 ∨ clp x = 6 ∨ clp x = 7 ∨ clp x = 8 by omega) with e | e | e | e | e | e <;> rw [e] <;> omega
/-- the model's row when c cells and s sorts are filled -/
def gM (c s j : Int) : Int := if j = 3 then -1 else if j = 6 then 150 else if j = 7 then 10 else if j = 9 then 300 else if j = 10 then 400 else if 90 ≤ j ∧ j < 90 + c then -1 else if 600 ≤ j ∧ j < 600 + 2 * s ∧ j % 2 = 0 then -1 else 0
theorem mul38 {a b : Int} (h1 : 3 ≤ a) (h2 : a ≤ 8) (h3 : 3 ≤ b) (h4 : b ≤ 8) : xI (a * b) := by
  unfold xI
  rcases (show a = 3 ∨ a = 4 ∨ a = 5 ∨ a = 6 ∨ a = 7 ∨ a = 8 by omega) with e | e | e | e | e | e <;> rw [e] <;> omega
theorem cmul {a b a' b' : Int} (x : a = a') (y : b = b') : a * b = a' * b' := by rw [x, y]
theorem xkq_q {X : Int × (Int → Int)} {d y : Nat} {Q : Int → XW → XH → Prop} {n : Nat} {L : XL} {S : List XV} {H : XH} (h : xq X d y (fun r h1 => Q r xKZ h1) n L S H) : xkq X d y Q n L S xKZ H :=
  xWB.mono (xWM_mono _ _ d) (fun r K' H' q => by rw [q.1]; exact q.2) h
theorem gM_c {c s j : Int} (h : ¬ j = 90 + c) : gM c s j = gM (c + 1) s j := by
  unfold gM
  by_cases c3 : j = 3
  · rw [if_pos c3, if_pos c3]
  rw [if_neg c3, if_neg c3]
  by_cases c6 : j = 6
  · rw [if_pos c6, if_pos c6]
  rw [if_neg c6, if_neg c6]
  by_cases c7 : j = 7
  · rw [if_pos c7, if_pos c7]
  rw [if_neg c7, if_neg c7]
  by_cases c9 : j = 9
  · rw [if_pos c9, if_pos c9]
  rw [if_neg c9, if_neg c9]
  by_cases c10 : j = 10
  · rw [if_pos c10, if_pos c10]
  rw [if_neg c10, if_neg c10]
  by_cases q : 90 ≤ j ∧ j < 90 + c
  · rw [if_pos q, if_pos (by omega)]
  rw [if_neg q, if_neg (show ¬ (90 ≤ j ∧ j < 90 + (c + 1)) by omega)]
theorem gM_s {s j : Int} (h : ¬ j = 600 + 2 * s) : gM 64 s j = gM 64 (s + 1) j := by
  unfold gM
  by_cases c3 : j = 3
  · rw [if_pos c3, if_pos c3]
  rw [if_neg c3, if_neg c3]
  by_cases c6 : j = 6
  · rw [if_pos c6, if_pos c6]
  rw [if_neg c6, if_neg c6]
  by_cases c7 : j = 7
  · rw [if_pos c7, if_pos c7]
  rw [if_neg c7, if_neg c7]
  by_cases c9 : j = 9
  · rw [if_pos c9, if_pos c9]
  rw [if_neg c9, if_neg c9]
  by_cases c10 : j = 10
  · rw [if_pos c10, if_pos c10]
  rw [if_neg c10, if_neg c10]
  by_cases q : 90 ≤ j ∧ j < 90 + 64
  · rw [if_pos q, if_pos q]
  rw [if_neg q, if_neg q]
  by_cases p : 600 ≤ j ∧ j < 600 + 2 * s ∧ j % 2 = 0
  · rw [if_pos p, if_pos (by omega)]
  rw [if_neg p, if_neg (by omega)]
/-- the heap h is as B but for the row 68, which is gM c s -/
def mFw (B h : XH) (c s : Int) : Prop := (∀ o, ¬ o = 68 → h o = B o) ∧ ∀ j, h 68 j = gM c s j
theorem mFw_c {B h : XH} {c : Int} (h0 : 0 ≤ c) (m : mFw B h c 0) : mFw B (xup h 68 (90 + c) (-1)) (c + 1) 0 := by
  refine ⟨fun o q => ?_, fun j => ?_⟩
  · rw [← m.1 o q]
    funext i
    exact xup_o q
  · by_cases e : j = 90 + c
    · rw [e, xup_self]
      unfold gM
      rw [if_neg (by omega), if_neg (by omega), if_neg (by omega), if_neg (by omega), if_neg (by omega), if_pos (by omega)]
    · rw [xup_k e, m.2 j]
      exact gM_c e
theorem mFw_s {B h : XH} {s : Int} (h0 : 0 ≤ s) (m : mFw B h 64 s) : mFw B (xup h 68 (600 + 2 * s) (-1)) 64 (s + 1) := by
  refine ⟨fun o q => ?_, fun j => ?_⟩
  · rw [← m.1 o q]
    funext i
    exact xup_o q
  · by_cases e : j = 600 + 2 * s
    · rw [e, xup_self]
      unfold gM
      rw [if_neg (by omega), if_neg (by omega), if_neg (by omega), if_neg (by omega), if_neg (by omega), if_neg (by omega), if_pos (by omega)]
    · rw [xup_k e, m.2 j]
      exact gM_s e
