/-! THE X MACHINE: numbers are whole numbers, objects are numbered; one step of it is data (XR), xWB / xWM say 'from here it ends and Q holds' -/
abbrev XV : Type := Nat × Int
abbrev XL : Type := List (Nat × XV)
abbrev XK : Type := Nat × Nat × List Int
abbrev XW : Type := List XK × Nat × Nat
abbrev XH : Type := Int → Int → Int
abbrev XG : Type := Nat × XL × List XV × XW × XH
abbrev XI : Type := Instr × Nat × Nat × Nat × List (Int × Nat)
abbrev XQ : Type := Int → XW → XH → Prop
abbrev XC : Type := Nat → List XV → XW → XH → XQ → Prop
abbrev XR : Type := XG ⊕ (Prop × XG) ⊕ (Prop × XG × XG) ⊕ (Nat × List XV × XW × XH × (Int → XW → XH → XG)) ⊕ (Prop × Int × XW × XH) ⊕ (Int × List (Int × XG) × XG) ⊕ Unit
def xI (x : Int) : Prop := -2147483648 ≤ x ∧ x ≤ 2147483647
def xJ (x : Int) : Prop := -9223372036854775808 ≤ x ∧ x ≤ 9223372036854775807
abbrev xgo (g : XG) : XR := .inl g
abbrev xck (c : Prop) (g : XG) : XR := .inr (.inl (c, g))
abbrev xbr (c : Prop) (g1 g2 : XG) : XR := .inr (.inr (.inl (c, g1, g2)))
abbrev xcl (y : Nat) (a : List XV) (K : XW) (H : XH) (f : Int → XW → XH → XG) : XR := .inr (.inr (.inr (.inl (y, a, K, H, f))))
abbrev xrt (c : Prop) (r : Int) (K : XW) (H : XH) : XR := .inr (.inr (.inr (.inr (.inl (c, r, K, H)))))
abbrev xsx (x : Int) (l : List (Int × XG)) (d : XG) : XR := .inr (.inr (.inr (.inr (.inr (.inl (x, l, d))))))
abbrev xno : XR := .inr (.inr (.inr (.inr (.inr (.inr ())))))
def xswi (P : XG → Prop) (x : Int) (d : XG) : List (Int × XG) → Prop
  | [] => P d
  | (k, g) :: l => (x = k → P g) ∧ (¬ x = k → xswi P x d l)
def xres (C : XC) (P : XG → Prop) (Q : XQ) : XR → Prop
  | .inl g => P g
  | .inr (.inl (c, g)) => c ∧ P g
  | .inr (.inr (.inl (c, g1, g2))) => (c → P g1) ∧ (¬ c → P g2)
  | .inr (.inr (.inr (.inl (y, a, K, H, f)))) => C y a K H (fun r K' H' => P (f r K' H'))
  | .inr (.inr (.inr (.inr (.inl (c, r, K, H))))) => c ∧ Q r K H
  | .inr (.inr (.inr (.inr (.inr (.inl (x, l, d)))))) => xswi P x d l
  | .inr (.inr (.inr (.inr (.inr (.inr _))))) => False
def xget : XL → Nat → XV
  | [], _ => (9, 0)
  | (j, v) :: l, k => bif Nat.beq j k then v else xget l k
def xset1 (L : XL) (i : Nat) (v : XV) : XL := (i, v) :: L.filter (fun q => !(q.1 == i) && !(q.1 + 1 == i && q.2.1 == 1))
def xset2 (L : XL) (i : Nat) (v : XV) : XL := (i, v) :: L.filter (fun q => !(q.1 == i) && (!(q.1 == i + 1) && !(q.1 + 1 == i && q.2.1 == 1)))
def xkeep (L : XL) : List (Int × Nat) → XL
  | [] => []
  | (_, k) :: l => bif Nat.ble (xget L k).1 8 then (k, xget L k) :: xkeep L l else xkeep L l
def xcat (v : XV) : Nat := bif Nat.beq v.1 1 then 2 else 1
def xent : Nat → List XV → XL
  | _, [] => []
  | i, v :: l => (i, v) :: xent (i + xcat v) l
def xup (H : XH) (o i x : Int) : XH := fun o' i' => if o' = o ∧ i' = i then x else H o' i'
def xzr (H : XH) (o : Int) : XH := fun o' i' => if o' = o then 0 else H o' i'
def xzo (t : List Nat) (H : XH) (o : Int) : XH := fun o' i' => if o' = o then (bif Nat.beq (t.getD i'.toNat 9) 3 then -1 else 0) else H o' i'
def xcpy (H : XH) (s d sp dp n : Int) : XH := fun o i => if o = d ∧ dp ≤ i ∧ i < dp + n then H s (sp + (i - dp)) else H o i
def xkd (K : XW) (a : Int) : XK := match a with
  | .ofNat n => K.1.getD n (9, 0, [])
  | .negSucc _ => (9, 0, [])
def xTy (K : XW) (a : Int) : Nat := (xkd K a).1
def xLen (K : XW) (a : Int) : Int := ((xkd K a).2.1 : Nat)
def xLn (K : XW) (a : Int) (t : Nat) : Int := bif Nat.beq (xTy K a) t then xLen K a else 0
def xLnB (K : XW) (a : Int) : Int := bif Nat.beq (xTy K a) 3 || Nat.beq (xTy K a) 4 then xLen K a else 0
def xCls (K : XW) (o : Int) : Nat := bif Nat.beq (xTy K o) 0 then (xkd K o).2.1 else 9999
def xRf (K : XW) (o : Int) (k : Nat) : Int := (xkd K o).2.2.getD k (-1)
def xfB (t : Nat) (x : Int) : Prop := (t = 3 → -128 ≤ x ∧ x ≤ 127) ∧ (t = 4 → 0 ≤ x ∧ x ≤ 1)
def xfR (t : Nat) (x : Int) : Prop := match t with
  | 3 => 0 ≤ x ∧ x ≤ 1
  | 4 => -128 ≤ x ∧ x ≤ 127
  | 5 => 0 ≤ x ∧ x ≤ 65535
  | _ => True
def xcmp (x y : Int) : Int := if x < y then -1 else if x = y then 0 else 1
def xand (x y : Int) : Int := (Int32.ofInt x &&& Int32.ofInt y).toInt
def xor_ (x y : Int) : Int := (Int32.ofInt x ||| Int32.ofInt y).toInt
def xxor (x y : Int) : Int := (Int32.ofInt x ^^^ Int32.ofInt y).toInt
def xshl (x y : Int) : Int := (Int32.ofInt x <<< (Int32.ofInt y &&& 31)).toInt
def xshr (x y : Int) : Int := (Int32.ofInt x >>> (Int32.ofInt y &&& 31)).toInt
def xandL (x y : Int) : Int := (Int64.ofInt x &&& Int64.ofInt y).toInt
def xorL (x y : Int) : Int := (Int64.ofInt x ||| Int64.ofInt y).toInt
def xshlL (x y : Int) : Int := (Int64.ofInt x <<< ((Int32.ofInt y).toInt64 &&& 63)).toInt
def xushL (x y : Int) : Int := ((Int64.ofInt x).toUInt64 >>> ((Int32.ofInt y).toInt64.toUInt64 &&& Int64.toUInt64 63)).toInt64.toInt
def xsubW (x y : Int) : Int := (Int64.ofInt x - Int64.ofInt y).toInt
def xl2i (x : Int) : Int := (Int64.ofInt x).toInt32.toInt
def xi2b (x : Int) : Int := (Int32.ofInt x).toInt8.toInt32.toInt
def xi2c (x : Int) : Int := ((Int32.ofInt x).toUInt32 % 65536).toInt32.toInt
def xcnd (c : ClassFile.Cond) (x y : Int) : Prop := match c with
  | .eq => x = y
  | .ne => ¬ x = y
  | .lt => x < y
  | .ge => y ≤ x
  | .gt => y < x
  | .le => x ≤ y
def xu1 (t : Nat) (S : List XV) (f : Int → List XV → XR) : XR := match S with
  | (u, x) :: r => bif Nat.beq u t then f x r else xno
  | _ => xno
def xb2 (t2 t1 : Nat) (S : List XV) (f : Int → Int → List XV → XR) : XR := match S with
  | (u, y) :: (v, x) :: r => bif Nat.beq u t1 && Nat.beq v t2 then f x y r else xno
  | _ => xno
def xld (lo hi i n : Nat) (L : XL) (S : List XV) (K : XW) (H : XH) : XR := bif Nat.ble lo (xget L i).1 && Nat.ble (xget L i).1 hi then xgo (n, L, xget L i :: S, K, H) else xno
def xst1 (lo hi i n : Nat) (L : XL) (S : List XV) (K : XW) (H : XH) : XR := match S with
  | v :: r => bif Nat.ble lo v.1 && Nat.ble v.1 hi then xgo (n, xset1 L i v, r, K, H) else xno
  | _ => xno
def xst2 (i n : Nat) (L : XL) (S : List XV) (K : XW) (H : XH) : XR := match S with
  | v :: r => bif Nat.beq v.1 1 then xgo (n, xset2 L i v, r, K, H) else xno
  | _ => xno
/-- slots of the classes' objects: 0 a number, 1 a truth value, 2 a final reference, 3 the one that changes -/
def xsl (TT : List (List Nat)) (ci k : Nat) : Nat := (TT.getD ci []).getD k 9
def xgf (TT : List (List Nat)) (n ci k : Nat) (tl : List (Int × Nat)) (L : XL) (S : List XV) (K : XW) (H : XH) : XR := match S with
  | (u, o) :: r => bif Nat.beq u 2 then
      (bif Nat.beq (xCls K o) ci then
        (match xsl TT ci k with
        | 0 => xgo (n, L, (0, H o k) :: r, K, H)
        | 1 => xgo (n, L, (0, H o k) :: r, K, H)
        | 2 => xgo (n, L, (2, xRf K o k) :: r, K, H)
        | 3 => (match tl with
          | (_, e) :: _ => xck (H o k = (e : Int)) (n, L, (2, (e : Int)) :: r, K, H)
          | _ => xno)
        | _ => xno)
      else xno)
    else bif Nat.beq u 3 && Nat.beq ci 100 then (match k with
      | 0 => xgo (n, L, (0, 0) :: r, K, H)
      | 1 => xgo (n, L, (5, o) :: r, K, H)
      | _ => xno)
    else xno
  | _ => xno
def xpf (TT : List (List Nat)) (n ci k : Nat) (L : XL) (S : List XV) (K : XW) (H : XH) : XR := match S with
  | (t, x) :: (u, o) :: r => bif Nat.beq u 2 && Nat.beq (xCls K o) ci then
      (match xsl TT ci k with
        | 0 => bif Nat.beq t 0 then xgo (n, L, r, K, xup H o k x) else xno
        | 1 => bif Nat.beq t 0 then xck (0 ≤ x ∧ x ≤ 1) (n, L, r, K, xup H o k x) else xno
        | 2 => bif Nat.beq t 2 then xgo (n, L, r, (K.1.set o.toNat (0, ci, (xkd K o).2.2.set k x), K.2), H) else xno
        | 3 => bif Nat.beq t 2 then xgo (n, L, r, K, xup H o k x) else xno
        | _ => xno)
    else xno
  | _ => xno
def xald (t tag n : Nat) (X : Int × (Int → Int)) (L : XL) (S : List XV) (K : XW) (H : XH) : XR := match S with
  | (u, i) :: (v, a) :: r => bif Nat.beq u 0 then
      (bif Nat.beq v 2 then xck (0 ≤ i ∧ i < xLn K a t) (n, L, (tag, H a i) :: r, K, H)
       else bif Nat.beq v 4 && Nat.beq t 1 then xck (0 ≤ i ∧ i < X.1) (n, L, (0, X.2 i) :: r, K, H) else xno) else xno
  | _ => xno
def xbald (SL : List (List Int)) (n : Nat) (L : XL) (S : List XV) (K : XW) (H : XH) : XR := match S with
  | (u, i) :: (v, a) :: r => bif Nat.beq u 0 then
      (bif Nat.beq v 2 then xck (0 ≤ i ∧ i < xLnB K a) (n, L, (0, H a i) :: r, K, H)
       else bif Nat.beq v 5 then xck (0 ≤ i ∧ i < ((SL.getD a.toNat []).length : Int)) (n, L, (0, (SL.getD a.toNat []).getD i.toNat 0) :: r, K, H) else xno) else xno
  | _ => xno
def xast (t tag n : Nat) (L : XL) (S : List XV) (K : XW) (H : XH) : XR := match S with
  | (w, x) :: (u, i) :: (v, a) :: r => bif Nat.beq w tag && (Nat.beq u 0 && Nat.beq v 2) then
      (match t with
       | 3 => xck ((0 ≤ i ∧ i < xLnB K a) ∧ xfB (xTy K a) x) (n, L, r, K, xup H a i x)
       | 5 => xck ((0 ≤ i ∧ i < xLn K a 5) ∧ 0 ≤ x ∧ x ≤ 65535) (n, L, r, K, xup H a i x)
       | _ => xck (0 ≤ i ∧ i < xLn K a t) (n, L, r, K, xup H a i x))
     else xno
  | _ => xno
def xalen (SL : List (List Int)) (n : Nat) (X : Int × (Int → Int)) (L : XL) (S : List XV) (K : XW) (H : XH) : XR := match S with
  | (v, a) :: r => bif Nat.beq v 2 then xck (1 ≤ xTy K a ∧ xTy K a ≤ 5) (n, L, (0, xLen K a) :: r, K, H)
      else bif Nat.beq v 4 then xgo (n, L, (0, X.1) :: r, K, H)
      else bif Nat.beq v 5 then xgo (n, L, (0, ((SL.getD a.toNat []).length : Int)) :: r, K, H) else xno
  | _ => xno
def xroom (S : List XV) : Bool := Nat.ble ((S.map xcat).foldr Nat.add 0) 8
def xpush (rt : Nat) (r : Int) (S : List XV) : List XV := match rt with
  | 1 => (1, r) :: S
  | 2 => S
  | _ => (0, r) :: S
/-- a call: MI y = (type of the answer, receiver's class (200: none, 100: a text), cells, slots) -/
def xcall (MI : Nat → Nat × Nat × Nat × Nat) (n y k : Nat) (L : XL) (S : List XV) (K : XW) (H : XH) : XR :=
  bif Nat.ble k S.length && (xroom (S.drop k) && (Nat.ble (MI y).2.2.1 K.2.1 && (Nat.ble (MI y).2.2.2 K.2.2 &&
      (Nat.beq (MI y).2.1 200 || match (S.take k).reverse with
        | (t, o) :: _ => (Nat.beq t 2 && Nat.beq (xCls K o) (MI y).2.1) || (Nat.beq t 3 && Nat.beq (MI y).2.1 100)
        | _ => false))))
  then xcl y (S.take k).reverse (K.1, (MI y).2.2.1, (MI y).2.2.2) H (fun r K' H' => (n, L, xpush (MI y).1 r (S.drop k), (K'.1, K.2.1 - (MI y).2.2.1, K.2.2 - (MI y).2.2.2), H'))
  else xno
def xacp (n : Nat) (L : XL) (S : List XV) (K : XW) (H : XH) : XR := match S with
  | (t1, m) :: (t2, dp) :: (t3, d) :: (t4, sp) :: (t5, a) :: r =>
    bif Nat.beq t1 0 && (Nat.beq t2 0 && (Nat.beq t3 2 && (Nat.beq t4 0 && (Nat.beq t5 2 && xroom r)))) then
      xck (xTy K a = 1 ∧ xTy K d = 1 ∧ 0 ≤ sp ∧ 0 ≤ dp ∧ 0 ≤ m ∧ sp + m ≤ xLen K a ∧ dp + m ≤ xLen K d) (n, L, r, K, xcpy H a d sp dp m) else xno
  | _ => xno
def xnn (o : Int) : Bool := match o with
  | .ofNat _ => true
  | .negSucc _ => false
def xinv (MI : Nat → Nat × Nat × Nat × Nat) (n y k : Nat) (L : XL) (S : List XV) (K : XW) (H : XH) : XR :=
  bif Nat.beq y 999 then (match S with
    | (t, o) :: r => bif Nat.beq t 2 && (xroom r && xnn o) then xgo (n, L, r, K, H) else xno
    | _ => xno)
  else bif Nat.beq y 998 then xacp n L S K H else bif Nat.blt y 265 then xcall MI n y k L S K H else xno
def xdup (n : Nat) (L : XL) (S : List XV) (K : XW) (H : XH) : XR := match S with
  | v :: r => bif Nat.beq v.1 1 then xno else xgo (n, L, v :: v :: r, K, H)
  | _ => xno
def xdup2 (n : Nat) (L : XL) (S : List XV) (K : XW) (H : XH) : XR := match S with
  | v :: w :: r => bif Nat.beq v.1 1 || Nat.beq w.1 1 then xno else xgo (n, L, v :: w :: v :: w :: r, K, H)
  | _ => xno
def xpop (n : Nat) (L : XL) (S : List XV) (K : XW) (H : XH) : XR := match S with
  | v :: r => bif Nat.beq v.1 1 then xno else xgo (n, L, r, K, H)
  | _ => xno
def xiinc (i n : Nat) (c : Int) (L : XL) (S : List XV) (K : XW) (H : XH) : XR := bif Nat.beq (xget L i).1 0 then xck (xI ((xget L i).2 + c)) (n, xset1 L i (0, (xget L i).2 + c), S, K, H) else xno
def xnewa (t n : Nat) (L : XL) (S : List XV) (K : XW) (H : XH) : XR := xu1 0 S fun m r => xck (0 ≤ m ∧ m ≤ 100000 ∧ 1 ≤ K.2.1 ∧ m.toNat ≤ K.2.2) (n, L, (2, (K.1.length : Int)) :: r, (K.1 ++ [(t, m.toNat, [])], K.2.1 - 1, K.2.2 - m.toNat), xzr H (K.1.length : Int))
def xnew (TT : List (List Nat)) (n ci : Nat) (L : XL) (S : List XV) (K : XW) (H : XH) : XR := xck (1 ≤ K.2.1 ∧ (TT.getD ci []).length ≤ K.2.2) (n, L, (2, (K.1.length : Int)) :: S, (K.1 ++ [(0, ci, List.replicate (TT.getD ci []).length (-1))], K.2.1 - 1, K.2.2 - (TT.getD ci []).length), xzo (TT.getD ci []) H (K.1.length : Int))
def xret (rt t : Nat) (S : List XV) (K : XW) (H : XH) : XR := match S with
  | [(u, x)] => bif Nat.beq u t && (bif Nat.beq t 1 then Nat.beq rt 1 else !(Nat.beq rt 1) && !(Nat.beq rt 2)) then xrt (xfR rt x) x K H else xno
  | _ => xno
/-- what does not change in a run: the script, the classes' slots, the texts, the methods -/
abbrev XE : Type := (Int × (Int → Int)) × List (List Nat) × List (List Int) × (Nat → Nat × Nat × Nat × Nat)
def xop (E : XE) (rt pc : Nat) (i : XI) (L : XL) (S : List XV) (K : XW) (H : XH) : XR :=
  match i with
  | (ins, n, r1, r2, tl) => match ins with
    | .nop => xgo (n, xkeep L tl, S, K, H)
    | .aconst_null => xgo (n, L, (2, -1) :: S, K, H)
    | .iconst c => xgo (n, L, (0, c) :: S, K, H)
    | .bipush c => xgo (n, L, (0, c) :: S, K, H)
    | .sipush c => xgo (n, L, (0, c) :: S, K, H)
    | .lconst c => xgo (n, L, (1, ((c : Nat) : Int)) :: S, K, H)
    | .ldc _ => (match tl with
      | (v, k) :: _ => bif Nat.beq r1 0 then xgo (n, L, (0, v) :: S, K, H) else xgo (n, L, (3, (k : Int)) :: S, K, H)
      | _ => xno)
    | .ldc_w _ => (match tl with
      | (v, _) :: _ => xgo (n, L, (0, v) :: S, K, H)
      | _ => xno)
    | .ldc2_w _ => (match tl with
      | (v, _) :: _ => xgo (n, L, (1, v) :: S, K, H)
      | _ => xno)
    | .getstatic _ => (match tl with
      | (v, _) :: _ => bif Nat.beq r1 0 then xgo (n, L, (0, v) :: S, K, H) else xgo (n, L, (7, 0) :: S, K, H)
      | _ => xno)
    | .iload k => xld 0 0 k n L S K H
    | .iload_n k => xld 0 0 k n L S K H
    | .lload k => xld 1 1 k n L S K H
    | .lload_n k => xld 1 1 k n L S K H
    | .aload k => xld 2 8 k n L S K H
    | .aload_n k => xld 2 8 k n L S K H
    | .istore k => xst1 0 0 k n L S K H
    | .istore_n k => xst1 0 0 k n L S K H
    | .astore k => xst1 2 2 k n L S K H
    | .astore_n k => xst1 2 2 k n L S K H
    | .lstore k => xst2 k n L S K H
    | .lstore_n k => xst2 k n L S K H
    | .iinc k c => xiinc k n c L S K H
    | .iadd => xb2 0 0 S fun x y r => xck (xI (x + y)) (n, L, (0, x + y) :: r, K, H)
    | .isub => xb2 0 0 S fun x y r => xck (xI (x - y)) (n, L, (0, x - y) :: r, K, H)
    | .imul => xb2 0 0 S fun x y r => xck (xI (x * y)) (n, L, (0, x * y) :: r, K, H)
    | .idiv => xb2 0 0 S fun x y r => xck (¬ y = 0 ∧ xI (x.tdiv y)) (n, L, (0, x.tdiv y) :: r, K, H)
    | .irem => xb2 0 0 S fun x y r => xck (¬ y = 0 ∧ xI (x.tdiv y)) (n, L, (0, x.tmod y) :: r, K, H)
    | .ineg => xu1 0 S fun x r => xck (xI (-x)) (n, L, (0, -x) :: r, K, H)
    | .iand => xb2 0 0 S fun x y r => xgo (n, L, (0, xand x y) :: r, K, H)
    | .ior => xb2 0 0 S fun x y r => xgo (n, L, (0, xor_ x y) :: r, K, H)
    | .ixor => xb2 0 0 S fun x y r => xgo (n, L, (0, xxor x y) :: r, K, H)
    | .ishl => xb2 0 0 S fun x y r => xgo (n, L, (0, xshl x y) :: r, K, H)
    | .ishr => xb2 0 0 S fun x y r => xgo (n, L, (0, xshr x y) :: r, K, H)
    | .ladd => xb2 1 1 S fun x y r => xck (xJ (x + y)) (n, L, (1, x + y) :: r, K, H)
    | .lsub => xb2 1 1 S fun x y r => bif Nat.beq r1 1 then xgo (n, L, (1, xsubW x y) :: r, K, H) else xck (xJ (x - y)) (n, L, (1, x - y) :: r, K, H)
    | .lmul => xb2 1 1 S fun x y r => xck (xJ (x * y)) (n, L, (1, x * y) :: r, K, H)
    | .ldiv => xb2 1 1 S fun x y r => xck (¬ y = 0 ∧ xJ (x.tdiv y)) (n, L, (1, x.tdiv y) :: r, K, H)
    | .lneg => xu1 1 S fun x r => xck (xJ (-x)) (n, L, (1, -x) :: r, K, H)
    | .land => xb2 1 1 S fun x y r => xgo (n, L, (1, xandL x y) :: r, K, H)
    | .lor => xb2 1 1 S fun x y r => xgo (n, L, (1, xorL x y) :: r, K, H)
    | .lshl => xb2 1 0 S fun x y r => xgo (n, L, (1, xshlL x y) :: r, K, H)
    | .lushr => xb2 1 0 S fun x y r => xgo (n, L, (1, xushL x y) :: r, K, H)
    | .lcmp => xb2 1 1 S fun x y r => xgo (n, L, (0, xcmp x y) :: r, K, H)
    | .i2l => xu1 0 S fun x r => xgo (n, L, (1, x) :: r, K, H)
    | .l2i => xu1 1 S fun x r => xgo (n, L, (0, xl2i x) :: r, K, H)
    | .i2b => xu1 0 S fun x r => xgo (n, L, (0, xi2b x) :: r, K, H)
    | .i2c => xu1 0 S fun x r => xgo (n, L, (0, xi2c x) :: r, K, H)
    | .ifCond c _ => xu1 0 S fun x r => xbr (xcnd c x 0) (r1, L, r, K, H) (n, L, r, K, H)
    | .if_icmp c _ => xb2 0 0 S fun x y r => xbr (xcnd c x y) (r1, L, r, K, H) (n, L, r, K, H)
    | .ifnull _ => xu1 2 S fun x r => (match x with
      | .ofNat _ => xgo (n, L, r, K, H)
      | .negSucc _ => xgo (r1, L, r, K, H))
    | .goto _ => xgo (r1, L, S, K, H)
    | .tableswitch _ _ _ _ => xu1 0 S fun x r => xsx x (tl.map fun q => (q.1, q.2, L, r, K, H)) (r1, L, r, K, H)
    | .lookupswitch _ _ => xu1 0 S fun x r => xsx x (tl.map fun q => (q.1, q.2, L, r, K, H)) (r1, L, r, K, H)
    | .dup => xdup n L S K H
    | .dup2 => xdup2 n L S K H
    | .pop => xpop n L S K H
    | .getfield _ => xgf E.2.1 n r1 r2 tl L S K H
    | .putfield _ => xpf E.2.1 n r1 r2 L S K H
    | .iaload => xald 1 0 n E.1 L S K H
    | .laload => xald 2 1 n E.1 L S K H
    | .caload => xald 5 0 n E.1 L S K H
    | .baload => xbald E.2.2.1 n L S K H
    | .iastore => xast 1 0 n L S K H
    | .lastore => xast 2 1 n L S K H
    | .castore => xast 5 0 n L S K H
    | .bastore => xast 3 0 n L S K H
    | .arraylength => xalen E.2.2.1 n E.1 L S K H
    | .newarray _ => xnewa r1 n L S K H
    | .new _ => xnew E.2.1 n r1 L S K H
    | .invokevirtual _ => xinv E.2.2.2 n r1 r2 L S K H
    | .invokestatic _ => xinv E.2.2.2 n r1 r2 L S K H
    | .invokespecial _ => xinv E.2.2.2 n r1 r2 L S K H
    | .ireturn => xret rt 0 S K H
    | .lreturn => xret rt 1 S K H
    | .return_ => (match S with
      | [] => bif Nat.beq rt 2 then xrt True 0 K H else xno
      | _ => xno)
    | _ => xno
/-- one step from a point -/
def xstp (E : XE) (C : XC) (cd : Nat → XI) (rt : Nat) (P : XG → Prop) (Q : XQ) (g : XG) : Prop := xres C P Q (xop E rt g.1 (cd g.1) g.2.1 g.2.2.1 g.2.2.2.1 g.2.2.2.2)
/-- from this point of the body it comes to a return with Q -/
def xWB (E : XE) (C : XC) (cd : Nat → XI) (rt : Nat) (Q : XQ) (g : XG) : Prop := ∀ P : XG → Prop, (∀ g, xstp E C cd rt P Q g → P g) → P g
def xsumc (a : List XV) : Nat := (a.map xcat).foldr Nat.add 0
def xWM (E : XE) (MC : Nat → (Nat → XI) × Nat × Nat) : Nat → XC
  | 0, _, _, _, _, _ => False
  | d + 1, y, a, K, H, Q => Nat.ble (xsumc a) (MC y).2.2 = true ∧ xWB E (xWM E MC d) (MC y).1 (MC y).2.1 Q (100000, xent 0 a, [], K, H)
def xmonoC (C : XC) : Prop := ∀ (y : Nat) (a : List XV) (K : XW) (H : XH) (Q Q' : XQ), (∀ r K' H', Q r K' H' → Q' r K' H') → C y a K H Q → C y a K H Q'
theorem xswi_mono {P P' : XG → Prop} (h : ∀ g, P g → P' g) {x : Int} {d : XG} : ∀ l : List (Int × XG), xswi P x d l → xswi P' x d l
  | [], k => h _ k
  | (_, _) :: l, k => ⟨fun e => h _ (k.1 e), fun e => xswi_mono h l (k.2 e)⟩
theorem xres_mono {C : XC} (hC : xmonoC C) {P P' : XG → Prop} {Q Q' : XQ} (h : ∀ g, P g → P' g) (hQ : ∀ r K' H', Q r K' H' → Q' r K' H') : ∀ o : XR, xres C P Q o → xres C P' Q' o
  | .inl _, k => h _ k
  | .inr (.inl (_, _)), k => ⟨k.1, h _ k.2⟩
  | .inr (.inr (.inl (_, _, _))), k => ⟨fun e => h _ (k.1 e), fun e => h _ (k.2 e)⟩
  | .inr (.inr (.inr (.inl (y, a, K, H, f)))), k => hC y a K H _ _ (fun _ _ _ e => h _ e) k
  | .inr (.inr (.inr (.inr (.inl (_, _, _, _))))), k => ⟨k.1, hQ _ _ _ k.2⟩
  | .inr (.inr (.inr (.inr (.inr (.inl (_, l, _)))))), k => xswi_mono h l k
  | .inr (.inr (.inr (.inr (.inr (.inr _))))), k => k
theorem xWB.one {E : XE} {C : XC} (hC : xmonoC C) {cd : Nat → XI} {rt : Nat} {Q : XQ} {g : XG} (h : xstp E C cd rt (xWB E C cd rt Q) Q g) : xWB E C cd rt Q g :=
  fun P hP => hP g (xres_mono hC (fun g' k => k P hP) (fun _ _ _ k => k) _ h)
theorem xWB.mono {E : XE} {C : XC} (hC : xmonoC C) {cd : Nat → XI} {rt : Nat} {Q Q' : XQ} (hQ : ∀ r K' H', Q r K' H' → Q' r K' H') {g : XG} (h : xWB E C cd rt Q g) : xWB E C cd rt Q' g :=
  fun P hP => h P (fun g' k => hP g' (xres_mono hC (fun _ e => e) hQ _ k))
theorem xWM_mono (E : XE) (MC : Nat → (Nat → XI) × Nat × Nat) : ∀ d, xmonoC (xWM E MC d)
  | 0 => fun _ _ _ _ _ _ _ h => h
  | d + 1 => fun _ _ _ _ _ _ hQ h => ⟨h.1, xWB.mono (xWM_mono E MC d) hQ h.2⟩
/-- k steps in one go -/
def xstpN (E : XE) (C : XC) (cd : Nat → XI) (rt : Nat) (P : XG → Prop) (Q : XQ) : Nat → XG → Prop
  | 0, g => P g
  | k + 1, g => xstp E C cd rt (xstpN E C cd rt P Q k) Q g
theorem xWB.steps {E : XE} {C : XC} (hC : xmonoC C) {cd : Nat → XI} {rt : Nat} {Q : XQ} : ∀ (k : Nat) {g : XG}, xstpN E C cd rt (xWB E C cd rt Q) Q k g → xWB E C cd rt Q g
  | 0, _, h => h
  | k + 1, _, h => xWB.one hC (xres_mono hC (fun _ e => xWB.steps hC k e) (fun _ _ _ e => e) _ h)
