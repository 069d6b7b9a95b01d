/-! the abstract machine: numbers are whole numbers, wrapped; references are pairs (family, place) -/
abbrev V : Type := Int ⊕ (Int ⊕ Option (Nat × Nat))
abbrev vi (x : Int) : V := .inl x
abbrev vl (x : Int) : V := .inr (.inl x)
abbrev vr (p : Option (Nat × Nat)) : V := .inr (.inr p)
abbrev SD : Type := (Nat → Nat → Nat → Int) × (Nat → Nat → Nat → Option (Nat × Nat)) × Nat × Nat
abbrev RR : Type := V × SD
abbrev Lc : Type := List (Nat × V)
abbrev KT : Type := Nat → List V → SD → Option RR
abbrev PE : Type := Nat × Nat × Nat × Nat × Nat × Int
abbrev MI : Type := (Nat → Option (Instr × Nat)) × (Nat → Option PE) × (Nat → Option (List Nat)) × Nat × Nat × Bool × Nat
/-- the arithmetic, as a parameter: so a walk between cuts never looks into it -/
abbrev AR : Type := (Int → Int) × (Int → Int) × (Nat → Int → Int → Int)
def aw (o : AR) (z : Int) : Int := o.1 z
def al (o : AR) (z : Int) : Int := o.2.1 z
def ab (o : AR) (k : Nat) (x y : Int) : Int := o.2.2 k x y
def w32 (z : Int) : Int := Int.bmod z 4294967296
def w64 (z : Int) : Int := Int.bmod z 18446744073709551616
def gD (S : SD) (f j k : Nat) : Int := S.1 f j k
def gR (S : SD) (f j k : Nat) : Option (Nat × Nat) := S.2.1 f j k
def wD (S : SD) (f j k : Nat) (v : Int) : SD := (fun f' j' k' => if f' = f ∧ j' = j ∧ k' = k then v else S.1 f' j' k', S.2)
def wR (S : SD) (f j k : Nat) (v : Option (Nat × Nat)) : SD := (S.1, fun f' j' k' => if f' = f ∧ j' = j ∧ k' = k then v else S.2.1 f' j' k', S.2.2)
def wC (S : SD) (f j dp : Nat) (n : Nat) (g i sp : Nat) : SD := (fun f' j' k' => if f' = f ∧ j' = j ∧ dp ≤ k' ∧ k' < dp + n then S.1 g i (sp + (k' - dp)) else S.1 f' j' k', S.2)
def wN (S : SD) (u : Nat) : SD := (S.1, S.2.1, S.2.2.1 + 1, S.2.2.2 + u)
def lk : Lc → Nat → Option V
  | [], _ => none
  | (i, v) :: t, n => bif Nat.beq i n then some v else lk t n
def cat2 (v : V) : Bool := match v with
  | .inr (.inl _) => true
  | _ => false
def st1 (l : Lc) (i : Nat) (v : V) : Lc := (i, v) :: l.filter (fun q => !(Nat.beq q.1 i) && !(Nat.beq (q.1 + 1) i && cat2 q.2))
def st2 (l : Lc) (i : Nat) (v : V) : Lc := (i, v) :: l.filter (fun q => !(Nat.beq q.1 i) && (!(Nat.beq q.1 (i + 1)) && !(Nat.beq (q.1 + 1) i && cat2 q.2)))
def pick (ks : List Nat) (l : Lc) : Lc := ks.filterMap fun k => (lk l k).map fun v => (k, v)
def csum (r : List V) : Nat := match r with
  | [] => 0
  | v :: t => (bif cat2 v then 2 else 1) + csum t
def bV (o : Option RR) (k : SD → Option RR) : Option RR := match o with
  | some (_, S) => k S
  | none => none
def bI (o : Option RR) (k : Int → SD → Option RR) : Option RR := match o with
  | some (.inl x, S) => k x S
  | _ => none
def bL (o : Option RR) (k : Int → SD → Option RR) : Option RR := match o with
  | some (.inr (.inl x), S) => k x S
  | _ => none
def bR (o : Option RR) (fr : Nat) (kn : SD → Option RR) (kj : Nat → SD → Option RR) : Option RR := match o with
  | some (.inr (.inr none), S) => kn S
  | some (.inr (.inr (some (f, j))), S) => if f = fr then kj j S else none
  | _ => none
def rR (o : Option (Nat × Nat)) (fr : Nat) (kn : Option RR) (kj : Nat → Option RR) : Option RR := match o with
  | none => kn
  | some (f, j) => if f = fr then kj j else none
def lI (l : Lc) (n : Nat) (k : Int → Option RR) : Option RR := match lk l n with
  | some (.inl x) => k x
  | _ => none
def lL (l : Lc) (n : Nat) (k : Int → Option RR) : Option RR := match lk l n with
  | some (.inr (.inl x)) => k x
  | _ => none
def lR (l : Lc) (n : Nat) (k : Option (Nat × Nat) → Option RR) : Option RR := match lk l n with
  | some (.inr (.inr x)) => k x
  | _ => none
def p1 (st : List V) (k : Int → List V → Option RR) : Option RR := match st with
  | .inl x :: r => k x r
  | _ => none
def p2 (st : List V) (k : Int → Int → List V → Option RR) : Option RR := match st with
  | .inl y :: .inl x :: r => k x y r
  | _ => none
def q1 (st : List V) (k : Int → List V → Option RR) : Option RR := match st with
  | .inr (.inl x) :: r => k x r
  | _ => none
def q2 (st : List V) (k : Int → Int → List V → Option RR) : Option RR := match st with
  | .inr (.inl y) :: .inr (.inl x) :: r => k x y r
  | _ => none
def lsh (st : List V) (k : Int → Int → List V → Option RR) : Option RR := match st with
  | .inl y :: .inr (.inl x) :: r => k x y r
  | _ => none
def pR (st : List V) (k : Nat → Nat → List V → Option RR) : Option RR := match st with
  | .inr (.inr (some (f, j))) :: r => k f j r
  | _ => none
def pN (st : List V) (kn : List V → Option RR) (k : List V → Option RR) : Option RR := match st with
  | .inr (.inr (some _)) :: r => k r
  | .inr (.inr none) :: r => kn r
  | _ => none
def iand (x y : Int) : Int := (Int32.ofInt x &&& Int32.ofInt y).toInt
def ior (x y : Int) : Int := (Int32.ofInt x ||| Int32.ofInt y).toInt
def ixor (x y : Int) : Int := (Int32.ofInt x ^^^ Int32.ofInt y).toInt
def ishl (x y : Int) : Int := (Int32.ofInt x <<< (Int32.ofInt y &&& 31)).toInt
def ishr (x y : Int) : Int := (Int32.ofInt x >>> (Int32.ofInt y &&& 31)).toInt
def land (x y : Int) : Int := (Int64.ofInt x &&& Int64.ofInt y).toInt
def lor (x y : Int) : Int := (Int64.ofInt x ||| Int64.ofInt y).toInt
def lshl (x y : Int) : Int := (Int64.ofInt x <<< ((Int32.ofInt y).toInt64 &&& 63)).toInt
def lshr (x y : Int) : Int := (Int64.ofInt x >>> ((Int32.ofInt y).toInt64 &&& 63)).toInt
def lcm (x y : Int) : Int := if y < x then 1 else if x = y then 0 else -1
def jmp (pc : Nat) (off : Int) : Nat := ((pc : Int) + off).toNat
def swk (x : Int) (d : Option RR) (k : Int → Option RR) : Int → List Int → Option RR
  | _, [] => d
  | lo, o :: t => if x = lo then k o else swk x d k (lo + 1) t
def cnd (c : ClassFile.Cond) (x y : Int) (t n : Option RR) : Option RR := match c with
  | .eq => if x = y then t else n
  | .ne => if x = y then n else t
  | .lt => if x < y then t else n
  | .ge => if x < y then n else t
  | .gt => if y < x then t else n
  | .le => if y < x then n else t
/-- a call's answer laid on the stack -/
def cal (o : Option RR) (rk : Nat) (kk : List V → SD → Option RR) : Option RR :=
  bif Nat.beq rk 0 then bV o (fun S => kk [] S)
  else bif Nat.beq rk 1 then bI o (fun x S => kk [vi x] S)
  else bif Nat.beq rk 2 then bL o (fun x S => kk [vl x] S)
  else bR o 47 (fun S => kk [vr none] S) (fun j S => kk [vr (some (47, j))] S)
def okp (p : Option (Nat × Nat)) : Bool := match p with
  | none => true
  | some (f, _) => Nat.ble 2 f
def isObj (f c : Nat) : Bool := Nat.beq (fk f) 2 && Nat.beq (fc f) c
def bndI (S : SD) (f : Nat) (i : Int) (k : Option RR) : Option RR :=
  bif Nat.beq (fk f) 0 then (if 0 ≤ i ∧ i < gD S 0 1 0 then k else none) else (if 0 ≤ i ∧ i < fn f then k else none)
def akind (t : ArrayType) : Nat := match t with
  | .int => 3
  | .boolean => 4
  | .byte => 5
  | .long => 6
  | _ => 77
def stp (o : AR) (K : KT) (md : Bool) (mi : MI) (ins : Instr) (len pc : Nat) (l : Lc) (st : List V) (S : SD) (k : Nat → Lc → List V → SD → Option RR) : Option RR := match ins with
  | .iload_n n => lI l n.val (fun x => k (pc + len) l (vi x :: st) S)
  | .iload n => lI l n (fun x => k (pc + len) l (vi x :: st) S)
  | .lload_n n => lL l n.val (fun x => k (pc + len) l (vl x :: st) S)
  | .lload n => lL l n (fun x => k (pc + len) l (vl x :: st) S)
  | .aload_n n => lR l n.val (fun x => k (pc + len) l (vr x :: st) S)
  | .aload n => lR l n (fun x => k (pc + len) l (vr x :: st) S)
  | .istore_n n => p1 st (fun x r => bif Nat.blt n.val mi.2.2.2.2.2.2 then k (pc + len) (st1 l n.val (vi x)) r S else none)
  | .istore n => p1 st (fun x r => bif Nat.blt n mi.2.2.2.2.2.2 then k (pc + len) (st1 l n (vi x)) r S else none)
  | .lstore_n n => q1 st (fun x r => bif Nat.blt (n.val + 1) mi.2.2.2.2.2.2 then k (pc + len) (st2 l n.val (vl x)) r S else none)
  | .lstore n => q1 st (fun x r => bif Nat.blt (n + 1) mi.2.2.2.2.2.2 then k (pc + len) (st2 l n (vl x)) r S else none)
  | .astore_n n => match st with
    | .inr (.inr x) :: r => bif Nat.blt n.val mi.2.2.2.2.2.2 then k (pc + len) (st1 l n.val (vr x)) r S else none
    | _ => none
  | .astore n => match st with
    | .inr (.inr x) :: r => bif Nat.blt n mi.2.2.2.2.2.2 then k (pc + len) (st1 l n (vr x)) r S else none
    | _ => none
  | .iinc n c => lI l n (fun x => bif Nat.blt n mi.2.2.2.2.2.2 then k (pc + len) (st1 l n (vi (aw o (x + c)))) st S else none)
  | .iconst n => k (pc + len) l (vi n :: st) S
  | .bipush n => k (pc + len) l (vi n :: st) S
  | .sipush n => k (pc + len) l (vi n :: st) S
  | .lconst n => k (pc + len) l (vl (n.val : Int) :: st) S
  | .aconst_null => k (pc + len) l (vr none :: st) S
  | .ldc n => match mi.2.1 n with
    | some (4, _, _, _, _, v) => k (pc + len) l (vi v :: st) S
    | some (6, j, _, _, _, _) => k (pc + len) l (vr (some (1, j)) :: st) S
    | _ => none
  | .ldc_w n => match mi.2.1 n with
    | some (4, _, _, _, _, v) => k (pc + len) l (vi v :: st) S
    | _ => none
  | .ldc2_w n => match mi.2.1 n with
    | some (5, _, _, _, _, v) => k (pc + len) l (vl v :: st) S
    | _ => none
  | .iadd => p2 st (fun x y r => k (pc + len) l (vi (aw o (x + y)) :: r) S)
  | .isub => p2 st (fun x y r => k (pc + len) l (vi (aw o (x - y)) :: r) S)
  | .imul => p2 st (fun x y r => k (pc + len) l (vi (aw o (x * y)) :: r) S)
  | .idiv => p2 st (fun x y r => if y = 0 then none else k (pc + len) l (vi (aw o (ab o 12 x y)) :: r) S)
  | .irem => p2 st (fun x y r => if y = 0 then none else k (pc + len) l (vi (aw o (x - ab o 12 x y * y)) :: r) S)
  | .ineg => p1 st (fun x r => k (pc + len) l (vi (aw o (-x)) :: r) S)
  | .iand => p2 st (fun x y r => k (pc + len) l (vi (ab o 0 x y) :: r) S)
  | .ior => p2 st (fun x y r => k (pc + len) l (vi (ab o 1 x y) :: r) S)
  | .ixor => p2 st (fun x y r => k (pc + len) l (vi (ab o 2 x y) :: r) S)
  | .ishl => p2 st (fun x y r => k (pc + len) l (vi (ab o 3 x y) :: r) S)
  | .ishr => p2 st (fun x y r => k (pc + len) l (vi (ab o 4 x y) :: r) S)
  | .ladd => q2 st (fun x y r => k (pc + len) l (vl (al o (x + y)) :: r) S)
  | .lmul => q2 st (fun x y r => k (pc + len) l (vl (al o (x * y)) :: r) S)
  | .ldiv => q2 st (fun x y r => if y = 0 then none else k (pc + len) l (vl (al o (ab o 12 x y)) :: r) S)
  | .land => q2 st (fun x y r => k (pc + len) l (vl (ab o 5 x y) :: r) S)
  | .lor => q2 st (fun x y r => k (pc + len) l (vl (ab o 6 x y) :: r) S)
  | .lshl => lsh st (fun x y r => k (pc + len) l (vl (ab o 7 x y) :: r) S)
  | .lshr => lsh st (fun x y r => k (pc + len) l (vl (ab o 8 x y) :: r) S)
  | .lcmp => q2 st (fun x y r => k (pc + len) l (vi (ab o 9 x y) :: r) S)
  | .i2l => p1 st (fun x r => k (pc + len) l (vl x :: r) S)
  | .i2b => p1 st (fun x r => k (pc + len) l (vi (ab o 13 x 256) :: r) S)
  | .ifCond c off => p1 st (fun x r => cnd c x 0 (k (jmp pc off) l r S) (k (pc + len) l r S))
  | .if_icmp c off => p2 st (fun x y r => cnd c x y (k (jmp pc off) l r S) (k (pc + len) l r S))
  | .ifnull off => pN st (fun r => k (jmp pc off) l r S) (fun r => k (pc + len) l r S)
  | .ifnonnull off => pN st (fun r => k (pc + len) l r S) (fun r => k (jmp pc off) l r S)
  | .goto off => k (jmp pc off) l st S
  | .tableswitch d lo _ offs => p1 st (fun x r => swk x (k (jmp pc d) l r S) (fun o => k (jmp pc o) l r S) lo offs.toList)
  | .dup => match st with
    | v :: r => bif cat2 v then none else k (pc + len) l (v :: v :: r) S
    | _ => none
  | .dup2 => match st with
    | v :: w :: r => bif cat2 v || cat2 w then none else k (pc + len) l (v :: w :: v :: w :: r) S
    | _ => none
  | .pop => match st with
    | v :: r => bif cat2 v then none else k (pc + len) l r S
    | _ => none
  | .getfield n => pR st (fun f j r => match mi.2.1 n with
    | some (0, ci, kk, ty, _, _) => bif isObj f ci then
        (bif Nat.beq ty 2 then k (pc + len) l (vl (gD S f j kk) :: r) S
         else bif Nat.beq ty 3 then
           (bif md then k (pc + len) l (vr (gR S f j kk) :: r) S
            else match tR f j kk with
              | some p => k (pc + len) l (vr p :: r) S
              | none => rR (gR S f j kk) 47 (k (pc + len) l (vr none :: r) S) (fun i => k (pc + len) l (vr (some (47, i)) :: r) S))
         else k (pc + len) l (vi (gD S f j kk) :: r) S)
      else none
    | _ => none)
  | .putfield n => match st with
    | v :: .inr (.inr (some (f, j))) :: r => match mi.2.1 n with
      | some (0, ci, kk, ty, fin, _) => bif isObj f ci && (Nat.beq fin 0 || (mi.2.2.2.2.2.1 && Nat.beq mi.2.2.2.2.1 ci)) then
          (match v with
           | .inl x => bif Nat.beq ty 0 then k (pc + len) l r (wD S f j kk x) else bif Nat.beq ty 1 then (if x = 0 ∨ x = 1 then k (pc + len) l r (wD S f j kk x) else none) else none
           | .inr (.inl x) => bif Nat.beq ty 2 then k (pc + len) l r (wD S f j kk x) else none
           | .inr (.inr p) => bif Nat.beq ty 3 && okp p then
              (bif md then k (pc + len) l r (wR S f j kk p) else match tR f j kk with
                | some _ => none
                | none => k (pc + len) l r (wR S f j kk p))
              else none)
        else none
      | _ => none
    | _ => none
  | .iaload => p1 st (fun i r => pR r (fun f j r => bif Nat.beq (fk f) 3 || Nat.beq (fk f) 0 then bndI S f i (k (pc + len) l (vi (gD S f j i.toNat) :: r) S) else none))
  | .baload => p1 st (fun i r => pR r (fun f j r => bif Nat.beq (fk f) 4 || Nat.beq (fk f) 5 then bndI S f i (k (pc + len) l (vi (gD S f j i.toNat) :: r) S) else none))
  | .laload => p1 st (fun i r => pR r (fun f j r => bif Nat.beq (fk f) 6 then bndI S f i (k (pc + len) l (vl (gD S f j i.toNat) :: r) S) else none))
  | .aaload => p1 st (fun i r => pR r (fun f j r => bif Nat.beq (fk f) 7 then bndI S f i (bif md then k (pc + len) l (vr (gR S f j i.toNat) :: r) S else match tR f j i.toNat with
      | some p => k (pc + len) l (vr p :: r) S
      | none => none) else none))
  | .iastore => p2 st (fun i x r => pR r (fun f j r => bif Nat.beq (fk f) 3 then bndI S f i (k (pc + len) l r (wD S f j i.toNat x)) else none))
  | .bastore => p2 st (fun i x r => pR r (fun f j r => bif Nat.beq (fk f) 4 then bndI S f i (if x = 0 ∨ x = 1 then k (pc + len) l r (wD S f j i.toNat x) else none)
      else bif Nat.beq (fk f) 5 then bndI S f i (if -128 ≤ x ∧ x < 128 then k (pc + len) l r (wD S f j i.toNat x) else none) else none))
  | .lastore => q1 st (fun x r => p1 r (fun i r => pR r (fun f j r => bif Nat.beq (fk f) 6 then bndI S f i (k (pc + len) l r (wD S f j i.toNat x)) else none)))
  | .aastore => bif md then (match st with
    | .inr (.inr (some (g, h))) :: .inl i :: .inr (.inr (some (f, j))) :: r => bif Nat.beq (fk f) 7 && isObj g (fc f) then bndI S f i (k (pc + len) l r (wR S f j i.toNat (some (g, h)))) else none
    | _ => none) else none
  | .arraylength => pR st (fun f _ r => bif Nat.beq (fk f) 0 then k (pc + len) l (vi (gD S 0 1 0) :: r) S else none)
  | .ireturn => p1 st (fun x r => match r with
    | [] => bif Nat.beq mi.2.2.2.1 1 then (if x = 0 ∨ x = 1 then some (vi x, S) else none) else bif Nat.beq mi.2.2.2.1 0 then some (vi x, S) else none
    | _ => none)
  | .lreturn => q1 st (fun x r => match r with
    | [] => bif Nat.beq mi.2.2.2.1 2 then some (vl x, S) else none
    | _ => none)
  | .areturn => match st with
    | [.inr (.inr p)] => bif Nat.beq mi.2.2.2.1 3 then some (vr p, S) else none
    | _ => none
  | .return_ => match st with
    | [] => bif Nat.beq mi.2.2.2.1 4 then some (vi 0, S) else none
    | _ => none
  | .invokevirtual n => match mi.2.1 n with
    | some (1, z, ac, ci, rk, _) => pR (st.drop ac) (fun f j r => bif isObj f ci && Nat.ble (csum r) 8 then cal (K z (vr (some (f, j)) :: (st.take ac).reverse) S) rk (fun v S => k (pc + len) l (v ++ r) S) else none)
    | some (2, 4, _, _, _, _) => pR st (fun f j r => bif Nat.beq f 1 && Nat.ble (csum r) 8 then k (pc + len) l (vi (strL j) :: r) S else none)
    | some (2, 5, _, _, _, _) => p1 st (fun i r => pR r (fun f j r => bif Nat.beq f 1 && Nat.ble (csum r) 8 then (if 0 ≤ i ∧ i < strL j then k (pc + len) l (vi (strC j i.toNat) :: r) S else none) else none))
    | _ => none
  | .invokestatic n => match mi.2.1 n with
    | some (7, z, ac, _, rk, _) => bif Nat.beq (st.take ac).length ac && Nat.ble (csum (st.drop ac)) 8 then cal (K z (st.take ac).reverse S) rk (fun v S => k (pc + len) l (v ++ st.drop ac) S) else none
    | some (8, z, ac, _, rk, _) => bif Nat.beq (st.take ac).length ac && Nat.ble (csum (st.drop ac)) 8 then cal (K z (st.take ac).reverse S) rk (fun v S => k (pc + len) l (v ++ st.drop ac) S) else none
    | some (2, 1, _, _, _, _) => p2 st (fun x y r => bif Nat.ble (csum r) 8 then k (pc + len) l (vi (ab o 10 x y) :: r) S else none)
    | some (2, 2, _, _, _, _) => p2 st (fun x y r => bif Nat.ble (csum r) 8 then k (pc + len) l (vi (ab o 11 x y) :: r) S else none)
    | some (2, 3, _, _, _, _) => p2 st (fun dp n r => pR r (fun f j r => p1 r (fun sp r => pR r (fun g i r => bif Nat.beq (fk f) 3 && Nat.beq (fk g) 3 && !(Nat.beq f g) && Nat.ble (csum r) 8 then
        (if 0 ≤ n ∧ 0 ≤ sp ∧ sp + n ≤ fn g then (if 0 ≤ dp ∧ dp + n ≤ fn f then k (pc + len) l r (wC S f j dp.toNat n.toNat g i sp.toNat) else none) else none) else none))))
    | _ => none
  | .invokespecial n => match mi.2.1 n with
    | some (9, z, ac, ci, rk, _) => bif md then pR (st.drop ac) (fun f j r => bif isObj f ci && Nat.beq rk 0 && Nat.ble (csum r) 8 then cal (K z (vr (some (f, j)) :: (st.take ac).reverse) S) 0 (fun v S => k (pc + len) l (v ++ r) S) else none) else none
    | some (10, z, ac, ci, rk, _) => bif md then pR (st.drop ac) (fun f j r => bif isObj f ci && Nat.beq rk 0 && Nat.ble (csum r) 8 then cal (K z (vr (some (f, j)) :: (st.take ac).reverse) S) 0 (fun v S => k (pc + len) l (v ++ r) S) else none) else none
    | some (2, 0, _, _, _, _) => pR st (fun _ _ r => bif Nat.ble (csum r) 8 then k (pc + len) l r S else none)
    | _ => none
  | .new n => match mi.2.1 n with
    | some (3, ci, _, _, _, _) => bif md && isObj (ordN S.2.2.1).1 ci && Nat.blt S.2.2.1 321 then k (pc + len) l (vr (some (ordN S.2.2.1)) :: st) (wN S (nf ci)) else none
    | _ => none
  | .newarray t => p1 st (fun n r => bif md && Nat.beq (fk (ordN S.2.2.1).1) (akind t) && Nat.blt S.2.2.1 321 then (if n = fn (ordN S.2.2.1).1 then k (pc + len) l (vr (some (ordN S.2.2.1)) :: r) (wN S n.toNat) else none) else none)
  | .anewarray n => p1 st (fun m r => match mi.2.1 n with
    | some (3, ci, _, _, _, _) => bif md && Nat.beq (fk (ordN S.2.2.1).1) 7 && Nat.beq (fc (ordN S.2.2.1).1) ci && Nat.blt S.2.2.1 321 then (if m = fn (ordN S.2.2.1).1 then k (pc + len) l (vr (some (ordN S.2.2.1)) :: r) (wN S m.toNat) else none) else none
    | _ => none)
  | _ => none
/-- from one cut to the next -/
def blk (o : AR) (K : KT) (md : Bool) (mi : MI) (back : Nat → Lc → List V → SD → Option RR) : Nat → Nat → Lc → List V → SD → Option RR
  | 0 => fun _ _ _ _ => none
  | b + 1 => fun pc l st S => match mi.1 pc with
    | none => none
    | some (ins, len) => stp o K md mi ins len pc l st S (fun pc l st S => match mi.2.2.1 pc with
      | some ks => back pc (pick ks l) st S
      | none => blk o K md mi back b pc l st S)
def run (o : AR) (K : KT) (md : Bool) (mi : MI) : Nat → Nat → Lc → List V → SD → Option RR
  | 0 => fun _ _ _ _ => none
  | n + 1 => blk o K md mi (run o K md mi n) 800
def argl : Nat → List V → Lc
  | _, [] => []
  | i, v :: t => (i, v) :: argl (bif cat2 v then i + 2 else i + 1) t
/-- the arithmetic itself -/
def oo : AR := (w32, w64, fun k x y => bif Nat.beq k 0 then iand x y else bif Nat.beq k 1 then ior x y else bif Nat.beq k 2 then ixor x y else bif Nat.beq k 3 then ishl x y else bif Nat.beq k 4 then ishr x y else bif Nat.beq k 5 then land x y else bif Nat.beq k 6 then lor x y else bif Nat.beq k 7 then lshl x y else bif Nat.beq k 8 then lshr x y else bif Nat.beq k 9 then lcm x y else bif Nat.beq k 10 then max x y else bif Nat.beq k 11 then min x y else bif Nat.beq k 12 then Int.tdiv x y else bif Nat.beq k 13 then Int.bmod x 256 else 0)
def FUEL : Nat := 1000000
def EE (md : Bool) : Nat → KT
  | 0 => fun _ _ _ => none
  | d + 1 => fun y a S => match mth y with
    | none => none
    | some mi => bif Nat.ble (csum a) mi.2.2.2.2.2.2 then run oo (EE md d) md mi FUEL 0 (argl 0 a) [] S else none
