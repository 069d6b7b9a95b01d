/-! the same machine on lists of writes, for the constructors: to be counted out by the kernel -/
abbrev EW : Type := List (Nat × Nat × Nat × Int)
abbrev EP : Type := List (Nat × Nat × Nat × Option (Nat × Nat))
abbrev ES : Type := EW × EP × Nat × Nat
abbrev ER : Type := V × ES
abbrev EK : Type := Nat → List V → ES → Option ER
def eD : EW → Nat → Nat → Nat → Option Int
  | [], f, _, _ => bif Nat.beq f 0 then none else some 0
  | (a, b, c, v) :: t, f, j, k => bif Nat.beq a f && (Nat.beq b j && Nat.beq c k) then some v else eD t f j k
def eR : EP → Nat → Nat → Nat → Option (Nat × Nat)
  | [], _, _, _ => none
  | (a, b, c, v) :: t, f, j, k => bif Nat.beq a f && (Nat.beq b j && Nat.beq c k) then v else eR t f j k
def eW (A : ES) (f j k : Nat) (v : Int) : ES := ((f, j, k, v) :: A.1, A.2)
def eP (A : ES) (f j k : Nat) (v : Option (Nat × Nat)) : ES := (A.1, (f, j, k, v) :: A.2.1, A.2.2)
def eN (A : ES) (u : Nat) : ES := (A.1, A.2.1, A.2.2.1 + 1, A.2.2.2 + u)
def est (K : EK) (mi : MI) (ins : Instr) (len pc : Nat) (l : Lc) (st : List V) (A : ES) (k : Nat → Lc → List V → ES → Option ER) : Option ER := match ins with
  | .iload_n n => match lk l n.val with
    | some (.inl x) => k (pc + len) l (vi x :: st) A
    | _ => none
  | .iload n => match lk l n with
    | some (.inl x) => k (pc + len) l (vi x :: st) A
    | _ => none
  | .aload_n n => match lk l n.val with
    | some (.inr (.inr x)) => k (pc + len) l (vr x :: st) A
    | _ => none
  | .istore_n n => match st with
    | .inl x :: r => bif Nat.blt n.val mi.2.2.2.2.2.2 then k (pc + len) (st1 l n.val (vi x)) r A else none
    | _ => none
  | .istore n => match st with
    | .inl x :: r => bif Nat.blt n mi.2.2.2.2.2.2 then k (pc + len) (st1 l n (vi x)) r A else none
    | _ => none
  | .astore_n n => match st with
    | .inr (.inr x) :: r => bif Nat.blt n.val mi.2.2.2.2.2.2 then k (pc + len) (st1 l n.val (vr x)) r A else none
    | _ => none
  | .iinc n c => match lk l n with
    | some (.inl x) => bif Nat.blt n mi.2.2.2.2.2.2 then k (pc + len) (st1 l n (vi (w32 (x + c)))) st A else none
    | _ => none
  | .iconst n => k (pc + len) l (vi n :: st) A
  | .bipush n => k (pc + len) l (vi n :: st) A
  | .sipush n => k (pc + len) l (vi n :: st) A
  | .lconst n => k (pc + len) l (vl (n.val : Int) :: st) A
  | .ldc2_w n => match mi.2.1 n with
    | some (5, _, _, _, _, v) => k (pc + len) l (vl v :: st) A
    | _ => none
  | .iadd => match st with
    | .inl y :: .inl x :: r => k (pc + len) l (vi (w32 (x + y)) :: r) A
    | _ => none
  | .isub => match st with
    | .inl y :: .inl x :: r => k (pc + len) l (vi (w32 (x - y)) :: r) A
    | _ => none
  | .imul => match st with
    | .inl y :: .inl x :: r => k (pc + len) l (vi (w32 (x * y)) :: r) A
    | _ => none
  | .ladd => match st with
    | .inr (.inl y) :: .inr (.inl x) :: r => k (pc + len) l (vl (w64 (x + y)) :: r) A
    | _ => none
  | .if_icmp .gt off => match st with
    | .inl y :: .inl x :: r => if y < x then k (jmp pc off) l r A else k (pc + len) l r A
    | _ => none
  | .if_icmp .ge off => match st with
    | .inl y :: .inl x :: r => if x < y then k (pc + len) l r A else k (jmp pc off) l r A
    | _ => none
  | .goto off => k (jmp pc off) l st A
  | .dup => match st with
    | v :: r => bif cat2 v then none else k (pc + len) l (v :: v :: r) A
    | _ => none
  | .getfield n => match st with
    | .inr (.inr (some (f, j))) :: r => match mi.2.1 n with
      | some (0, ci, kk, ty, _, _) => bif isObj f ci && Nat.beq ty 3 then k (pc + len) l (vr (eR A.2.1 f j kk) :: r) A else none
      | _ => none
    | _ => none
  | .putfield n => match st with
    | v :: .inr (.inr (some (f, j))) :: r => match mi.2.1 n with
      | some (0, ci, kk, ty, fin, _) => bif isObj f ci && (Nat.beq fin 0 || (mi.2.2.2.2.2.1 && Nat.beq mi.2.2.2.2.1 ci)) then
          (match v with
           | .inl x => bif Nat.beq ty 0 then k (pc + len) l r (eW A f j kk x) else bif Nat.beq ty 1 then (if x = 0 ∨ x = 1 then k (pc + len) l r (eW A f j kk x) else none) else none
           | .inr (.inl x) => bif Nat.beq ty 2 then k (pc + len) l r (eW A f j kk x) else none
           | .inr (.inr p) => bif Nat.beq ty 3 && okp p then k (pc + len) l r (eP A f j kk p) else none)
        else none
      | _ => none
    | _ => none
  | .laload => match st with
    | .inl i :: .inr (.inr (some (f, j))) :: r => bif Nat.beq (fk f) 6 then (if 0 ≤ i ∧ i < fn f then (match eD A.1 f j i.toNat with
      | some x => k (pc + len) l (vl x :: r) A
      | none => none) else none) else none
    | _ => none
  | .iastore => match st with
    | .inl x :: .inl i :: .inr (.inr (some (f, j))) :: r => bif Nat.beq (fk f) 3 then (if 0 ≤ i ∧ i < fn f then k (pc + len) l r (eW A f j i.toNat x) else none) else none
    | _ => none
  | .lastore => match st with
    | .inr (.inl x) :: .inl i :: .inr (.inr (some (f, j))) :: r => bif Nat.beq (fk f) 6 then (if 0 ≤ i ∧ i < fn f then k (pc + len) l r (eW A f j i.toNat x) else none) else none
    | _ => none
  | .aastore => match st with
    | .inr (.inr (some (g, h))) :: .inl i :: .inr (.inr (some (f, j))) :: r => bif Nat.beq (fk f) 7 && isObj g (fc f) then (if 0 ≤ i ∧ i < fn f then k (pc + len) l r (eP A f j i.toNat (some (g, h))) else none) else none
    | _ => none
  | .return_ => match st with
    | [] => bif Nat.beq mi.2.2.2.1 4 then some (vi 0, A) else none
    | _ => none
  | .invokespecial n => match mi.2.1 n with
    | some (9, z, ac, ci, rk, _) => match st.drop ac with
      | .inr (.inr (some (f, j))) :: r => bif isObj f ci && Nat.beq rk 0 && Nat.ble (csum r) 8 then (match K z (vr (some (f, j)) :: (st.take ac).reverse) A with
        | some (_, A) => k (pc + len) l r A
        | none => none) else none
      | _ => none
    | some (10, z, ac, ci, rk, _) => match st.drop ac with
      | .inr (.inr (some (f, j))) :: r => bif isObj f ci && Nat.beq rk 0 && Nat.ble (csum r) 8 then (match K z (vr (some (f, j)) :: (st.take ac).reverse) A with
        | some (_, A) => k (pc + len) l r A
        | none => none) else none
      | _ => none
    | some (2, 0, _, _, _, _) => match st with
      | .inr (.inr (some (_, _))) :: r => bif Nat.ble (csum r) 8 then k (pc + len) l r A else none
      | _ => none
    | _ => none
  | .new n => match mi.2.1 n with
    | some (3, ci, _, _, _, _) => bif isObj (ordN A.2.2.1).1 ci && Nat.blt A.2.2.1 321 then k (pc + len) l (vr (some (ordN A.2.2.1)) :: st) (eN A (nf ci)) else none
    | _ => none
  | .newarray t => match st with
    | .inl n :: r => bif Nat.beq (fk (ordN A.2.2.1).1) (akind t) && Nat.blt A.2.2.1 321 then (if n = fn (ordN A.2.2.1).1 then k (pc + len) l (vr (some (ordN A.2.2.1)) :: r) (eN A n.toNat) else none) else none
    | _ => none
  | .anewarray n => match st with
    | .inl m :: r => match mi.2.1 n with
      | some (3, ci, _, _, _, _) => bif Nat.beq (fk (ordN A.2.2.1).1) 7 && Nat.beq (fc (ordN A.2.2.1).1) ci && Nat.blt A.2.2.1 321 then (if m = fn (ordN A.2.2.1).1 then k (pc + len) l (vr (some (ordN A.2.2.1)) :: r) (eN A m.toNat) else none) else none
      | _ => none
    | _ => none
  | _ => none
def ebk (K : EK) (mi : MI) (back : Nat → Lc → List V → ES → Option ER) : Nat → Nat → Lc → List V → ES → Option ER
  | 0 => fun _ _ _ _ => none
  | b + 1 => fun pc l st A => match mi.1 pc with
    | none => none
    | some (ins, len) => est K mi ins len pc l st A (fun pc l st A => match mi.2.2.1 pc with
      | some ks => back pc (pick ks l) st A
      | none => ebk K mi back b pc l st A)
def ern (K : EK) (mi : MI) : Nat → Nat → Lc → List V → ES → Option ER
  | 0 => fun _ _ _ _ => none
  | n + 1 => ebk K mi (ern K mi n) 800
/-- the law's head, at its place 18 -/
def LH : Lc := [(0, vr (some (0, 0))), (1, vr (some (2, 0))), (2, vr (some (85, 0))), (3, vi 0)]
def eqL : Lc → Lc → Bool
  | [], [] => true
  | (i, v) :: s, (j, w) :: t => Nat.beq i j && (decide (v = w) && eqL s t)
  | _, _ => false
def ebkL : Nat → Lc → List V → ES → Option ER := fun pc l st A => bif Nat.beq pc 18 && (eqL l LH && st.isEmpty) then some (vr none, A) else none
