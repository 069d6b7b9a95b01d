/-! layer 2: bits -/
theorem sh64 : ∀ n : Nat, n < 40 + 1 → ((Int32.ofInt (n : Int)).toInt64 &&& 63) = Int64.ofNat n := by decide
theorem sm64 : ∀ n : Nat, n < 40 + 1 → ((Int64.ofNat n).toBitVec.smod 64#64).toNat = n := by decide
theorem sh32 : ∀ n : Nat, n < 32 → (Int32.ofInt (n : Int) &&& 31) = Int32.ofNat n := by decide
theorem sm32 : ∀ n : Nat, n < 32 → ((Int32.ofNat n).toBitVec.smod 32#32).toNat = n := by decide
theorem tb_lshr {x : Int} {n i : Nat} (hn : n ≤ 40) (h : n + i < 64) : tb (ab oo 8 x (n : Int)) i = tb x (n + i) := by
  show (Int64.ofInt (Int64.ofInt x >>> ((Int32.ofInt (n : Int)).toInt64 &&& 63)).toInt).toBitVec.getLsbD i = _
  rw [Int64.ofInt_toInt, sh64 n (by omega), Int64.toBitVec_shiftRight]
  unfold BitVec.sshiftRight'
  rw [BitVec.getLsbD_sshiftRight]
  have e := sm64 n (by omega)
  have e2 : ((Int64.ofNat n).toBitVec.smod 64).toNat = n := e
  rw [e2]
  have h1 : ¬ 64 ≤ i := by omega
  simp [h1, h, tb]
theorem ti_ishr {x : Int} {n i : Nat} (h : n + i < 32) : ti (ab oo 4 x (n : Int)) i = ti x (n + i) := by
  show (Int32.ofInt (Int32.ofInt x >>> (Int32.ofInt (n : Int) &&& 31)).toInt).toBitVec.getLsbD i = _
  rw [Int32.ofInt_toInt, sh32 n (by omega), Int32.toBitVec_shiftRight]
  unfold BitVec.sshiftRight'
  rw [BitVec.getLsbD_sshiftRight]
  have e2 : ((Int32.ofNat n).toBitVec.smod 32).toNat = n := sm32 n (by omega)
  rw [e2]
  have h1 : ¬ 32 ≤ i := by omega
  simp [h1, h, ti]
theorem land_1 (x : Int) : ab oo 5 x 1 = if tb x 0 then 1 else 0 := by
  show (Int64.ofInt x &&& Int64.ofInt 1).toInt = _
  unfold tb
  generalize Int64.ofInt x = z
  have e : (z &&& Int64.ofInt 1).toBitVec = if z.toBitVec.getLsbD 0 then 1#64 else 0#64 := by
    rw [Int64.toBitVec_and]
    apply BitVec.eq_of_getLsbD_eq
    intro i hi
    rw [BitVec.getLsbD_and]
    have e1 : (Int64.ofInt 1).toBitVec = 1#64 := by decide
    rw [e1]
    by_cases h : i = 0
    · subst h
      cases z.toBitVec.getLsbD 0 <;> decide
    · have : (1#64).getLsbD i = false := by simp [BitVec.getLsbD_one, h]
      rw [this]
      cases z.toBitVec.getLsbD 0 <;> simp [BitVec.getLsbD_one, h]
  have e3 : (z &&& Int64.ofInt 1).toInt = (z &&& Int64.ofInt 1).toBitVec.toInt := rfl
  rw [e3, e]
  cases z.toBitVec.getLsbD 0 <;> decide
theorem iand_1 (x : Int) : ab oo 0 x 1 = if ti x 0 then 1 else 0 := by
  show (Int32.ofInt x &&& Int32.ofInt 1).toInt = _
  unfold ti
  generalize Int32.ofInt x = z
  have e : (z &&& Int32.ofInt 1).toBitVec = if z.toBitVec.getLsbD 0 then 1#32 else 0#32 := by
    rw [Int32.toBitVec_and]
    apply BitVec.eq_of_getLsbD_eq
    intro i hi
    rw [BitVec.getLsbD_and]
    have e1 : (Int32.ofInt 1).toBitVec = 1#32 := by decide
    rw [e1]
    by_cases h : i = 0
    · subst h
      cases z.toBitVec.getLsbD 0 <;> decide
    · have : (1#32).getLsbD i = false := by simp [BitVec.getLsbD_one, h]
      rw [this]
      cases z.toBitVec.getLsbD 0 <;> simp [BitVec.getLsbD_one, h]
  have e3 : (z &&& Int32.ofInt 1).toInt = (z &&& Int32.ofInt 1).toBitVec.toInt := rfl
  rw [e3, e]
  cases z.toBitVec.getLsbD 0 <;> decide
theorem tb_lor (x y : Int) (i : Nat) : tb (ab oo 6 x y) i = (tb x i || tb y i) := by
  show (Int64.ofInt (Int64.ofInt x ||| Int64.ofInt y).toInt).toBitVec.getLsbD i = _
  rw [Int64.ofInt_toInt, Int64.toBitVec_or, BitVec.getLsbD_or]
  rfl
theorem ti_ior (x y : Int) (i : Nat) : ti (ab oo 1 x y) i = (ti x i || ti y i) := by
  show (Int32.ofInt (Int32.ofInt x ||| Int32.ofInt y).toInt).toBitVec.getLsbD i = _
  rw [Int32.ofInt_toInt, Int32.toBitVec_or, BitVec.getLsbD_or]
  rfl
theorem tb_shl : ∀ n : Nat, n < 40 → ∀ i : Nat, i < 40 → tb (ab oo 7 1 (n : Int)) i = decide (i = n) := by decide +kernel
theorem ti_shl : ∀ n : Nat, n < 31 → ∀ i : Nat, i < 32 → ti (ab oo 3 1 (n : Int)) i = decide (i = n) := by decide +kernel
theorem tb_0 (i : Nat) : tb 0 i = false := by
  show (0#64).getLsbD i = false
  simp
theorem ti_0 (i : Nat) : ti 0 i = false := by
  show (0#32).getLsbD i = false
  simp
theorem shr_0 {x : Int} {T t : Nat} (h : ab oo 8 x (T : Int) = 0) (h1 : T ≤ t) (h2 : t < 40) : tb x t = false := by
  have := tb_lshr (x := x) (n := T) (i := t - T) (by omega) (by omega)
  rw [h, tb_0] at this
  rw [show T + (t - T) = t by omega] at this
  exact this.symm
/-- the bit that both sides look at -/
theorem bit64 (x : Int) (t : Nat) (ht : t ≤ 40) : ab oo 5 (ab oo 8 x (t : Int)) 1 = if tb x t then 1 else 0 := by
  rw [land_1, tb_lshr ht (by omega)]
  rfl
theorem bit32 (x : Int) (t : Nat) (ht : t < 32) : ab oo 0 (ab oo 4 x (t : Int)) 1 = if ti x t then 1 else 0 := by
  rw [iand_1, ti_ishr (by omega)]
  rfl
