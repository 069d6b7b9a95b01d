/-! what the constructors leave -/
theorem eD_in {f j k : Nat} (hf : f ≠ 0) : ∀ l : EW, ∃ v, eD l f j k = some v ∧ (v = 0 ∨ (f, j, k, v) ∈ l) := by
  intro l
  induction l with
  | nil =>
    refine ⟨0, ?_, Or.inl rfl⟩
    show (bif Nat.beq f 0 then none else some 0) = _
    cases h : Nat.beq f 0 with
    | true => exact absurd (Nat.eq_of_beq_eq_true h) hf
    | false => rfl
  | cons x t ih =>
    obtain ⟨a, b, c, v⟩ := x
    obtain ⟨w, i1, i2⟩ := ih
    show ∃ v', (bif Nat.beq a f && (Nat.beq b j && Nat.beq c k) then some v else eD t f j k) = some v' ∧ _
    cases h : (Nat.beq a f && (Nat.beq b j && Nat.beq c k)) with
    | true =>
      rw [Bool.and_eq_true, Bool.and_eq_true] at h
      refine ⟨v, rfl, Or.inr ?_⟩
      rw [← Nat.eq_of_beq_eq_true h.1, ← Nat.eq_of_beq_eq_true h.2.1, ← Nat.eq_of_beq_eq_true h.2.2]
      exact List.mem_cons_self
    | false =>
      exact ⟨w, i1, i2.elim Or.inl (fun q => Or.inr (List.mem_cons_of_mem _ q))⟩
theorem A1_v {S : SD} (hR : Rel A1 S) (f j k : Nat) (hf : f ≠ 0) : gD S f j k = 0 ∨ (f, j, k, gD S f j k) ∈ A1.1 := by
  obtain ⟨v, h1, h2⟩ := eD_in (f := f) (j := j) (k := k) hf A1.1
  have e : gD S f j k = v := hR.1 f j k v h1
  rw [e]
  exact h2
def nzF : List Nat := [2, 26, 27, 32, 68, 76, 79, 82, 83, 84, 85, 139, 169, 170]
def nzC (x : Nat × Nat × Nat × Int) : Bool := Nat.beq x.1 0 || (nzF.contains x.1 && ((!(Nat.beq x.1 2 || (Nat.beq x.1 68 || Nat.beq x.1 85))) || (x.2.2.2 == 0 || ((Nat.beq x.1 68 && Nat.beq x.2.2.1 10) || (Nat.beq x.1 85 && Nat.beq x.2.2.1 104)))) && ((!(Nat.beq x.1 139 || Nat.beq x.1 32)) || (decide (0 ≤ x.2.2.2) && (decide (x.2.2.2 ≤ 9) && Nat.blt x.2.2.1 64))) && ((!(Nat.beq x.1 82 || (Nat.beq x.1 83 || (Nat.beq x.1 169 || Nat.beq x.1 170)))) || Nat.blt x.2.2.1 8))
theorem nzC_ok : A1.1.all nzC = true := by decide +kernel
theorem A1_0 {S : SD} (hR : Rel A1 S) {f j k : Nat} (h : nzF.contains f = false ∧ f ≠ 0) : gD S f j k = 0 := by
  rcases A1_v hR f j k h.2 with q | q
  · exact q
  · have := List.all_eq_true.mp nzC_ok _ q
    unfold nzC at this
    simp only [h.1] at this
    simp at this
    exact absurd this h.2
theorem A1_c0 {S : SD} (hR : Rel A1 S) {f j k : Nat} (h : (f = 2 ∨ f = 68 ∨ f = 85) ∧ ¬ (f = 68 ∧ k = 10) ∧ ¬ (f = 85 ∧ k = 104)) : gD S f j k = 0 := by
  rcases A1_v hR f j k (by omega) with q | q
  · exact q
  · have := List.all_eq_true.mp nzC_ok _ q
    unfold nzC at this
    rcases h with ⟨rfl | rfl | rfl, h2, h3⟩ <;> simp [nzF] at this h2 h3 <;> omega
def eqT (f g n : Nat) : Bool := Nat.all n (fun k _ => match eD A1.1 f 0 k, eD A1.1 g 0 k with
  | some a, some b => a == b
  | _, _ => false)
def eqV (f n : Nat) (v : Int) : Bool := Nat.all n (fun k _ => match eD A1.1 f 0 k with
  | some a => a == v
  | _ => false)
def ckW (x : Nat × Nat × Nat × Int) : Bool := (!(Nat.beq x.1 84)) || (Nat.beq x.2.1 0 && x.2.2.2 == chs (x.2.2.1 / 41) (x.2.2.1 % 41))
def kyW : List Nat := ((List.range 41).flatMap (fun n => (List.range (n + 1)).map (fun k => 41 * n + k)))
theorem eqT1 : eqT 139 32 64 = true := by decide +kernel
theorem eqT2 : eqT 169 82 8 = true := by decide +kernel
theorem eqT3 : eqT 170 83 8 = true := by decide +kernel
theorem eqV1 : eqV 26 40 (-1) = true := by decide +kernel
theorem eqV2 : eqV 27 40 (-1) = true := by decide +kernel
theorem eqV3 : eqV 76 40 (-1) = true := by decide +kernel
theorem eqV4 : eqV 79 40 (-1) = true := by decide +kernel
theorem kyW1 : (((A1.1.filter (fun x => Nat.beq x.1 84)).map (fun x => x.2.2.1)) == kyW.reverse) = true := by decide +kernel
theorem ckW0 : dl_0.all ckW = true := by decide +kernel
theorem ckW1 : dl_1_0.all ckW = true := by decide +kernel
theorem ckW1b : dl_1_1.all ckW = true := by decide +kernel
theorem ckW2 : dl_2_0.all ckW = true := by decide +kernel
theorem ckW3 : dl_3_0.all ckW = true := by decide +kernel
theorem ckW4 : dl_4_0.all ckW = true := by decide +kernel
theorem ckW5 : dl_5_0.all ckW = true := by decide +kernel
theorem ckW6 : dl_6_0.all ckW = true := by decide +kernel
theorem ckW7 : dl_7_0.all ckW = true := by decide +kernel
theorem ckW8 : dl_8_0.all ckW = true := by decide +kernel
theorem ckW9 : dl_9_0.all ckW = true := by decide +kernel
theorem ckW10 : dl_10_0.all ckW = true := by decide +kernel
theorem ckW11 : dl_11_0.all ckW = true := by decide +kernel
theorem ckW12 : dl_12_0.all ckW = true := by decide +kernel
theorem ckW13 : dl_13_0.all ckW = true := by decide +kernel
theorem ckW14 : dl_14_0.all ckW = true := by decide +kernel
theorem ckW15 : dl_15_0.all ckW = true := by decide +kernel
theorem ckW16 : dl_16_0.all ckW = true := by decide +kernel
theorem ckW17 : dl_17_0.all ckW = true := by decide +kernel
theorem eD68 : eD A1.1 68 0 10 = some (-1) := by decide +kernel
theorem eD85 : eD A1.1 85 0 104 = some (-1) := by decide +kernel
theorem ckWs1 : dl_1.all ckW = true := by
  show (dl_1_0 ++ (dl_1_1 ++ dl_0)).all ckW = true
  rw [List.all_append, List.all_append, ckW0, ckW1, ckW1b]
  rfl
theorem ckWs2 : dl_2.all ckW = true := by
  show (dl_2_0 ++ dl_1).all ckW = true
  rw [List.all_append, ckWs1, ckW2]
  rfl
theorem ckWs3 : dl_3.all ckW = true := by
  show (dl_3_0 ++ dl_2).all ckW = true
  rw [List.all_append, ckWs2, ckW3]
  rfl
theorem ckWs4 : dl_4.all ckW = true := by
  show (dl_4_0 ++ dl_3).all ckW = true
  rw [List.all_append, ckWs3, ckW4]
  rfl
theorem ckWs5 : dl_5.all ckW = true := by
  show (dl_5_0 ++ dl_4).all ckW = true
  rw [List.all_append, ckWs4, ckW5]
  rfl
theorem ckWs6 : dl_6.all ckW = true := by
  show (dl_6_0 ++ dl_5).all ckW = true
  rw [List.all_append, ckWs5, ckW6]
  rfl
theorem ckWs7 : dl_7.all ckW = true := by
  show (dl_7_0 ++ dl_6).all ckW = true
  rw [List.all_append, ckWs6, ckW7]
  rfl
theorem ckWs8 : dl_8.all ckW = true := by
  show (dl_8_0 ++ dl_7).all ckW = true
  rw [List.all_append, ckWs7, ckW8]
  rfl
theorem ckWs9 : dl_9.all ckW = true := by
  show (dl_9_0 ++ dl_8).all ckW = true
  rw [List.all_append, ckWs8, ckW9]
  rfl
theorem ckWs10 : dl_10.all ckW = true := by
  show (dl_10_0 ++ dl_9).all ckW = true
  rw [List.all_append, ckWs9, ckW10]
  rfl
theorem ckWs11 : dl_11.all ckW = true := by
  show (dl_11_0 ++ dl_10).all ckW = true
  rw [List.all_append, ckWs10, ckW11]
  rfl
theorem ckWs12 : dl_12.all ckW = true := by
  show (dl_12_0 ++ dl_11).all ckW = true
  rw [List.all_append, ckWs11, ckW12]
  rfl
theorem ckWs13 : dl_13.all ckW = true := by
  show (dl_13_0 ++ dl_12).all ckW = true
  rw [List.all_append, ckWs12, ckW13]
  rfl
theorem ckWs14 : dl_14.all ckW = true := by
  show (dl_14_0 ++ dl_13).all ckW = true
  rw [List.all_append, ckWs13, ckW14]
  rfl
theorem ckWs15 : dl_15.all ckW = true := by
  show (dl_15_0 ++ dl_14).all ckW = true
  rw [List.all_append, ckWs14, ckW15]
  rfl
theorem ckWs16 : dl_16.all ckW = true := by
  show (dl_16_0 ++ dl_15).all ckW = true
  rw [List.all_append, ckWs15, ckW16]
  rfl
theorem ckWs17 : dl_17.all ckW = true := by
  show (dl_17_0 ++ dl_16).all ckW = true
  rw [List.all_append, ckWs16, ckW17]
  rfl
