/-! layer 2: said, guess, words -/
section
variable {d : Nat}
theorem q_isTick1 {S : SD} (hd : 2 ≤ d) (a : Int) (h : 0 ≤ a ∧ a ≤ 3999) : EE false d 190 [vi a] S = some (vi 1, S) := by rw [q_isTick S hd, if_pos h]
theorem q_isTick0 {S : SD} (hd : 2 ≤ d) (a : Int) (h : a < 0 ∨ 3999 < a) : EE false d 190 [vi a] S = some (vi 0, S) := by rw [q_isTick S hd, if_neg (by omega)]
theorem q_M_isTick1 {S : SD} (hd : 1 ≤ d) (a : Int) (h : 0 ≤ a ∧ a ≤ 3999) : EE false d 193 [vi a] S = some (vi 1, S) := by rw [q_M_isTick S hd, if_pos h]
theorem q_M_isTick0 {S : SD} (hd : 1 ≤ d) (a : Int) (h : a < 0 ∨ 3999 < a) : EE false d 193 [vi a] S = some (vi 0, S) := by rw [q_M_isTick S hd, if_neg (by omega)]
theorem q_M_in1 {S : SD} (hd : 1 ≤ d) (a b c : Int) (h : b ≤ a ∧ a ≤ c) : EE false d 192 [vl a, vl b, vl c] S = some (vi 1, S) := by rw [q_M_in S hd, if_pos h]
theorem q_M_in0 {S : SD} (hd : 1 ≤ d) (a b c : Int) (h : a < b ∨ c < a) : EE false d 192 [vl a, vl b, vl c] S = some (vi 0, S) := by rw [q_M_in S hd, if_neg (by omega)]
theorem q_M_isField1 {S : SD} (hd : 1 ≤ d) (a : Int) (h : 0 ≤ a ∧ a ≤ 2) : EE false d 196 [vi a] S = some (vi 1, S) := by rw [q_M_isField S hd, if_pos h]
theorem q_M_isField0 {S : SD} (hd : 1 ≤ d) (a : Int) (h : a < 0 ∨ 2 < a) : EE false d 196 [vi a] S = some (vi 0, S) := by rw [q_M_isField S hd, if_neg (by omega)]
theorem q_M_isThing1 {S : SD} (hd : 1 ≤ d) (a : Int) (h : 0 ≤ a ∧ a < (gD S 85 0 6)) : EE false d 197 [vr (some (85, 0)), vi a] S = some (vi 1, S) := by rw [q_M_isThing S hd, if_pos h]
theorem q_M_isThing0 {S : SD} (hd : 1 ≤ d) (a : Int) (h : a < 0 ∨ (gD S 85 0 6) ≤ a) : EE false d 197 [vr (some (85, 0)), vi a] S = some (vi 0, S) := by rw [q_M_isThing S hd, if_neg (by omega)]
theorem q_M_saidOf0 {S : SD} (hd : 2 ≤ d) (t f a k : Int) (h : EE false (d - 1) 217 [vr (some (85, 0)), vi t, vi f, vi a, vi k] S = some (vi (-1), S)) : EE false d 218 [vr (some (85, 0)), vi t, vi f, vi a, vi k] S = some (vi (-1000000), S) := by
  rw [E218 (by omega), b218_0, h, b_I, if_pos (by decide)]
theorem q_M_saidOf1 {S : SD} (hd : 2 ≤ d) (t a k : Int) (f w : Nat) (hw : w < 400) (hf : f < 3) (h : EE false (d - 1) 217 [vr (some (85, 0)), vi t, vi (f : Int), vi a, vi k] S = some (vi (w : Int), S)) : EE false d 218 [vr (some (85, 0)), vi t, vi (f : Int), vi a, vi k] S = some (vi (gD S 106 0 (3 * w + f)), S) := by
  rw [E218 (by omega), b218_0, h, b_I, if_neg (by omega)]
  (try simp (disch := omega) only [b_I, b_L, b_V, tn, e10, eq_self, if_true, if_false, ite_not, i01, aw3y, ix3a]); (try simp (disch := omega) only [↓bnd])
/-- the number that is SAID, on both sides -/
theorem num_both {d' : Nat} {Sc Sm : SD} {N : Nat} (hN : (gD Sc 13 0 16) = (N : Int)) (hT : IT Sc Sm) (hW : IW Sc Sm) (hK : IC Sc Sm) (hd : 2 ≤ d) (hd' : 2 ≤ d') (t f : Nat) (ht : (t : Int) < (gD Sc 3 0 10)) (hf : f < 3) (at' kn : Int) : ∃ r v, EE false d 142 [vr (some (13, 0)), vi (t : Int), vi (f : Int), vi at', vi kn] Sc = some (vi r, Sc) ∧ (∀ d1, 2 ≤ d1 → EE false d1 135 [vr (some (13, 0)), vi r, vi (f : Int)] Sc = some (vi v, Sc)) ∧ EE false d' 218 [vr (some (85, 0)), vi (t : Int), vi (f : Int), vi at', vi kn] Sm = some (vi v, Sm) ∧ (v = -1000000 ∨ (-100000 ≤ v ∧ v ≤ 100000)) := by
  have uIW := hW; unfold IW at uIW; obtain ⟨w1, w2, w3, w4, w5, w6, w7, w8, w9, w10, w11, w12, w13, w14, w15, w16, w17, w18, w19, w20, w21, w22, w23, w24⟩ := uIW
  obtain ⟨r, h1, h2, h3⟩ := said_both hN hT hW hK hd (show 1 ≤ d' - 1 by omega) t f ht hf at' kn
  rcases h3 with rfl | ⟨w, rfl, h4, _⟩
  · exact ⟨-1, -1000000, h1, fun d1 hd1 => q_number0 hd1 _ _ (Or.inl (by decide)), q_M_saidOf0 hd' _ _ _ _ h2, Or.inl rfl⟩
  · refine ⟨w, (gD Sc 23 0 (3 * w + f)), h1, fun d1 hd1 => q_number hd1 w f (by omega) (by omega) hf, ?_, w14 _⟩
    rw [q_M_saidOf1 hd' _ _ _ f w (by omega) hf h2, w13]
theorem o_said (hd : 12 ≤ d) (a1 a2 a3 a4 : Int) : PI2 d CI2 158 219 vi [vi a1, vi a2, vi a3, vi a4] := by
  refine PI2_ro (fun i Sc Sm hi hC => ?_)
  obtain ⟨hN, hT, hS, hW, hK, hO, hX, hP, hR, hF, hA, hH, hQ, hG⟩ := hC
  have uIT := hT; unfold IT at uIT; obtain ⟨t1, t2, t3, t4, t5, t6, t7, t8, t9, t10, t11, t12, t13, t14, t15, t16⟩ := uIT
  obtain ⟨N, hN⟩ : ∃ N : Nat, (gD Sc 13 0 16) = (N : Int) := Int.eq_ofNat_of_zero_le (by unfold IW at hW; exact hW.2.1)
  by_cases h : (0 ≤ a1 ∧ a1 < (gD Sc 3 0 10)) ∧ (0 ≤ a2 ∧ a2 ≤ 2) ∧ (0 ≤ a3 ∧ a3 ≤ 3999) ∧ (0 ≤ a4 ∧ a4 ≤ 3999)
  · obtain ⟨g1, g2, g3, g4⟩ := h
    obtain ⟨t, rfl⟩ := Int.eq_ofNat_of_zero_le g1.1
    obtain ⟨f, rfl⟩ := Int.eq_ofNat_of_zero_le g2.1
    obtain ⟨r, v, c1, c2, m1, _⟩ := num_both (d := d - 1) (d' := d - 1) hN hT hW hK (by omega) (by omega) t f g1.2 (by omega) a3 a4
    refine ⟨v, ?_, ?_⟩
    · rw [E158 (by omega), b158_0]
      (try simp (disch := omega) only [b_I, b_L, b_V, tn, e10, eq_self, if_true, if_false, ite_not, i01, q_isTick1, c1, c2]); (try simp (disch := omega) only [↓bnd])
    · rw [E219 (by omega), b219_0]
      (try simp (disch := omega) only [b_I, b_L, b_V, tn, e10, eq_self, if_true, if_false, ite_not, i01, q_M_isThing1, q_M_isField1, q_M_isTick1, m1]); (try simp (disch := omega) only [↓bnd])
  · refine ⟨-1000000, ?_, ?_⟩
    · rw [E158 (by omega), b158_0]
      by_cases g3 : 0 ≤ a3 ∧ a3 ≤ 3999
      · by_cases g4 : 0 ≤ a4 ∧ a4 ≤ 3999
        · (try simp (disch := omega) only [b_I, b_L, b_V, tn, e10, eq_self, if_true, if_false, ite_not, i01, q_isTick1, q_saidBy0, q_number0]); (try simp (disch := omega) only [↓bnd])
        · (try simp (disch := omega) only [b_I, b_L, b_V, tn, e10, eq_self, if_true, if_false, ite_not, i01, q_isTick1, q_isTick0]); (try simp (disch := omega) only [↓bnd])
      · (try simp (disch := omega) only [b_I, b_L, b_V, tn, e10, eq_self, if_true, if_false, ite_not, i01, q_isTick0]); (try simp (disch := omega) only [↓bnd])
    · rw [E219 (by omega), b219_0]
      (try simp (disch := omega) only [b_I, b_L, b_V, tn, e10, eq_self, if_true, if_false, ite_not, i01, q_M_isThing, q_M_isField, q_M_isTick]); (try simp (disch := omega) only [↓bnd])
      repeat' split
      all_goals first | rfl | (exfalso; omega)
/-- GUESS -/
def rowT (S : SD) (w f : Nat) : Nat := ((gD S 9 0 (((gD S 14 0 w)).toNat)) * 3 + (f : Int)).toNat
def grown (S : SD) (w f : Nat) (at' : Int) : Int := aw oo ((gD S 8 0 (rowT S w f)) * aw oo (at' - (gD S 18 0 w)))
def gLo (S : SD) (w f : Nat) (at' : Int) : Int := max (aw oo ((gD S 23 0 (3 * w + f)) - grown S w f at')) (min (gD S 6 0 (rowT S w f)) (gD S 23 0 (3 * w + f)))
def gHi (S : SD) (w f : Nat) (at' : Int) : Int := min (aw oo ((gD S 23 0 (3 * w + f)) + grown S w f at')) (max (gD S 7 0 (rowT S w f)) (gD S 23 0 (3 * w + f)))
theorem abmax (x y : Int) : ab oo 10 x y = max x y := rfl
theorem abmin (x y : Int) : ab oo 11 x y = min x y := rfl
theorem q_row {S : SD} (hd : 1 ≤ d) (t f : Nat) (ht : (t : Int) < (gD S 3 0 10)) (ht4 : t < 40) (hf : f < 3) (hk : 0 ≤ (gD S 9 0 t) ∧ (gD S 9 0 t) ≤ 7) : EE false d 101 [vr (some (3, 0)), vi (t : Int), vi (f : Int)] S = some (vi ((gD S 9 0 t) * 3 + (f : Int)), S) := by
  rw [E101 hd, b101_0, if_neg (by omega), if_pos ht, if_neg (by omega), if_pos (by omega)]
  (try simp (disch := omega) only [b_I, b_L, b_V, tn, e10, eq_self, if_true, if_false, ite_not, i01, aw3x]); (try simp (disch := omega) only [↓bnd])
theorem q_least {S : SD} (hd : 2 ≤ d) (t f : Nat) (ht : (t : Int) < (gD S 3 0 10)) (ht4 : t < 40) (hf : f < 3) (hk : 0 ≤ (gD S 9 0 t) ∧ (gD S 9 0 t) ≤ 7) : EE false d 102 [vr (some (3, 0)), vi (t : Int), vi (f : Int)] S = some (vi (gD S 6 0 (((gD S 9 0 t) * 3 + (f : Int)).toNat)), S) := by
  rw [E102 (by omega), b102_0]
  (try simp (disch := omega) only [b_I, b_L, b_V, tn, e10, eq_self, if_true, if_false, ite_not, i01, q_row]); (try simp (disch := omega) only [↓bnd])
theorem q_most {S : SD} (hd : 2 ≤ d) (t f : Nat) (ht : (t : Int) < (gD S 3 0 10)) (ht4 : t < 40) (hf : f < 3) (hk : 0 ≤ (gD S 9 0 t) ∧ (gD S 9 0 t) ≤ 7) : EE false d 103 [vr (some (3, 0)), vi (t : Int), vi (f : Int)] S = some (vi (gD S 7 0 (((gD S 9 0 t) * 3 + (f : Int)).toNat)), S) := by
  rw [E103 (by omega), b103_0]
  (try simp (disch := omega) only [b_I, b_L, b_V, tn, e10, eq_self, if_true, if_false, ite_not, i01, q_row]); (try simp (disch := omega) only [↓bnd])
theorem q_rate {S : SD} (hd : 2 ≤ d) (t f : Nat) (ht : (t : Int) < (gD S 3 0 10)) (ht4 : t < 40) (hf : f < 3) (hk : 0 ≤ (gD S 9 0 t) ∧ (gD S 9 0 t) ≤ 7) : EE false d 104 [vr (some (3, 0)), vi (t : Int), vi (f : Int)] S = some (vi (gD S 8 0 (((gD S 9 0 t) * 3 + (f : Int)).toNat)), S) := by
  rw [E104 (by omega), b104_0]
  (try simp (disch := omega) only [b_I, b_L, b_V, tn, e10, eq_self, if_true, if_false, ite_not, i01, q_row]); (try simp (disch := omega) only [↓bnd])
theorem q_guessEdge {Sc Sm : SD} (hT : IT Sc Sm) (hW : IW Sc Sm) (hd : 3 ≤ d) (w f : Nat) (hw : (w : Int) < (gD Sc 13 0 16)) (hf : f < 3) (at' : Int) : EE false d 143 [vr (some (13, 0)), vi (w : Int), vi (f : Int), vi at', vi 0] Sc = some (vi (gLo Sc w f at'), Sc) ∧ EE false d 143 [vr (some (13, 0)), vi (w : Int), vi (f : Int), vi at', vi 1] Sc = some (vi (gHi Sc w f at'), Sc) := by
  have uIT := hT; unfold IT at uIT; obtain ⟨t1, t2, t3, t4, t5, t6, t7, t8, t9, t10, t11, t12, t13, t14, t15, t16⟩ := uIT
  have uIW := hW; unfold IW at uIW; obtain ⟨w1, w2, w3, w4, w5, w6, w7, w8, w9, w10, w11, w12, w13, w14, w15, w16, w17, w18, w19, w20, w21, w22, w23, w24⟩ := uIW
  have b := w15 w hw
  have hw4 : w < 400 := by omega
  obtain ⟨t, ht⟩ := Int.eq_ofNat_of_zero_le b.1
  have hk := t5 t
  refine ⟨?_, ?_⟩
  · rw [E143 (by omega), b143_0]
    (try simp (disch := omega) only [b_I, b_L, b_V, tn, e10, eq_self, if_true, if_false, ite_not, i01, q_whas1, q_number, ht, q_rate, q_least, abmax, abmin]); (try simp (disch := omega) only [↓bnd])
    simp only [gLo, grown, rowT, ht, tn]
  · rw [E143 (by omega), b143_0]
    (try simp (disch := omega) only [b_I, b_L, b_V, tn, e10, eq_self, if_true, if_false, ite_not, i01, q_whas1, q_number, ht, q_rate, q_most, abmax, abmin]); (try simp (disch := omega) only [↓bnd])
    simp only [gHi, grown, rowT, ht, tn]
theorem q_M_least {Sc Sm : SD} (hT : IT Sc Sm) (hd : 1 ≤ d) (t f : Nat) (ht4 : t < 40) (hf : f < 3) : EE false d 201 [vr (some (85, 0)), vi (t : Int), vi (f : Int)] Sm = some (vi (gD Sc 6 0 (((gD Sc 9 0 t) * 3 + (f : Int)).toNat)), Sm) := by
  have uIT := hT; unfold IT at uIT; obtain ⟨t1, t2, t3, t4, t5, t6, t7, t8, t9, t10, t11, t12, t13, t14, t15, t16⟩ := uIT
  have hk := t5 t
  rw [E201 hd, b201_0]
  (try simp (disch := omega) only [b_I, b_L, b_V, tn, e10, eq_self, if_true, if_false, ite_not, i01, t4, aw3y, t8]); (try simp (disch := omega) only [↓bnd])
theorem q_M_most {Sc Sm : SD} (hT : IT Sc Sm) (hd : 1 ≤ d) (t f : Nat) (ht4 : t < 40) (hf : f < 3) : EE false d 202 [vr (some (85, 0)), vi (t : Int), vi (f : Int)] Sm = some (vi (gD Sc 7 0 (((gD Sc 9 0 t) * 3 + (f : Int)).toNat)), Sm) := by
  have uIT := hT; unfold IT at uIT; obtain ⟨t1, t2, t3, t4, t5, t6, t7, t8, t9, t10, t11, t12, t13, t14, t15, t16⟩ := uIT
  have hk := t5 t
  rw [E202 hd, b202_0]
  (try simp (disch := omega) only [b_I, b_L, b_V, tn, e10, eq_self, if_true, if_false, ite_not, i01, t4, aw3y, t9]); (try simp (disch := omega) only [↓bnd])
theorem q_M_rate {Sc Sm : SD} (hT : IT Sc Sm) (hd : 1 ≤ d) (t f : Nat) (ht4 : t < 40) (hf : f < 3) : EE false d 203 [vr (some (85, 0)), vi (t : Int), vi (f : Int)] Sm = some (vi (gD Sc 8 0 (((gD Sc 9 0 t) * 3 + (f : Int)).toNat)), Sm) := by
  have uIT := hT; unfold IT at uIT; obtain ⟨t1, t2, t3, t4, t5, t6, t7, t8, t9, t10, t11, t12, t13, t14, t15, t16⟩ := uIT
  have hk := t5 t
  rw [E203 hd, b203_0]
  (try simp (disch := omega) only [b_I, b_L, b_V, tn, e10, eq_self, if_true, if_false, ite_not, i01, t4, aw3y, t10]); (try simp (disch := omega) only [↓bnd])
theorem q_M_guess {Sc Sm : SD} (hT : IT Sc Sm) (hW : IW Sc Sm) (hd : 2 ≤ d) (t w f : Nat) (hw : (w : Int) < (gD Sc 13 0 16)) (ht : (gD Sc 14 0 w) = (t : Int)) (hf : f < 3) (at' : Int) : EE false d 207 [vr (some (85, 0)), vi (t : Int), vi (f : Int), vi (w : Int), vi at'] Sm = some (vi (gLo Sc w f at'), Sm) ∧ EE false d 208 [vr (some (85, 0)), vi (t : Int), vi (f : Int), vi (w : Int), vi at'] Sm = some (vi (gHi Sc w f at'), Sm) := by
  have uIT := hT; unfold IT at uIT; obtain ⟨t1, t2, t3, t4, t5, t6, t7, t8, t9, t10, t11, t12, t13, t14, t15, t16⟩ := uIT
  have uIW := hW; unfold IW at uIW; obtain ⟨w1, w2, w3, w4, w5, w6, w7, w8, w9, w10, w11, w12, w13, w14, w15, w16, w17, w18, w19, w20, w21, w22, w23, w24⟩ := uIW
  have b := w15 w hw
  have hw4 : w < 400 := by omega
  have ht4 : t < 40 := by omega
  have r1 := q_M_rate hT (show 1 ≤ d - 1 by omega) t f ht4 hf
  have r2 := q_M_least hT (show 1 ≤ d - 1 by omega) t f ht4 hf
  have r3 := q_M_most hT (show 1 ≤ d - 1 by omega) t f ht4 hf
  refine ⟨?_, ?_⟩
  · rw [E207 (by omega), b207_0]
    (try simp (disch := omega) only [b_I, b_L, b_V, tn, e10, eq_self, if_true, if_false, ite_not, i01, aw3y, ix3a, r1, r2, q_M_less, q_M_more, w13, w8]); (try simp (disch := omega) only [↓bnd])
    simp only [gLo, grown, rowT, ht, tn]
  · rw [E208 (by omega), b208_0]
    (try simp (disch := omega) only [b_I, b_L, b_V, tn, e10, eq_self, if_true, if_false, ite_not, i01, aw3y, ix3a, r1, r3, q_M_less, q_M_more, w13, w8]); (try simp (disch := omega) only [↓bnd])
    simp only [gHi, grown, rowT, ht, tn]
theorem o_guess (hd : 12 ≤ d) (a1 a2 a3 a4 a5 : Int) : PI2 d CI2 159 220 vi [vi a1, vi a2, vi a3, vi a4, vi a5] := by
  refine PI2_ro (fun i Sc Sm hi hC => ?_)
  obtain ⟨hN, hT, hS, hW, hK, hO, hX, hP, hR, hF, hA, hH, hQ, hG⟩ := hC
  have uIT := hT; unfold IT at uIT; obtain ⟨t1, t2, t3, t4, t5, t6, t7, t8, t9, t10, t11, t12, t13, t14, t15, t16⟩ := uIT
  obtain ⟨N, hN⟩ : ∃ N : Nat, (gD Sc 13 0 16) = (N : Int) := Int.eq_ofNat_of_zero_le (by unfold IW at hW; exact hW.2.1)
  by_cases h : (0 ≤ a1 ∧ a1 < (gD Sc 3 0 10)) ∧ (0 ≤ a2 ∧ a2 ≤ 2) ∧ (0 ≤ a3 ∧ a3 ≤ 3999) ∧ (0 ≤ a4 ∧ a4 ≤ 3999) ∧ (0 ≤ a5 ∧ a5 ≤ 2)
  · obtain ⟨g1, g2, g3, g4, g5⟩ := h
    obtain ⟨t, rfl⟩ := Int.eq_ofNat_of_zero_le g1.1
    obtain ⟨f, rfl⟩ := Int.eq_ofNat_of_zero_le g2.1
    obtain ⟨r, c1, m1, hr⟩ := said_both (d := d - 1) (d' := d - 1) hN hT hW hK (by omega) (by omega) t f g1.2 (by omega) a3 a4
    rw [E159 (by omega), b159_0, E220 (by omega), b220_0]
    (try simp (disch := omega) only [b_I, b_L, b_V, tn, e10, eq_self, if_true, if_false, ite_not, i01, q_isTick1, q_in1, c1, q_M_isThing1, q_M_isField1, q_M_isTick1, q_M_in1, m1]); (try simp (disch := omega) only [↓bnd])
    rcases hr with rfl | ⟨w, rfl, h4, hp⟩
    · by_cases h2 : a5 = 2
      · exact ⟨-1, by rw [if_pos h2]; rfl, by rw [if_pos h2]⟩
      · exact ⟨-1000000, by rw [if_neg h2]; rfl, by rw [if_neg h2]; rfl⟩
    · have ht : (gD Sc 14 0 w) = (t : Int) := hp.1
      have c2 := q_guessEdge (d := d - 1) hT hW (by omega) w f (by omega) (by omega) a3
      have m2 := q_M_guess (d := d - 1) hT hW (by omega) t w f (by omega) ht (by omega) a3
      rw [if_neg (show ¬ (w : Int) = -1 by omega), if_neg (show ¬ (w : Int) = -1 by omega), if_neg (show ¬ (w : Int) < 0 by omega)]
      by_cases h2 : a5 = 2
      · exact ⟨w, by rw [if_pos h2, if_pos h2], by rw [if_pos h2]⟩
      · rw [if_neg h2, if_neg h2, if_neg h2]
        by_cases h1 : a5 = 1
        · exact ⟨gHi Sc w f a3, by rw [if_pos h1, c2.2]; rfl, by rw [if_neg (by omega), m2.2]; rfl⟩
        · exact ⟨gLo Sc w f a3, by rw [if_neg h1, c2.1]; rfl, by rw [if_pos (by omega), m2.1]; rfl⟩
  · refine ⟨if a5 = 2 then -1 else -1000000, ?_, ?_⟩
    · rw [E159 (by omega), b159_0]
      by_cases g3 : 0 ≤ a3 ∧ a3 ≤ 3999
      · by_cases g4 : 0 ≤ a4 ∧ a4 ≤ 3999
        · by_cases g5 : 0 ≤ a5 ∧ a5 ≤ 2
          · (try simp (disch := omega) only [b_I, b_L, b_V, tn, e10, eq_self, if_true, if_false, ite_not, i01, q_isTick1, q_in1, q_saidBy0, its]); (try simp (disch := omega) only [↓bnd])
          · (try simp (disch := omega) only [b_I, b_L, b_V, tn, e10, eq_self, if_true, if_false, ite_not, i01, q_isTick1, q_in0, its]); (try simp (disch := omega) only [↓bnd])
        · (try simp (disch := omega) only [b_I, b_L, b_V, tn, e10, eq_self, if_true, if_false, ite_not, i01, q_isTick1, q_isTick0, its]); (try simp (disch := omega) only [↓bnd])
      · (try simp (disch := omega) only [b_I, b_L, b_V, tn, e10, eq_self, if_true, if_false, ite_not, i01, q_isTick0, its]); (try simp (disch := omega) only [↓bnd])
    · rw [E220 (by omega), b220_0]
      have e1 := q_M_isThing Sm (show 1 ≤ d - 1 by omega)
      have e2 := q_M_isField Sm (show 1 ≤ d - 1 by omega)
      have e3 := q_M_isTick Sm (show 1 ≤ d - 1 by omega)
      have e4 := q_M_in Sm (show 1 ≤ d - 1 by omega)
      by_cases h2 : a5 = 2
      · simp only [b_I, b_L, b_V, tn, e10, eq_self, if_true, if_false, ite_not, i01, h2, e1, e2, e3, e4]
        repeat' split
        all_goals first | rfl | (exfalso; omega)
      · simp only [b_I, b_L, b_V, tn, e10, eq_self, if_true, if_false, ite_not, i01, h2, e1, e2, e3, e4]
        repeat' split
        all_goals first | rfl | (exfalso; omega)
theorem o_words (hd : 12 ≤ d) (a1 a2 : Int) : PI2 d CI2 153 212 vi [vi a1, vi a2] := by
  refine PI2_ro (fun i Sc Sm hi hC => ?_)
  obtain ⟨hN, hT, hS, hW, hK, hO, hX, hP, hR, hF, hA, hH, hQ, hG⟩ := hC
  have uIW := hW; unfold IW at uIW; obtain ⟨w1, w2, w3, w4, w5, w6, w7, w8, w9, w10, w11, w12, w13, w14, w15, w16, w17, w18, w19, w20, w21, w22, w23, w24⟩ := uIW
  rw [E153 (by omega), b153_0, E136 (by omega), b136_0, E212 (by omega), b212_0]
  by_cases h : 0 ≤ a1 ∧ a1 < (gD Sc 13 0 16)
  · obtain ⟨k, rfl⟩ := Int.eq_ofNat_of_zero_le h.1
    have e1 := q_whas1 (S := Sc) (show 1 ≤ d - 1 - 1 by omega) k h.2
    have e2 : aw oo ((gD Sm 85 0 13) - 1) = (gD Sc 13 0 16) - 1 := by rw [w1]; exact aw_id (by omega)
    have e3 := q_M_in1 (S := Sm) (show 1 ≤ d - 1 by omega) (k : Int) 0 ((gD Sc 13 0 16) - 1) (by omega)
    have b1 : (0 ≤ (k : Int) ∧ (k : Int) < 400) = True := eq_true (by omega)
    simp only [b_I, b_L, b_V, tn, e10, eq_self, if_true, if_false, ite_not, i01, e1, e2, e3, b1, w4, w5, w6, w7, w8, w9, w10, w11, w12, its]
    exact ⟨_, rfl, rfl⟩
  · have e1 := q_whas0 (S := Sc) (show 1 ≤ d - 1 - 1 by omega) a1 (by omega)
    have e2 : aw oo ((gD Sm 85 0 13) - 1) = (gD Sc 13 0 16) - 1 := by rw [w1]; exact aw_id (by omega)
    have e3 := q_M_in0 (S := Sm) (show 1 ≤ d - 1 by omega) a1 0 ((gD Sc 13 0 16) - 1) (by omega)
    simp only [b_I, b_L, b_V, tn, e10, eq_self, if_true, if_false, ite_not, i01, e1, e2, e3]
    exact ⟨_, rfl, rfl⟩
end
