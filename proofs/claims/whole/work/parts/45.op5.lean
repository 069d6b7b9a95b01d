/-! layer 2: wished -/
section
variable {d : Nat}
theorem aw8a {o : Nat} {w : Int} (h : o < 8 ∧ 0 ≤ w ∧ w ≤ 7) : aw oo (aw oo ((o : Int) * 8) + w) = (o : Int) * 8 + w := by rw [aw_id (z := (o : Int) * 8) (by omega), aw_id (by omega)]
theorem aw8b {o : Nat} {w : Int} (h : o < 8 ∧ 0 ≤ w ∧ w ≤ 7) : aw oo (aw oo (8 * (o : Int)) + w) = (o : Int) * 8 + w := by rw [aw_id (z := 8 * (o : Int)) (by omega), aw_id (by omega), Int.mul_comm]
def rkI (S : SD) (t o : Nat) : Int := (gD S 32 0 (((o : Int) * 8 + (gD S 10 0 t)).toNat))
def tnI (S : SD) (t f o : Nat) : Int := (gD S 34 0 (120 * o + 3 * t + f))
theorem w_winner {B : Nat} {Sc Sm : SD} (hT : IT Sc Sm) (hX : IX B Sc Sm) (hd : 3 ≤ d) {K : KT} (t f : Nat) (ht : t < 40) (hf : f < 3) : ∀ (n o : Nat) (b br bt : Int), o ≤ 8 → 8 - o < n → ((b = -1 ∧ br = 0 ∧ bt = 0) ∨ ∃ w : Nat, b = (w : Int) ∧ w < 8 ∧ br = rkI Sc t w ∧ bt = tnI Sc t f w ∧ 0 < br ∧ 0 < bt) → ∃ r, run oo (EE false d) false mi_125 n 11 [(0, vr (some (31, 0))), (1, vi ((t : Int) * 3 + (f : Int))), (2, vi (gD Sc 10 0 t)), (3, vi b), (4, vi br), (5, vi bt), (6, vi (o : Int))] [] Sc = some (vi r, Sc) ∧ run oo K false mi_264 n 5 [(0, vr (some (85, 0))), (1, vi (t : Int)), (2, vi (f : Int)), (3, vi b), (4, vi (o : Int))] [] Sm = some (vi r, Sm) ∧ (r = -1 ∨ ∃ w : Nat, r = (w : Int) ∧ w < 8 ∧ 0 < tnI Sc t f w) := by
  have uIT := hT; unfold IT at uIT; obtain ⟨t1, t2, t3, t4, t5, t6, t7, t8, t9, t10, t11, t12, t13, t14, t15, t16⟩ := uIT
  have uIX := hX; unfold IX at uIX; obtain ⟨y1, y2, y3, y4, y5, y6, y7, y8, y9⟩ := uIX
  have hw := t7 t
  intro n
  induction n with
  | zero => intro o b br bt h1 h2; omega
  | succ n ih =>
    intro o b br bt h1 h2 hb
    by_cases ho : o < 8
    · have e1 := q_place (S := Sc) (show 2 ≤ d by omega) (show o < 8 ∧ t < 40 ∧ f < 3 by omega)
      have e2 := q_in1 (S := Sc) (show 1 ≤ d by omega) (gD Sc 10 0 t) 0 7 hw
      have e3 : vi (aw oo ((o : Int) + 1)) = vi ((o + 1 : Nat) : Int) := congrArg vi (awn (by omega))
      have b1 : (0 ≤ (o : Int) * 8 + (gD Sc 10 0 t) ∧ (o : Int) * 8 + (gD Sc 10 0 t) < 64) = True := eq_true (by omega)
      have b2 : (0 ≤ ((120 * o + 3 * t + f : Nat) : Int) ∧ ((120 * o + 3 * t + f : Nat) : Int) < 960) = True := eq_true (by omega)
      have b3 : ((o : Int) < 8) = True := eq_true (by omega)
      have b4 : (0 ≤ (t : Int) ∧ (t : Int) < 40) = True := eq_true (by omega)
      have b5 : (((120 * o + 3 * t + f : Nat) : Int) = -1) = False := eq_false (by omega)
      have f1 : (gD Sc 32 0 (((o : Int) * 8 + (gD Sc 10 0 t)).toNat)) = rkI Sc t o := rfl
      have f2 : (gD Sc 34 0 (120 * o + 3 * t + f)) = tnI Sc t f o := rfl
      have r1 : 0 ≤ rkI Sc t o := (y2 _).1
      have r2 : 0 ≤ tnI Sc t f o := (y8 _).1
      rw [b125_11, b264_5]
      rcases hb with ⟨rfl, rfl, rfl⟩ | ⟨w, rfl, w2, w3, w4, w5, w6⟩
      · by_cases q : 0 < rkI Sc t o ∧ 0 < tnI Sc t f o
        · obtain ⟨r, i1, i2, i3⟩ := ih (o + 1) (o : Int) (rkI Sc t o) (tnI Sc t f o) (by omega) (by omega) (Or.inr ⟨o, rfl, ho, rfl, rfl, q.1, q.2⟩)
          refine ⟨r, ?_, ?_, i3⟩
          · simp only [b_I, b_L, b_V, tn, e10, eq_self, if_true, if_false, ite_not, i01, and_self, e1, e2, e3, aw8a, ho, hw, b1, b2, b3, b5, f1, f2]
            (repeat (any_goals split)) <;> first | exact i1 | (exfalso; omega)
          · simp only [b_I, b_L, b_V, tn, e10, eq_self, if_true, if_false, ite_not, i01, and_self, e3, aw8b, awW2, ho, hw, ht, hf, b1, b2, b3, b4, y1, y4, t6, f1, f2]
            (repeat (any_goals split)) <;> first | exact i2 | (exfalso; omega)
        · obtain ⟨r, i1, i2, i3⟩ := ih (o + 1) (-1) 0 0 (by omega) (by omega) (Or.inl ⟨rfl, rfl, rfl⟩)
          refine ⟨r, ?_, ?_, i3⟩
          · simp only [b_I, b_L, b_V, tn, e10, eq_self, if_true, if_false, ite_not, i01, and_self, e1, e2, e3, aw8a, ho, hw, b1, b2, b3, b5, f1, f2]
            (repeat (any_goals split)) <;> first | exact i1 | (exfalso; omega)
          · simp only [b_I, b_L, b_V, tn, e10, eq_self, if_true, if_false, ite_not, i01, and_self, e3, aw8b, awW2, ho, hw, ht, hf, b1, b2, b3, b4, y1, y4, t6, f1, f2]
            (repeat (any_goals split)) <;> first | exact i2 | (exfalso; omega)
      · have b6 : (0 ≤ (w : Int) * 8 + (gD Sc 10 0 t) ∧ (w : Int) * 8 + (gD Sc 10 0 t) < 64) = True := eq_true (by omega)
        have b7 : (0 ≤ ((120 * w + 3 * t + f : Nat) : Int) ∧ ((120 * w + 3 * t + f : Nat) : Int) < 960) = True := eq_true (by omega)
        have f3 : (gD Sc 32 0 (((w : Int) * 8 + (gD Sc 10 0 t)).toNat)) = br := w3.symm
        have f4 : (gD Sc 34 0 (120 * w + 3 * t + f)) = bt := w4.symm
        by_cases q : 0 < rkI Sc t o ∧ 0 < tnI Sc t f o ∧ (br < rkI Sc t o ∨ (rkI Sc t o = br ∧ bt < tnI Sc t f o))
        · obtain ⟨r, i1, i2, i3⟩ := ih (o + 1) (o : Int) (rkI Sc t o) (tnI Sc t f o) (by omega) (by omega) (Or.inr ⟨o, rfl, ho, rfl, rfl, q.1, q.2.1⟩)
          refine ⟨r, ?_, ?_, i3⟩
          · simp only [b_I, b_L, b_V, tn, e10, eq_self, if_true, if_false, ite_not, i01, and_self, e1, e2, e3, aw8a, ho, hw, b1, b2, b3, b5, f1, f2]
            (repeat (any_goals split)) <;> first | exact i1 | (exfalso; omega)
          · simp only [b_I, b_L, b_V, tn, e10, eq_self, if_true, if_false, ite_not, i01, and_self, e3, aw8b, awW2, ho, hw, ht, hf, w2, b1, b2, b3, b4, b6, b7, y1, y4, t6, f1, f2, f3, f4]
            (repeat (any_goals split)) <;> first | exact i2 | (exfalso; omega)
        · obtain ⟨r, i1, i2, i3⟩ := ih (o + 1) (w : Int) br bt (by omega) (by omega) (Or.inr ⟨w, rfl, w2, w3, w4, w5, w6⟩)
          refine ⟨r, ?_, ?_, i3⟩
          · simp only [b_I, b_L, b_V, tn, e10, eq_self, if_true, if_false, ite_not, i01, and_self, e1, e2, e3, aw8a, ho, hw, b1, b2, b3, b5, f1, f2]
            (repeat (any_goals split)) <;> first | exact i1 | (exfalso; omega)
          · simp only [b_I, b_L, b_V, tn, e10, eq_self, if_true, if_false, ite_not, i01, and_self, e3, aw8b, awW2, ho, hw, ht, hf, w2, b1, b2, b3, b4, b6, b7, y1, y4, t6, f1, f2, f3, f4]
            (repeat (any_goals split)) <;> first | exact i2 | (exfalso; omega)
    · rw [b125_11, b264_5, if_neg (by omega), if_neg (by omega)]
      refine ⟨b, rfl, rfl, ?_⟩
      rcases hb with ⟨h, _⟩ | ⟨w, h3, h4, _, h6, _, h7⟩
      · exact Or.inl h
      · exact Or.inr ⟨w, h3, h4, h6 ▸ h7⟩
theorem o_wished (hd : 12 ≤ d) (a1 a2 a3 : Int) : PI2 d CI2 168 265 vi [vi a1, vi a2, vi a3] := by
  refine PI2_ro (fun i Sc Sm hi hC => ?_)
  obtain ⟨hN, hT, hS, hW, hK, hO, hX, hP, hR, hF, hA, hH, hQ, hG⟩ := hC
  have uIT := hT; unfold IT at uIT; obtain ⟨t1, t2, t3, t4, t5, t6, t7, t8, t9, t10, t11, t12, t13, t14, t15, t16⟩ := uIT
  have uIX := hX; unfold IX at uIX; obtain ⟨y1, y2, y3, y4, y5, y6, y7, y8, y9⟩ := uIX
  obtain ⟨N, hN'⟩ : ∃ N : Nat, (gD Sc 13 0 16) = (N : Int) := Int.eq_ofNat_of_zero_le (by unfold IW at hW; exact hW.2.1)
  have e1 := q_within Sc (show 1 ≤ d - 1 by omega)
  have e2 := q_M_in Sm (show 1 ≤ d - 1 by omega)
  have e3 := q_has Sc (show 1 ≤ d - 1 by omega)
  have e4 := q_M_isThing Sm (show 1 ≤ d - 1 by omega)
  have e5 := q_M_isField Sm (show 1 ≤ d - 1 by omega)
  rw [E168 (by omega), b168_0, E265 (by omega), b265_0]
  by_cases h : (0 ≤ a1 ∧ a1 < (gD Sc 3 0 10)) ∧ (0 ≤ a2 ∧ a2 ≤ 2) ∧ (0 ≤ a3 ∧ a3 ≤ 2)
  · obtain ⟨g1, g2, g3⟩ := h
    obtain ⟨t, rfl⟩ := Int.eq_ofNat_of_zero_le g1.1
    obtain ⟨f, rfl⟩ := Int.eq_ofNat_of_zero_le g2.1
    have g1' : 0 ≤ (t : Int) ∧ (t : Int) < (gD Sm 85 0 6) := by omega
    have hx3 : -1000000 ≤ (t : Int) ∧ (t : Int) ≤ 1000000 ∧ f < 3 := by omega
    have ht40 : t < 40 := by omega
    have c3 : EE false (d - 1) 98 [vr (some (3, 0)), vi (t : Int)] Sc = some (vi (gD Sc 10 0 t), Sc) := by
      rw [E98 (by omega), b98_0, q_thas1 (by omega) t g1.2, b_I, if_neg (by decide), bnd (by omega), tn]
    obtain ⟨r, w1, w2, w3⟩ := w_winner (d := d - 1 - 1) (K := EE false (d - 1 - 1)) hT hX (by omega) t f (by omega) (by omega) 999999 0 (-1) 0 0 (by omega) (by omega) (Or.inl ⟨rfl, rfl, rfl⟩)
    have c4 : EE false (d - 1) 125 [vr (some (31, 0)), vi ((t : Int) * 3 + (f : Int)), vi (gD Sc 10 0 t)] Sc = some (vi r, Sc) := by
      rw [E125 (by omega), b125_0]; exact w1
    have m4 : EE false (d - 1) 264 [vr (some (85, 0)), vi (t : Int), vi (f : Int)] Sm = some (vi r, Sm) := by
      rw [E264 (by omega), b264_0]; exact w2
    have hn : (gD Sm 85 0 0) = (gD Sc 2 0 9) := by unfold IN at hN; exact hN.1
    obtain ⟨r5, v, c5, c6, m6, _⟩ := num_both (d := d - 1) (d' := d - 1) hN' hT hW hK (by omega) (by omega) t f g1.2 (by omega) (gD Sc 2 0 9) (gD Sc 2 0 9)
    have c7 := c6 (d - 1) (by omega)
    rcases w3 with rfl | ⟨w, rfl, h8, h9⟩
    · have c8 : EE false (d - 1) 124 [vr (some (31, 0)), vi (-1), vi ((t : Int) * 3 + (f : Int))] Sc = some (vi (-1000000), Sc) := by
        rw [E124 (by omega), b124_0, E121 (by omega), b121_0, q_in0 (by omega) _ _ _ (by omega), b_I, if_pos rfl, b_I, if_pos rfl]
      refine ⟨if a3 = 0 then -1000000 else if a3 = 1 then -1 else 0, ?_, ?_⟩
      · simp only [b_I, b_L, b_V, tn, e10, eq_self, if_true, if_false, ite_not, i01, and_self, e1, e3, g1, g2, g3, and_self, aw3x, hx3, c3, c4, c8, c5, c7]
        repeat (any_goals split)
        all_goals rfl
      · simp only [b_I, b_L, b_V, tn, e10, eq_self, if_true, if_false, ite_not, i01, and_self, e2, e4, e5, g1', g2, g3, and_self, m4, hn, m6]
        rw [if_pos (show (-1 : Int) < 0 by decide)]
        by_cases z1 : a3 = 1
        · rw [if_pos z1, if_neg (by omega), if_pos z1]
        · rw [if_neg z1, if_neg z1]
          by_cases z0 : a3 = 0
          · rw [if_pos z0, if_pos z0]
          · rw [if_neg z0, if_neg z0]
    · have hz : (gD Sc 33 0 (120 * w + 3 * t + f)) ≠ -1000000 := y9 _ (by
        have : (gD Sc 34 0 (120 * w + 3 * t + f)) = tnI Sc t f w := rfl
        omega)
      have b1 : (0 ≤ ((120 * w + 3 * t + f : Nat) : Int) ∧ ((120 * w + 3 * t + f : Nat) : Int) < 960) = True := eq_true (by omega)
      have c8 : EE false (d - 1) 124 [vr (some (31, 0)), vi (w : Int), vi ((t : Int) * 3 + (f : Int))] Sc = some (vi (gD Sc 33 0 (120 * w + 3 * t + f)), Sc) := by
        rw [E124 (by omega), b124_0, q_place (by omega) (by omega), b_I, if_neg (by omega)]
        simp only [b1, if_true, tn]
      have z : ¬ (w : Int) < 0 := by omega
      have z2 : ¬ (w : Int) = -1 := by omega
      refine ⟨if a3 = 0 then (gD Sc 33 0 (120 * w + 3 * t + f)) else if a3 = 1 then (w : Int) else if v = -1000000 then 0 else if v = (gD Sc 33 0 (120 * w + 3 * t + f)) then 0 else 1, ?_, ?_⟩
      · simp only [b_I, b_L, b_V, tn, e10, eq_self, if_true, if_false, ite_not, i01, and_self, e1, e3, g1, g2, g3, and_self, aw3x, hx3, c3, c4, c8, c5, c7, z2]
        repeat (any_goals split)
        all_goals rfl
      · simp only [b_I, b_L, b_V, tn, e10, eq_self, if_true, if_false, ite_not, i01, and_self, e2, e4, e5, g1', g2, g3, and_self, m4, hn, m6, z, awW2, h8, ht40, hx3, b1, y3, hz]
        by_cases z1 : a3 = 1
        · rw [if_pos z1, if_neg (by omega), if_pos z1]
        · rw [if_neg z1, if_neg z1]
          by_cases z0 : a3 = 0
          · rw [if_pos z0, if_pos z0]
          · rw [if_neg z0, if_neg z0]
            by_cases z3 : v = -1000000
            · rw [if_pos z3, if_pos z3]
            · rw [if_neg z3, if_neg z3]
              by_cases z4 : v = (gD Sc 33 0 (120 * w + 3 * t + f))
              · rw [if_pos z4, if_pos z4.symm]
              · rw [if_neg z4, if_neg (fun q => z4 q.symm)]
  · refine ⟨-1000000, ?_, ?_⟩
    · simp only [b_I, b_L, b_V, tn, e10, eq_self, if_true, if_false, ite_not, i01, and_self, e1, e3]
      repeat (any_goals split)
      all_goals first | rfl | (exfalso; omega)
    · simp only [b_I, b_L, b_V, tn, e10, eq_self, if_true, if_false, ite_not, i01, and_self, e2, e4, e5]
      repeat (any_goals split)
      all_goals first | rfl | (exfalso; omega)
end
