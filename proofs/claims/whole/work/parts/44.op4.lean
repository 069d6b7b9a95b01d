/-! layer 2: ranks and wishes -/
section
variable {d : Nat}
theorem o_rank (hd : 12 ≤ d) (a1 a2 a3 : Int) : PI2 d CI2 166 261 vi [vi a1, vi a2, vi a3] := by
  intro i Sc Sm hi' hC
  have e1 := q_within Sc (show 1 ≤ d - 1 - 1 by omega)
  have e2 := q_M_in Sm (show 1 ≤ d - 1 by omega)
  by_cases h : (0 ≤ a1 ∧ a1 ≤ 7) ∧ (0 ≤ a2 ∧ a2 ≤ 7) ∧ (0 ≤ a3 ∧ a3 ≤ 9)
  · obtain ⟨g1, g2, g3⟩ := h
    obtain ⟨hN, hT, hS, hW, hK, hO, hX, hP, hR, hF, hA, hH, hQ, hG⟩ := hC
    have uIX := hX; unfold IX at uIX; obtain ⟨y1, y2, y3, y4, y5, y6, y7, y8, y9⟩ := uIX
    have x1 : aw oo (aw oo (a1 * 8) + a2) = a1 * 8 + a2 := by rw [aw_id (z := a1 * 8) (by omega), aw_id (by omega)]
    have x2 : aw oo (aw oo (8 * a1) + a2) = a1 * 8 + a2 := by rw [aw_id (z := 8 * a1) (by omega), aw_id (by omega), Int.mul_comm]
    have b1 : (0 ≤ a1 * 8 + a2 ∧ a1 * 8 + a2 < 64) = True := eq_true (by omega)
    have c1 : EE false d 166 [vr (some (2, 0)), vi a1, vi a2, vi a3] Sc = some (vi (gD Sc 32 0 ((a1 * 8 + a2).toNat)), wD Sc 32 0 (a1 * 8 + a2).toNat a3) := by
      rw [E166 (by omega), b166_0, E120 (by omega), b120_0]
      simp only [b_I, b_L, b_V, tn, e10, eq_self, if_true, if_false, ite_not, i01, and_self, e1, x1, b1, g1, g2, g3, and_self]
    have m1 : EE false d 261 [vr (some (85, 0)), vi a1, vi a2, vi a3] Sm = some (vi (gD Sc 32 0 ((a1 * 8 + a2).toNat)), wD Sm 139 0 (a1 * 8 + a2).toNat a3) := by
      rw [E261 (by omega), b261_0]
      simp only [b_I, b_L, b_V, tn, e10, eq_self, if_true, if_false, ite_not, i01, and_self, e2, x2, b1, g1, g2, g3, and_self, y1]
    have x1 : EqX [32] [] Sc (resS c1) := by unfold resS; repeat (first | exact EqX_rf | refine EqX_wA ?_ (by decide) | refine EqX_wC ?_ (by decide))
    have x2 : EqX [139] [] Sm (resS m1) := by unfold resS; repeat (first | exact EqX_rf | refine EqX_wA ?_ (by decide) | refine EqX_wC ?_ (by decide))
    refine ⟨_, _, _, c1, EqC_of x1 rfl, m1, EqM_of x2 rfl, ⟨IN_fr (AgX x1 rfl) (AgX x2 rfl) hN, IT_fr (AgX x1 rfl) (AgX x2 rfl) hT, IS_up (IS_fr (AgX x1 rfl) (AgX x2 rfl) hS), IW_fr (AgX x1 rfl) (AgX x2 rfl) hW, IC_fr (AgX x1 rfl) (AgX x2 rfl) hK, IO_fr (AgX x1 rfl) (AgX x2 rfl) hO, ?_, IP_fr (AgX x1 rfl) (AgX x2 rfl) hP, IR_fr (AgX x1 rfl) (AgX x2 rfl) hR, IF_fr (AgX x1 rfl) (AgX x2 rfl) hF, IA_fr (AgX x1 rfl) (AgX x2 rfl) hA, IH_fr (AgX x1 rfl) (AgX x2 rfl) hH, IQ_fr (AgX x1 rfl) (AgX x2 rfl) hQ, IG_fr (AgX x1 rfl) (AgX x2 rfl) hG⟩⟩
    unfold IX
    refine ⟨?_, ?_, ?_, ?_, ?_, ?_, ?_, ?_, ?_⟩ <;> (try simp (disch := omega) only [g_f, g_e, g_k, g_i, if_true]) <;> first | omega | assumption | (intro q; simp only [y1]) | (intro q; have := y2 q; split <;> omega)
  · refine ⟨-1, Sc, Sm, ?_, EqC_rf, ?_, EqM_rf, CI2_up hC⟩
    · rw [E166 (by omega), b166_0, E120 (by omega), b120_0]
      simp only [b_I, b_L, b_V, tn, e10, eq_self, if_true, if_false, ite_not, i01, and_self, e1]
      repeat (any_goals split)
      all_goals first | rfl | (exfalso; omega)
    · rw [E261 (by omega), b261_0]
      simp only [b_I, b_L, b_V, tn, e10, eq_self, if_true, if_false, ite_not, i01, and_self, e2]
      repeat (any_goals split)
      all_goals first | rfl | (exfalso; omega)
theorem awW1 {o t f : Nat} (h : o < 8 ∧ t < 40 ∧ f < 3) : aw oo (aw oo ((o : Int) * 120) + ((t : Int) * 3 + (f : Int))) = ((120 * o + 3 * t + f : Nat) : Int) := by
  rw [aw_id (z := (o : Int) * 120) (by omega), aw_id (by omega)]
  omega
theorem awW2 {o t f : Nat} (h : o < 8 ∧ t < 40 ∧ f < 3) : aw oo (aw oo (aw oo (120 * (o : Int)) + aw oo (3 * (t : Int))) + (f : Int)) = ((120 * o + 3 * t + f : Nat) : Int) := by
  rw [aw_id (z := 120 * (o : Int)) (by omega), aw_id (z := 3 * (t : Int)) (by omega), aw_id (z := 120 * (o : Int) + 3 * (t : Int)) (by omega), aw_id (by omega)]
  omega
theorem q_place {S : SD} (hd : 2 ≤ d) {o t f : Nat} (h : o < 8 ∧ t < 40 ∧ f < 3) : EE false d 121 [vi (o : Int), vi ((t : Int) * 3 + (f : Int))] S = some (vi ((120 * o + 3 * t + f : Nat) : Int), S) := by
  rw [E121 (by omega), b121_0, q_in1 (by omega) _ _ _ (by omega), b_I, if_neg (by decide), q_in1 (by omega) _ _ _ (by omega), b_I, if_neg (by decide), awW1 h]
theorem q_note {S : SD} (hd : 3 ≤ d) {o t f : Nat} (h : o < 8 ∧ t < 40 ∧ f < 3) (v : Int) (hb : 0 ≤ (gD S 31 0 3) ∧ (gD S 31 0 3) ≤ 1000000) : EE false d 122 [vr (some (31, 0)), vi (o : Int), vi ((t : Int) * 3 + (f : Int)), vi v] S = some (vi 0, wD (wD (wD S 31 0 3 ((gD S 31 0 3) + 1)) 33 0 (120 * o + 3 * t + f) v) 34 0 (120 * o + 3 * t + f) ((gD S 31 0 3) + 1)) := by
  have x1 : aw oo ((gD S 31 0 3) + 1) = (gD S 31 0 3) + 1 := aw_id (by omega)
  have b1 : (0 ≤ ((120 * o + 3 * t + f : Nat) : Int) ∧ ((120 * o + 3 * t + f : Nat) : Int) < 960) = True := eq_true (by omega)
  rw [E122 (by omega), b122_0, q_place (by omega) h, b_I, if_neg (by omega)]
  simp (disch := decide) only [b1, if_true, tn, x1, g_f, g_e]
theorem q_M_wishes {S : SD} (hd : 1 ≤ d) {o t f : Nat} (h : o < 8 ∧ t < 40 ∧ f < 3) (v : Int) (hb : 0 ≤ (gD S 85 0 72) ∧ (gD S 85 0 72) ≤ 1000000) : EE false d 262 [vr (some (85, 0)), vi (o : Int), vi (t : Int), vi (f : Int), vi v] S = some (vi 0, wD (wD (wD S 85 0 72 ((gD S 85 0 72) + 1)) 140 0 (120 * o + 3 * t + f) v) 141 0 (120 * o + 3 * t + f) ((gD S 85 0 72) + 1)) := by
  have x1 : aw oo ((gD S 85 0 72) + 1) = (gD S 85 0 72) + 1 := aw_id (by omega)
  have b1 : (0 ≤ ((120 * o + 3 * t + f : Nat) : Int) ∧ ((120 * o + 3 * t + f : Nat) : Int) < 960) = True := eq_true (by omega)
  rw [E262 (by omega), b262_0, awW2 h]
  simp (disch := decide) only [b1, if_true, tn, x1, g_f, g_e]
theorem IX_note {b P : Nat} {v : Int} {Sc Sm Sc' Sm' : SD} (h : IX b Sc Sm) (hv : v ≠ -1000000)
    (hc : Sc' = wD (wD (wD Sc 31 0 3 ((gD Sc 31 0 3) + 1)) 33 0 P v) 34 0 P ((gD Sc 31 0 3) + 1))
    (hm : Sm' = wD (wD (wD Sm 85 0 72 ((gD Sm 85 0 72) + 1)) 140 0 P v) 141 0 P ((gD Sm 85 0 72) + 1)) : IX (b + 1) Sc' Sm' := by
  subst hc hm
  have uIX := h; unfold IX at uIX; obtain ⟨y1, y2, y3, y4, y5, y6, y7, y8, y9⟩ := uIX
  unfold IX
  refine ⟨?_, ?_, ?_, ?_, ?_, ?_, ?_, ?_, ?_⟩ <;> (try simp (disch := omega) only [g_f, g_e, g_k, g_i, if_true]) <;> first | omega | assumption | (intro q; simp only [y3, y4, y5]) | (intro q; have := y8 q; split <;> omega) | (intro q; have := y9 q; by_cases e : q = P <;> simp only [e, if_true, if_false] <;> first | exact this | (intro; exact hv))
theorem IX_mo {b b' : Nat} {Sc Sm : SD} (h : IX b Sc Sm) (hb : b ≤ b') : IX b' Sc Sm := by
  have uIX := h; unfold IX at uIX; obtain ⟨y1, y2, y3, y4, y5, y6, y7, y8, y9⟩ := uIX
  unfold IX
  exact ⟨y1, y2, y3, y4, y5, y6, by omega, y8, y9⟩
theorem o_wish (hd : 12 ≤ d) (a1 a2 a3 a4 : Int) : PI2 d CI2 167 263 vi [vi a1, vi a2, vi a3, vi a4] := by
  intro i Sc Sm hi' hC
  have e1 := q_within Sc (show 1 ≤ d - 1 by omega)
  have e2 := q_M_in Sm (show 1 ≤ d - 1 by omega)
  have e3 := q_has Sc (show 1 ≤ d - 1 by omega)
  have e4 := q_M_isThing Sm (show 1 ≤ d - 1 by omega)
  have e5 := q_M_isField Sm (show 1 ≤ d - 1 by omega)
  have hC' := hC
  obtain ⟨hN, hT, hS, hW, hK, hO, hX, hP, hR, hF, hA, hH, hQ, hG⟩ := hC
  have uIT := hT; unfold IT at uIT; obtain ⟨t1, t2, t3, t4, t5, t6, t7, t8, t9, t10, t11, t12, t13, t14, t15, t16⟩ := uIT
  by_cases h : (0 ≤ a1 ∧ a1 ≤ 7) ∧ (0 ≤ a2 ∧ a2 < (gD Sc 3 0 10)) ∧ (0 ≤ a3 ∧ a3 ≤ 2)
  · obtain ⟨g1, g2, g3⟩ := h
    obtain ⟨o, rfl⟩ := Int.eq_ofNat_of_zero_le g1.1
    obtain ⟨t, rfl⟩ := Int.eq_ofNat_of_zero_le g2.1
    obtain ⟨f, rfl⟩ := Int.eq_ofNat_of_zero_le g3.1
    have hb : o < 8 ∧ t < 40 ∧ f < 3 := by omega
    have x1 : aw oo (aw oo ((t : Int) * 3) + (f : Int)) = (t : Int) * 3 + (f : Int) := aw3x (by omega)
    have g2' : 0 ≤ (t : Int) ∧ (t : Int) < (gD Sm 85 0 6) := by omega
    have c0 := (E167 (d := d) (by omega) Sc (o : Int) (t : Int) (f : Int) a4).trans (b167_0 oo (EE false (d - 1)) 999999 Sc (o : Int) (t : Int) (f : Int) a4)
    simp only [b_I, e1, e3, g1, g2, g3, and_self, x1, e10, if_true, if_false] at c0
    have m0 := (E263 (d := d) (by omega) Sm (o : Int) (t : Int) (f : Int) a4).trans (b263_0 oo (EE false (d - 1)) 999999 Sm (o : Int) (t : Int) (f : Int) a4)
    simp only [b_I, e2, e4, e5, g1, g2', g3, and_self, e10, if_true, if_false] at m0
    by_cases hn : a4 = -1000000
    · subst hn
      have b1 : (0 ≤ ((120 * o + 3 * t + f : Nat) : Int) ∧ ((120 * o + 3 * t + f : Nat) : Int) < 960) = True := eq_true (by omega)
      have uIX := hX; unfold IX at uIX; obtain ⟨y1, y2, y3, y4, y5, y6, y7, y8, y9⟩ := uIX
      have q := y8 (120 * o + 3 * t + f)
      by_cases hz : (gD Sc 34 0 (120 * o + 3 * t + f)) = 0
      · have c1 : EE false d 167 [vr (some (2, 0)), vi (o : Int), vi (t : Int), vi (f : Int), vi (-1000000)] Sc = some (vi 0, Sc) := by
          rw [c0, if_pos rfl, E123 (by omega), b123_0, q_place (by omega) hb, b_I, if_neg (by omega)]
          simp only [b1, tn, if_true, hz, b_I, true_or]
        have m1 : EE false d 263 [vr (some (85, 0)), vi (o : Int), vi (t : Int), vi (f : Int), vi (-1000000)] Sm = some (vi 0, wD Sm 141 0 (120 * o + 3 * t + f) 0) := by
          rw [m0, if_pos rfl, awW2 hb]
          simp only [b1, tn, if_true, y4, hz, Int.lt_irrefl, if_false]
        have x1 : EqX [] [] Sc Sc := EqX_rf
        have x2 : EqX [141] [] Sm (resS m1) := by unfold resS; repeat (first | exact EqX_rf | refine EqX_wA ?_ (by decide) | refine EqX_wC ?_ (by decide))
        refine ⟨_, _, _, c1, EqC_of x1 rfl, m1, EqM_of x2 rfl, ⟨IN_fr (AgX x1 rfl) (AgX x2 rfl) hN, IT_fr (AgX x1 rfl) (AgX x2 rfl) hT, IS_up (IS_fr (AgX x1 rfl) (AgX x2 rfl) hS), IW_fr (AgX x1 rfl) (AgX x2 rfl) hW, IC_fr (AgX x1 rfl) (AgX x2 rfl) hK, IO_fr (AgX x1 rfl) (AgX x2 rfl) hO, ?_, IP_fr (AgX x1 rfl) (AgX x2 rfl) hP, IR_fr (AgX x1 rfl) (AgX x2 rfl) hR, IF_fr (AgX x1 rfl) (AgX x2 rfl) hF, IA_fr (AgX x1 rfl) (AgX x2 rfl) hA, IH_fr (AgX x1 rfl) (AgX x2 rfl) hH, IQ_fr (AgX x1 rfl) (AgX x2 rfl) hQ, IG_fr (AgX x1 rfl) (AgX x2 rfl) hG⟩⟩
        unfold IX
        refine ⟨?_, ?_, ?_, ?_, ?_, ?_, ?_, ?_, ?_⟩ <;> (try simp (disch := omega) only [g_f, g_e, g_k, g_i, if_true]) <;> first | omega | assumption | (intro q; by_cases e : q = 120 * o + 3 * t + f <;> simp only [e, if_true, if_false] <;> first | exact hz.symm | exact y4 q)
      · have c1 : EE false d 167 [vr (some (2, 0)), vi (o : Int), vi (t : Int), vi (f : Int), vi (-1000000)] Sc = some (vi 1, wD Sc 34 0 (120 * o + 3 * t + f) 0) := by
          rw [c0, if_pos rfl, E123 (by omega), b123_0, q_place (by omega) hb, b_I, if_neg (by omega)]
          simp only [b1, tn, if_true, hz, if_false, b_I, or_true]
        have m1 : EE false d 263 [vr (some (85, 0)), vi (o : Int), vi (t : Int), vi (f : Int), vi (-1000000)] Sm = some (vi 1, wD Sm 141 0 (120 * o + 3 * t + f) 0) := by
          rw [m0, if_pos rfl, awW2 hb]
          have q2 : 0 < (gD Sc 34 0 (120 * o + 3 * t + f)) := by omega
          simp only [b1, tn, if_true, y4, q2]
        have x1 : EqX [34] [] Sc (resS c1) := by unfold resS; repeat (first | exact EqX_rf | refine EqX_wA ?_ (by decide) | refine EqX_wC ?_ (by decide))
        have x2 : EqX [141] [] Sm (resS m1) := by unfold resS; repeat (first | exact EqX_rf | refine EqX_wA ?_ (by decide) | refine EqX_wC ?_ (by decide))
        refine ⟨_, _, _, c1, EqC_of x1 rfl, m1, EqM_of x2 rfl, ⟨IN_fr (AgX x1 rfl) (AgX x2 rfl) hN, IT_fr (AgX x1 rfl) (AgX x2 rfl) hT, IS_up (IS_fr (AgX x1 rfl) (AgX x2 rfl) hS), IW_fr (AgX x1 rfl) (AgX x2 rfl) hW, IC_fr (AgX x1 rfl) (AgX x2 rfl) hK, IO_fr (AgX x1 rfl) (AgX x2 rfl) hO, ?_, IP_fr (AgX x1 rfl) (AgX x2 rfl) hP, IR_fr (AgX x1 rfl) (AgX x2 rfl) hR, IF_fr (AgX x1 rfl) (AgX x2 rfl) hF, IA_fr (AgX x1 rfl) (AgX x2 rfl) hA, IH_fr (AgX x1 rfl) (AgX x2 rfl) hH, IQ_fr (AgX x1 rfl) (AgX x2 rfl) hQ, IG_fr (AgX x1 rfl) (AgX x2 rfl) hG⟩⟩
        unfold IX
        refine ⟨?_, ?_, ?_, ?_, ?_, ?_, ?_, ?_, ?_⟩ <;> (try simp (disch := omega) only [g_f, g_e, g_k, g_i, if_true]) <;> first | omega | assumption | (intro q; simp only [y4]) | (intro q; have := y8 q; split <;> omega) | (intro q; have := y9 q; by_cases e : q = 120 * o + 3 * t + f <;> simp only [e, if_true, if_false] <;> first | exact this | (intro z; exact absurd rfl z))
    · have l1 := q_least (S := Sc) (show 2 ≤ d - 1 by omega) t f g2.2 (by omega) (by omega) (t5 t)
      have l2 := q_most (S := Sc) (show 2 ≤ d - 1 by omega) t f g2.2 (by omega) (by omega) (t5 t)
      have l3 := q_M_least hT (show 1 ≤ d - 1 by omega) t f (by omega) (by omega)
      have l4 := q_M_most hT (show 1 ≤ d - 1 by omega) t f (by omega) (by omega)
      by_cases hw : (gD Sc 6 0 (((gD Sc 9 0 t) * 3 + (f : Int)).toNat)) ≤ a4 ∧ a4 ≤ (gD Sc 7 0 (((gD Sc 9 0 t) * 3 + (f : Int)).toNat))
      · have q1 := (show IX (21 * i) Sc Sm from hX)
        have uIX := hX; unfold IX at uIX; obtain ⟨y1, y2, y3, y4, y5, y6, y7, y8, y9⟩ := uIX
        rw [if_neg hn, l1, b_I, l2, b_I, e1, b_I, if_pos hw, if_neg (by decide), q_note (by omega) hb _ (by omega), b_V] at c0
        rw [if_neg hn, l3, b_I, l4, b_I, e2, b_I, if_pos hw, if_neg (by decide), q_M_wishes (by omega) hb _ (by omega), b_V] at m0
        have c1 := c0
        have m1 := m0
        have x1 : EqX [33, 34] [(31, 3)] Sc (resS c1) := by unfold resS; repeat (first | exact EqX_rf | refine EqX_wA ?_ (by decide) | refine EqX_wC ?_ (by decide))
        have x2 : EqX [140, 141] [(85, 72)] Sm (resS m1) := by unfold resS; repeat (first | exact EqX_rf | refine EqX_wA ?_ (by decide) | refine EqX_wC ?_ (by decide))
        have hx := IX_note (Sc' := resS c1) (Sm' := resS m1) q1 hn rfl rfl
        exact ⟨_, _, _, c1, EqC_of x1 rfl, m1, EqM_of x2 rfl, ⟨IN_fr (AgX x1 rfl) (AgX x2 rfl) hN, IT_fr (AgX x1 rfl) (AgX x2 rfl) hT, IS_up (IS_fr (AgX x1 rfl) (AgX x2 rfl) hS), IW_fr (AgX x1 rfl) (AgX x2 rfl) hW, IC_fr (AgX x1 rfl) (AgX x2 rfl) hK, IO_fr (AgX x1 rfl) (AgX x2 rfl) hO, (IX_mo hx (by omega)), IP_fr (AgX x1 rfl) (AgX x2 rfl) hP, IR_fr (AgX x1 rfl) (AgX x2 rfl) hR, IF_fr (AgX x1 rfl) (AgX x2 rfl) hF, IA_fr (AgX x1 rfl) (AgX x2 rfl) hA, IH_fr (AgX x1 rfl) (AgX x2 rfl) hH, IQ_fr (AgX x1 rfl) (AgX x2 rfl) hQ, IG_fr (AgX x1 rfl) (AgX x2 rfl) hG⟩⟩
      · refine ⟨0, Sc, Sm, ?_, EqC_rf, ?_, EqM_rf, CI2_up hC'⟩
        · rw [c0, if_neg hn, l1, b_I, l2, b_I, e1, b_I, if_neg hw, if_pos rfl]
        · rw [m0, if_neg hn, l3, b_I, l4, b_I, e2, b_I, if_neg hw, if_pos rfl]
  · refine ⟨0, Sc, Sm, ?_, EqC_rf, ?_, EqM_rf, CI2_up hC'⟩
    · rw [E167 (by omega), b167_0]
      simp only [b_I, b_L, b_V, tn, e10, eq_self, if_true, if_false, ite_not, i01, and_self, e1, e3]
      repeat (any_goals split)
      all_goals first | rfl | (exfalso; omega)
    · rw [E263 (by omega), b263_0]
      simp only [b_I, b_L, b_V, tn, e10, eq_self, if_true, if_false, ite_not, i01, and_self, e2, e4, e5]
      repeat (any_goals split)
      all_goals first | rfl | (exfalso; omega)
end
