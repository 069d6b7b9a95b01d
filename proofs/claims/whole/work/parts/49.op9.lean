/-! layer 2: giveUp, forget, question, report -/
section
variable {d : Nat}
theorem o_giveUp (hd : 12 ≤ d) (a1 a2 : Int) : PI2 d CI2 156 215 vi [vi a1, vi a2] := by
  intro i Sc Sm hi' hC
  have hC' := hC
  obtain ⟨hN, hT, hS, hW, hK, hO, hX, hP, hR, hF, hA, hH, hQ, hG⟩ := hC
  have uIT := hT; unfold IT at uIT; obtain ⟨t1, t2, t3, t4, t5, t6, t7, t8, t9, t10, t11, t12, t13, t14, t15, t16⟩ := uIT
  have c2 := (E156 (d := d) (by omega) Sc a1 a2).trans (b156_0 oo (EE false (d - 1)) 999999 Sc a1 a2)
  have m2 := (E215 (d := d) (by omega) Sm a1 a2).trans (b215_0 oo (EE false (d - 1)) 999999 Sm a1 a2)
  rw [E140 (by omega), b140_0] at c2
  by_cases g1 : 0 ≤ a1 ∧ a1 < (gD Sc 3 0 10)
  · obtain ⟨t, rfl⟩ := Int.eq_ofNat_of_zero_le g1.1
    obtain ⟨z1, z2, z3⟩ := q_great hT hW hK (show 2 ≤ d - 1 - 1 by omega) t g1.2
    rw [q_thas1 (by omega) t g1.2, b_I, if_neg (by decide)] at c2
    rw [q_M_isThing1 (by omega) _ (by omega), b_I, if_neg (by decide)] at m2
    by_cases g2 : 1 ≤ a2 ∧ a2 ≤ 300
    · obtain ⟨c, rfl⟩ := Int.eq_ofNat_of_zero_le (show 0 ≤ a2 by omega)
      rw [if_neg (by omega), z1, b_I] at c2
      rw [q_M_isMissed hW (by omega) t c (by omega) ⟨z2, z3⟩, b_I] at m2
      by_cases q : (c : Int) < (gD Sm 109 0 t) ∧ (gD Sc 28 0 (201 * t + c)) = 0
      · have b2 : (0 ≤ ((201 * t + c : Nat) : Int) ∧ ((201 * t + c : Nat) : Int) < 8040) = True := eq_true (by omega)
        rw [if_pos q.1, aw201a (by omega)] at c2
        rw [if_pos (show 1 ≤ c ∧ (c : Int) < (gD Sm 109 0 t) ∧ (gD Sc 28 0 (201 * t + c)) = 0 by omega), if_neg (by decide), aw201b (by omega)] at m2
        simp only [b2, if_true, tn, q.2, b_I, or_true] at c2
        simp only [b2, if_true, tn] at m2
        have x1 : EqX [28] [] Sc (resS c2) := by unfold resS; repeat (first | exact EqX_rf | refine EqX_wA ?_ (by decide) | refine EqX_wC ?_ (by decide))
        have x2 : EqX [108] [] Sm (resS m2) := by unfold resS; repeat (first | exact EqX_rf | refine EqX_wA ?_ (by decide) | refine EqX_wC ?_ (by decide))
        refine ⟨_, _, _, c2, EqC_of x1 rfl, m2, EqM_of x2 rfl, ⟨IN_fr (AgX x1 rfl) (AgX x2 rfl) hN, IT_fr (AgX x1 rfl) (AgX x2 rfl) hT, IS_up (IS_fr (AgX x1 rfl) (AgX x2 rfl) hS), ?_, IC_fr (AgX x1 rfl) (AgX x2 rfl) hK, IO_fr (AgX x1 rfl) (AgX x2 rfl) hO, IX_up (IX_fr (AgX x1 rfl) (AgX x2 rfl) hX), IP_fr (AgX x1 rfl) (AgX x2 rfl) hP, IR_fr (AgX x1 rfl) (AgX x2 rfl) hR, IF_fr (AgX x1 rfl) (AgX x2 rfl) hF, IA_fr (AgX x1 rfl) (AgX x2 rfl) hA, IH_fr (AgX x1 rfl) (AgX x2 rfl) hH, IQ_fr (AgX x1 rfl) (AgX x2 rfl) hQ, IG_fr (AgX x1 rfl) (AgX x2 rfl) hG⟩⟩
        have uIW := hW; unfold IW at uIW; obtain ⟨w1, w2, w3, w4, w5, w6, w7, w8, w9, w10, w11, w12, w13, w14, w15, w16, w17, w18, w19, w20, w21, w22, w23, w24⟩ := uIW
        unfold IW
        simp (disch := omega) only [g_f, g_i]
        refine ⟨w1, w2, w3, w4, w5, w6, w7, w8, w9, w10, w11, w12, w13, w14, w15, w16, fun k => ?_, fun k => ?_, fun k => ?_, fun k hk => ?_, w21, w22, w23, w24⟩
        · by_cases e : k = 201 * t + c
          · rw [if_pos e]; exact Or.inr (Or.inr rfl)
          · rw [if_neg e]; exact w17 k
        · by_cases e : k = 201 * t + c
          · rw [if_pos e, if_neg (by decide), w18, e, q.2, if_neg (by decide)]
          · rw [if_neg e]; exact w18 k
        · by_cases e : k = 201 * t + c
          · rw [if_pos e, if_pos e]
            exact ⟨fun _ => rfl, fun q => absurd q (by decide)⟩
          · rw [if_neg e, if_neg e]; exact w19 k
        · have := w20 k hk
          by_cases e : ((gD Sc 14 0 k) * 201 + (gD Sc 15 0 k)).toNat = 201 * t + c
          · rw [e, q.2] at this
            exact absurd this (by decide)
          · rw [if_neg e]; exact this
      · refine ⟨0, Sc, Sm, ?_, EqC_rf, ?_, EqM_rf, CI2_up hC'⟩
        · rw [c2]
          by_cases q1 : (c : Int) < (gD Sm 109 0 t)
          · have b2 : (0 ≤ ((201 * t + c : Nat) : Int) ∧ ((201 * t + c : Nat) : Int) < 8040) = True := eq_true (by omega)
            have q2 : ¬ (gD Sc 28 0 (201 * t + c)) = 0 := fun z => q ⟨q1, z⟩
            rw [if_pos q1, aw201a (by omega)]
            simp only [b2, if_true, tn, q2, if_false, b_I, true_or]
          · rw [if_neg q1, b_I, if_pos (Or.inl rfl)]
        · have z : ¬ (1 ≤ c ∧ (c : Int) < (gD Sm 109 0 t) ∧ (gD Sc 28 0 (201 * t + c)) = 0) := fun z => q z.2
          rw [m2, if_neg z, if_pos rfl]
    · refine ⟨0, Sc, Sm, ?_, EqC_rf, ?_, EqM_rf, CI2_up hC'⟩
      · rw [c2]
        by_cases q1 : a2 < 1
        · rw [if_pos q1, b_I, if_pos (Or.inl rfl)]
        · rw [if_neg q1, z1, b_I, if_neg (by omega), b_I, if_pos (Or.inl rfl)]
      · rw [m2, E213 (by omega), b213_0, bnd (by omega), tn, aw_id (by omega), q_M_in0 (by omega) _ _ _ (by omega), b_I, if_pos rfl, b_I, if_pos rfl]
  · refine ⟨0, Sc, Sm, ?_, EqC_rf, ?_, EqM_rf, CI2_up hC'⟩
    · rw [c2, q_thas0 (by omega) _ (by omega), b_I, if_pos rfl, b_I, if_pos (Or.inl rfl)]
    · rw [m2, q_M_isThing0 (by omega) _ (by omega), b_I, if_pos rfl]
/-- forget: both loops -/
theorem IW_fgt {Sc Sm : SD} (hW : IW Sc Sm) (k : Nat) (hk : (k : Int) < (gD Sc 13 0 16)) : IW (wD Sc 22 0 k 1) (wD Sm 105 0 k 1) := by
  have uIW := hW; unfold IW at uIW; obtain ⟨w1, w2, w3, w4, w5, w6, w7, w8, w9, w10, w11, w12, w13, w14, w15, w16, w17, w18, w19, w20, w21, w22, w23, w24⟩ := uIW
  unfold IW
  simp (disch := omega) only [g_f, g_i]
  refine ⟨w1, w2, w3, w4, w5, w6, w7, w8, w9, w10, w11, fun q => by simp only [w12], w13, w14, w15, w16, w17, w18, w19, w20, w21, fun q hq => ?_, w23, fun q => ?_⟩
  · rw [if_neg (by omega)]; exact w22 q hq
  · have := w24 q
    split <;> omega
theorem w_forget {N : Nat} (hN4 : N ≤ 400) (t : Int) {K K' : KT} : ∀ (n j : Nat) (m : Int) (Tc Tm : SD), IW Tc Tm → (gD Tc 13 0 16) = (N : Int) → j ≤ N → N - j < n → ∃ r Tc' Tm', run oo K false mi_141 n 17 [(0, vr (some (13, 0))), (1, vi t), (2, vi m), (3, vi (j : Int))] [] Tc = some (vi r, Tc') ∧ run oo K' false mi_216 n 14 [(0, vr (some (85, 0))), (1, vi t), (2, vi m), (3, vi (j : Int))] [] Tm = some (vi r, Tm') ∧ EqX [22] [] Tc Tc' ∧ EqX [105] [] Tm Tm' ∧ IW Tc' Tm' := by
  intro n
  induction n with
  | zero => intro j m Tc Tm h0 h1 h2 h3; omega
  | succ n ih =>
    intro j m Tc Tm h0 h1 h2 h3
    have uIW := h0; unfold IW at uIW; obtain ⟨w1, w2, w3, w4, w5, w6, w7, w8, w9, w10, w11, w12, w13, w14, w15, w16, w17, w18, w19, w20, w21, w22, w23, w24⟩ := uIW
    rw [b141_17, b216_14, w1, h1]
    by_cases hj : j < N
    · have e1 : vi (aw oo ((j : Int) + 1)) = vi ((j + 1 : Nat) : Int) := congrArg vi (awn (by omega))
      have b1 : (0 ≤ (j : Int) ∧ (j : Int) < 400) = True := eq_true (by omega)
      by_cases q : (gD Tc 14 0 j) = t ∧ (gD Tc 22 0 j) = 0
      · obtain ⟨r, Tc', Tm', i1, i2, i3, i4, i5⟩ := ih (j + 1) (aw oo (m + 1)) _ _ (IW_fgt h0 j (by omega)) (by rw [g_f (by decide)]; exact h1) (by omega) (by omega)
        refine ⟨r, Tc', Tm', ?_, ?_, EqX_tr (EqX_wA EqX_rf (by decide)) i3, EqX_tr (EqX_wA EqX_rf (by decide)) i4, i5⟩
        · simp only [b_I, b_L, b_V, tn, e10, eq_self, if_true, if_false, ite_not, i01, and_self, e1, b1]
          (repeat (any_goals split)) <;> first | exact i1 | (exfalso; omega)
        · simp only [b_I, b_L, b_V, tn, e10, eq_self, if_true, if_false, ite_not, i01, and_self, e1, b1, w4, w12]
          (repeat (any_goals split)) <;> first | exact i2 | (exfalso; omega)
      · obtain ⟨r, Tc', Tm', i1, i2, i3, i4, i5⟩ := ih (j + 1) m Tc Tm h0 h1 (by omega) (by omega)
        refine ⟨r, Tc', Tm', ?_, ?_, i3, i4, i5⟩
        · simp only [b_I, b_L, b_V, tn, e10, eq_self, if_true, if_false, ite_not, i01, and_self, e1, b1]
          (repeat (any_goals split)) <;> first | exact i1 | (exfalso; omega)
        · simp only [b_I, b_L, b_V, tn, e10, eq_self, if_true, if_false, ite_not, i01, and_self, e1, b1, w4, w12]
          (repeat (any_goals split)) <;> first | exact i2 | (exfalso; omega)
    · rw [if_neg (by omega), if_neg (by omega)]
      exact ⟨m, Tc, Tm, rfl, rfl, EqX_rf, EqX_rf, h0⟩
theorem o_forget (hd : 12 ≤ d) (a1 : Int) : PI2 d CI2 157 216 vi [vi a1] := by
  intro i Sc Sm hi' hC
  have hC' := hC
  obtain ⟨hN, hT, hS, hW, hK, hO, hX, hP, hR, hF, hA, hH, hQ, hG⟩ := hC
  have uIT := hT; unfold IT at uIT; obtain ⟨t1, t2, t3, t4, t5, t6, t7, t8, t9, t10, t11, t12, t13, t14, t15, t16⟩ := uIT
  have c2 := (E157 (d := d) (by omega) Sc a1).trans (b157_0 oo (EE false (d - 1)) 999999 Sc a1)
  have m2 := (E216 (d := d) (by omega) Sm a1).trans (b216_0 oo (EE false (d - 1)) 999999 Sm a1)
  rw [E141 (by omega), b141_0] at c2
  by_cases g1 : 0 ≤ a1 ∧ a1 < (gD Sc 3 0 10)
  · obtain ⟨t, rfl⟩ := Int.eq_ofNat_of_zero_le g1.1
    have uW := hW; unfold IW at uW
    obtain ⟨N, hNN⟩ : ∃ N : Nat, (gD Sc 13 0 16) = (N : Int) := Int.eq_ofNat_of_zero_le uW.2.1
    obtain ⟨r, Tc, Tm, w1, w2, x1, x2, h2⟩ := w_forget (N := N) (by omega) (t : Int) (K := EE false (d - 1 - 1)) (K' := EE false (d - 1)) 999999 0 0 Sc Sm hW hNN (by omega) (by omega)
    have w1 : run oo (EE false (d - 1 - 1)) false mi_141 999999 17 [(0, vr (some (13, 0))), (1, vi (t : Int)), (2, vi 0), (3, vi 0)] [] Sc = some (vi r, Tc) := w1
    have w2 : run oo (EE false (d - 1)) false mi_216 999999 14 [(0, vr (some (85, 0))), (1, vi (t : Int)), (2, vi 0), (3, vi 0)] [] Sm = some (vi r, Tm) := w2
    rw [q_thas1 (by omega) t g1.2, b_I, if_neg (by decide), w1, b_I] at c2
    rw [q_M_isThing1 (by omega) _ (by omega), b_I, if_neg (by decide), w2] at m2
    exact ⟨_, _, _, c2, EqC_of x1 rfl, m2, EqM_of x2 rfl, ⟨IN_fr (AgX x1 rfl) (AgX x2 rfl) hN, IT_fr (AgX x1 rfl) (AgX x2 rfl) hT, IS_up (IS_fr (AgX x1 rfl) (AgX x2 rfl) hS), h2, IC_fr (AgX x1 rfl) (AgX x2 rfl) hK, IO_fr (AgX x1 rfl) (AgX x2 rfl) hO, IX_up (IX_fr (AgX x1 rfl) (AgX x2 rfl) hX), IP_fr (AgX x1 rfl) (AgX x2 rfl) hP, IR_fr (AgX x1 rfl) (AgX x2 rfl) hR, IF_fr (AgX x1 rfl) (AgX x2 rfl) hF, IA_fr (AgX x1 rfl) (AgX x2 rfl) hA, IH_fr (AgX x1 rfl) (AgX x2 rfl) hH, IQ_fr (AgX x1 rfl) (AgX x2 rfl) hQ, IG_fr (AgX x1 rfl) (AgX x2 rfl) hG⟩⟩
  · refine ⟨-1, Sc, Sm, ?_, EqC_rf, ?_, EqM_rf, CI2_up hC'⟩
    · rw [c2, q_thas0 (by omega) _ (by omega), b_I, if_pos rfl, b_I]
    · rw [m2, q_M_isThing0 (by omega) _ (by omega), b_I, if_pos rfl]
theorem o_report (hd : 12 ≤ d) (a1 a2 : Int) (hb : a2 = 0 ∨ a2 = 1) : PI2 d CI2 183 301 vi [vi a1, vi a2] := by
  intro i Sc Sm hi' hC
  have hC' := hC
  obtain ⟨hN, hT, hS, hW, hK, hO, hX, hP, hR, hF, hA, hH, hQ, hG⟩ := hC
  have uIT := hT; unfold IT at uIT; obtain ⟨t1, t2, t3, t4, t5, t6, t7, t8, t9, t10, t11, t12, t13, t14, t15, t16⟩ := uIT
  have c2 := (E183 (d := d) (by omega) Sc a1 a2).trans (b183_0 oo (EE false (d - 1)) 999999 Sc a1 a2)
  have m2 := (E301 (d := d) (by omega) Sm a1 a2).trans (b301_0 oo (EE false (d - 1)) 999999 Sm a1 a2)
  by_cases g1 : 0 ≤ a1 ∧ a1 < (gD Sc 3 0 10)
  · obtain ⟨t, rfl⟩ := Int.eq_ofNat_of_zero_le g1.1
    have uIG := hG; unfold IG at uIG; obtain ⟨pg1, pg2, pg3, pg4, pg5, pg6, pg7, pg8, pg9, pg10, pg11, pg12⟩ := uIG
    have z1 := pg1 t g1.2
    have z3 := pg3 t (by omega)
    have b1 : (0 ≤ (t : Int) ∧ (t : Int) < 40) = True := eq_true (by omega)
    rw [q_thas1 (by omega) t g1.2, b_I, if_neg (by decide), E29 (by omega), b29_0, q_in1 (by omega) _ _ _ (by omega), b_I, if_neg (by decide), bnd (by omega), tn] at c2
    rw [q_M_isThing1 (by omega) _ (by omega), b_I, if_neg (by decide), bnd (by omega), tn, z1.1] at m2
    by_cases q : 0 ≤ (gD Sc 76 0 t)
    · obtain ⟨r, hr⟩ := Int.eq_ofNat_of_zero_le q
      have b2 : (0 ≤ (r : Int) ∧ (r : Int) < 8) = True := eq_true (by omega)
      have z7 := pg7 r
      rw [hr, q_isRing1 (by omega) _ (by omega), b_I, if_neg (by decide), bnd (by omega), tn] at c2
      rw [hr, if_neg (by omega), bnd (by omega), bnd (by omega), tn, pg6, z1.2] at m2
      by_cases q2 : (gD Sc 80 0 r) = 0
      · rw [if_pos q2, b_I, if_pos rfl] at c2
        rw [if_pos q2] at m2
        exact ⟨0, Sc, Sm, c2, EqC_rf, m2, EqM_rf, CI2_up hC'⟩
      · rw [if_neg q2, bnd (by omega)] at c2
        rw [if_neg q2, bnd (by omega)] at m2
        by_cases q3 : (gD Sc 79 0 t) = -1
        · rw [if_pos q3] at c2
          rw [if_pos (by omega)] at m2
          rcases hb with rfl | rfl
          · simp only [if_true, b1, b_I, e10, if_false] at c2 m2
            have x1 : EqX [79] [] Sc (resS c2) := by unfold resS; repeat (first | exact EqX_rf | refine EqX_wA ?_ (by decide) | refine EqX_wC ?_ (by decide))
            have x2 : EqX [96] [] Sm (resS m2) := by unfold resS; repeat (first | exact EqX_rf | refine EqX_wA ?_ (by decide) | refine EqX_wC ?_ (by decide))
            refine ⟨_, _, _, c2, EqC_of x1 rfl, m2, EqM_of x2 rfl, ⟨IN_fr (AgX x1 rfl) (AgX x2 rfl) hN, IT_fr (AgX x1 rfl) (AgX x2 rfl) hT, IS_up (IS_fr (AgX x1 rfl) (AgX x2 rfl) hS), IW_fr (AgX x1 rfl) (AgX x2 rfl) hW, IC_fr (AgX x1 rfl) (AgX x2 rfl) hK, IO_fr (AgX x1 rfl) (AgX x2 rfl) hO, IX_up (IX_fr (AgX x1 rfl) (AgX x2 rfl) hX), IP_fr (AgX x1 rfl) (AgX x2 rfl) hP, IR_fr (AgX x1 rfl) (AgX x2 rfl) hR, IF_fr (AgX x1 rfl) (AgX x2 rfl) hF, IA_fr (AgX x1 rfl) (AgX x2 rfl) hA, IH_fr (AgX x1 rfl) (AgX x2 rfl) hH, IQ_fr (AgX x1 rfl) (AgX x2 rfl) hQ, ?_⟩⟩
            unfold IG
            refine ⟨?_, ?_, ?_, ?_, ?_, ?_, ?_, ?_, ?_, ?_, ?_, ?_⟩ <;> (try simp (disch := omega) only [g_f, g_e, g_k, g_i, if_true]) <;> first | assumption | (intro q hq; have := pg1 q hq; exact ⟨this.1, by rw [this.2]⟩) | (intro q hq hq2; have := pg2 q hq hq2; rw [if_neg (by omega)]; exact this) | (intro q hq; have := pg3 q hq; split <;> omega)
          · have z9 : gD (wD (wD Sm 96 0 t 1) 94 0 t (gD (wD Sm 96 0 t 1) 93 0 t)) 95 0 t = (r : Int) := by
              rw [g_f (by decide), g_f (by decide), z1.1, hr]
            simp only [e10, if_false, b1, if_true, b_I, b2, tn, z9] at c2 m2
            have x1 : EqX [79, 78, 77] [] Sc (resS c2) := by unfold resS; repeat (first | exact EqX_rf | refine EqX_wA ?_ (by decide) | refine EqX_wC ?_ (by decide))
            have x2 : EqX [96, 94, 93] [] Sm (resS m2) := by unfold resS; repeat (first | exact EqX_rf | refine EqX_wA ?_ (by decide) | refine EqX_wC ?_ (by decide))
            refine ⟨_, _, _, c2, EqC_of x1 rfl, m2, EqM_of x2 rfl, ⟨IN_fr (AgX x1 rfl) (AgX x2 rfl) hN, IT_fr (AgX x1 rfl) (AgX x2 rfl) hT, IS_up (IS_fr (AgX x1 rfl) (AgX x2 rfl) hS), IW_fr (AgX x1 rfl) (AgX x2 rfl) hW, IC_fr (AgX x1 rfl) (AgX x2 rfl) hK, IO_fr (AgX x1 rfl) (AgX x2 rfl) hO, IX_up (IX_fr (AgX x1 rfl) (AgX x2 rfl) hX), IP_fr (AgX x1 rfl) (AgX x2 rfl) hP, IR_fr (AgX x1 rfl) (AgX x2 rfl) hR, IF_fr (AgX x1 rfl) (AgX x2 rfl) hF, IA_fr (AgX x1 rfl) (AgX x2 rfl) hA, IH_fr (AgX x1 rfl) (AgX x2 rfl) hH, IQ_fr (AgX x1 rfl) (AgX x2 rfl) hQ, ?_⟩⟩
            unfold IG
            refine ⟨?_, ?_, ?_, ?_, ?_, ?_, ?_, ?_, ?_, ?_, ?_, ?_⟩ <;> (try simp (disch := omega) only [g_f, g_e, g_k, g_i, if_true]) <;> first | assumption | (intro q hq; have := pg1 q hq; exact ⟨this.1, by rw [this.2]⟩) | (intro q hq hq2; have := pg2 q hq hq2; rw [if_neg (by omega)]; exact this) | (intro q hq; have := pg3 q hq; split <;> omega) | (intro q; simp only [pg4, pg5, pg6])
        · rw [if_neg q3, b_I, if_pos rfl] at c2
          rw [if_neg (by omega)] at m2
          exact ⟨0, Sc, Sm, c2, EqC_rf, m2, EqM_rf, CI2_up hC'⟩
    · rw [q_isRing0 (by omega) _ (by omega), b_I, if_pos rfl, b_I, if_pos rfl] at c2
      rw [if_pos (by omega)] at m2
      exact ⟨0, Sc, Sm, c2, EqC_rf, m2, EqM_rf, CI2_up hC'⟩
  · refine ⟨0, Sc, Sm, ?_, EqC_rf, ?_, EqM_rf, CI2_up hC'⟩
    · rw [c2, q_thas0 (by omega) _ (by omega), b_I, if_pos rfl]
    · rw [m2, q_M_isThing0 (by omega) _ (by omega), b_I, if_pos rfl]
theorem lcm0 (x : Int) : ab oo 9 x 0 = if 0 < x then 1 else if x = 0 then 0 else -1 := rfl
theorem o_question (hd : 12 ≤ d) (a1 a2 a4 : Int) (hr : r64 a2) : PI2 d CI2 176 288 vi [vi a1, vl a2, vi a4] := by
  intro i Sc Sm hi' hC
  have hC' := hC
  obtain ⟨hN, hT, hS, hW, hK, hO, hX, hP, hR, hF, hA, hH, hQ, hG⟩ := hC
  have uIT := hT; unfold IT at uIT; obtain ⟨t1, t2, t3, t4, t5, t6, t7, t8, t9, t10, t11, t12, t13, t14, t15, t16⟩ := uIT
  have uIQ := hQ; unfold IQ at uIQ; obtain ⟨qu1, qu2, qu3, qu4, qu5, qu6, qu7, qu8, qu9, qu10⟩ := uIQ
  have c2 := (E176 (d := d) (by omega) Sc a1 a2 a4).trans (b176_0 oo (EE false (d - 1)) 999999 Sc a1 a2 a4)
  have m2 := (E288 (d := d) (by omega) Sm a1 a2 a4).trans (b288_0 oo (EE false (d - 1)) 999999 Sm a1 a2 a4)
  rw [E35 (by omega), b35_0] at c2
  rw [qu1] at m2
  have e1 := q_within Sc (show 1 ≤ d - 1 - 1 by omega)
  have e2 := q_M_in Sm (show 1 ≤ d - 1 by omega)
  have e5 := q_M_isField Sm (show 1 ≤ d - 1 by omega)
  have l1 : (0 < ab oo 9 a2 0) = (0 < a2) := by
    rw [lcm0]
    by_cases z : 0 < a2
    · rw [if_pos z]; simp [z]
    · rw [if_neg z]
      by_cases z2 : a2 = 0
      · rw [if_pos z2]; simp [z]
      · rw [if_neg z2]; simp [z]
  have l2 : (ab oo 9 (ab oo 8 a2 (gD Sc 3 0 10)) 0 = 0) = (ab oo 8 a2 (gD Sc 3 0 10) = 0) := by
    rw [lcm0]
    generalize ab oo 8 a2 (gD Sc 3 0 10) = z
    by_cases z1 : 0 < z
    · rw [if_pos z1]; exact propext ⟨fun q => absurd q (by decide), fun q => by omega⟩
    · rw [if_neg z1]
      by_cases z2 : z = 0
      · rw [if_pos z2]; simp [z2]
      · rw [if_neg z2]; simp [z2]
  simp only [e1, b_I, i01, ite_not, l1, l2] at c2
  simp only [e2, e5, b_I, i01, ite_not, t1, l1, l2] at m2
  by_cases h : (gD Sc 68 0 9) < 8 ∧ (0 ≤ a1 ∧ a1 ≤ 2) ∧ (0 ≤ a4 ∧ a4 ≤ 1000000000) ∧ 0 < a2 ∧ ab oo 8 a2 (gD Sc 3 0 10) = 0
  · obtain ⟨g1, g2, g3, g4, g5⟩ := h
    obtain ⟨N, hNN⟩ : ∃ N : Nat, (gD Sc 68 0 9) = (N : Int) := Int.eq_ofNat_of_zero_le qu2
    obtain ⟨T, hTT⟩ : ∃ N : Nat, (gD Sc 3 0 10) = (N : Int) := Int.eq_ofNat_of_zero_le t2
    have g6 : ∀ t : Nat, T ≤ t → t < 40 → tb a2 t = false := fun t h1 h2 => shr_0 (by rw [← hTT]; exact g5) h1 h2
    have b1 : (0 ≤ (N : Int) ∧ (N : Int) < 8) = True := eq_true (by omega)
    rw [if_pos g1, if_pos g2, if_pos g3, if_pos g4, if_pos g5] at c2
    rw [if_neg (by omega), if_pos g2, if_pos g4, if_pos g5, if_pos g3] at m2
    have hq : (gD Sm 85 0 100) = (N : Int) := qu1.trans hNN
    simp (disch := decide) only [g_f, g_e, hNN, b1, if_true, tn, aw_id (show -2147483648 ≤ (N : Int) + 1 ∧ (N : Int) + 1 < 2147483648 by omega), b_I] at c2
    simp (disch := decide) only [g_f, g_e, hq, b1, if_true, tn, aw_id (show -2147483648 ≤ (N : Int) + 1 ∧ (N : Int) + 1 < 2147483648 by omega)] at m2
    have x1 : EqX [69, 70, 71] [(68, 9)] Sc (resS c2) := by unfold resS; repeat (first | exact EqX_rf | refine EqX_wA ?_ (by decide) | refine EqX_wC ?_ (by decide))
    have x2 : EqX [163, 164, 165] [(85, 100)] Sm (resS m2) := by unfold resS; repeat (first | exact EqX_rf | refine EqX_wA ?_ (by decide) | refine EqX_wC ?_ (by decide))
    refine ⟨_, _, _, c2, EqC_of x1 rfl, m2, EqM_of x2 rfl, ⟨IN_fr (AgX x1 rfl) (AgX x2 rfl) hN, IT_fr (AgX x1 rfl) (AgX x2 rfl) hT, IS_up (IS_fr (AgX x1 rfl) (AgX x2 rfl) hS), IW_fr (AgX x1 rfl) (AgX x2 rfl) hW, IC_fr (AgX x1 rfl) (AgX x2 rfl) hK, IO_fr (AgX x1 rfl) (AgX x2 rfl) hO, IX_up (IX_fr (AgX x1 rfl) (AgX x2 rfl) hX), IP_fr (AgX x1 rfl) (AgX x2 rfl) hP, IR_fr (AgX x1 rfl) (AgX x2 rfl) hR, IF_fr (AgX x1 rfl) (AgX x2 rfl) hF, IA_fr (AgX x1 rfl) (AgX x2 rfl) hA, IH_fr (AgX x1 rfl) (AgX x2 rfl) hH, ?_, IG_fr (AgX x1 rfl) (AgX x2 rfl) hG⟩⟩
    unfold IQ
    refine ⟨?_, ?_, ?_, ?_, ?_, ?_, ?_, ?_, ?_, ?_⟩ <;> (try simp (disch := omega) only [g_f, g_e, g_k, g_i, if_true]) <;> first | omega | assumption | (intro q; simp only [qu4, qu6, qu7]) | (intro q; have := qu5 q; split <;> omega) | (intro q; have := qu8 q; split <;> omega) | (intro q t h1 h2; have := qu10 q t h1 h2; split <;> first | exact this | exact g6 t (by omega) h2)
  · refine ⟨-1, Sc, Sm, ?_, EqC_rf, ?_, EqM_rf, CI2_up hC'⟩
    · rw [c2]
      repeat (any_goals split)
      all_goals first | rfl | (exfalso; omega) | (exfalso; exact h ⟨by assumption, by assumption, by assumption, by assumption, by assumption⟩)
    · rw [m2]
      repeat (any_goals split)
      all_goals first | rfl | (exfalso; omega) | (exfalso; exact h ⟨by omega, by assumption, by assumption, by assumption, by assumption⟩)
end
