/-! layer 2: field, kind, thing, set -/
theorem o_field {d : Nat} (hd : 12 ≤ d) (k f lo hi sp : Int) : PI2 d CI2 148 198 vi [vi k, vi f, vi lo, vi hi, vi sp] := by
  intro i Sc Sm hi' hC
  by_cases h : okField k f lo hi sp
  · have c1 := (q_field Sc (show 3 ≤ d by omega) k f lo hi sp).1 h
    have m1 := (q_M_field' Sm (show 2 ≤ d by omega) k f lo hi sp).1 h
    obtain ⟨hN, hT, hS, hW, hK, hO, hX, hP, hR, hF, hA, hH, hQ, hG⟩ := hC
    unfold okField at h
    have x1 : EqX [6, 7, 8] [] Sc (resS c1) := by unfold resS; repeat (first | exact EqX_rf | refine EqX_wA ?_ (by decide) | refine EqX_wC ?_ (by decide))
    have x2 : EqX [86, 87, 88] [] Sm (resS m1) := by unfold resS; repeat (first | exact EqX_rf | refine EqX_wA ?_ (by decide) | refine EqX_wC ?_ (by decide))
    refine ⟨1, _, _, c1, EqC_of x1 rfl, m1, EqM_of x2 rfl, ⟨IN_fr (AgX x1 rfl) (AgX x2 rfl) hN, ?_, IS_up (IS_fr (AgX x1 rfl) (AgX x2 rfl) hS), IW_fr (AgX x1 rfl) (AgX x2 rfl) hW, IC_fr (AgX x1 rfl) (AgX x2 rfl) hK, IO_fr (AgX x1 rfl) (AgX x2 rfl) hO, IX_up (IX_fr (AgX x1 rfl) (AgX x2 rfl) hX), IP_fr (AgX x1 rfl) (AgX x2 rfl) hP, IR_fr (AgX x1 rfl) (AgX x2 rfl) hR, IF_fr (AgX x1 rfl) (AgX x2 rfl) hF, IA_fr (AgX x1 rfl) (AgX x2 rfl) hA, IH_fr (AgX x1 rfl) (AgX x2 rfl) hH, IQ_fr (AgX x1 rfl) (AgX x2 rfl) hQ, IG_fr (AgX x1 rfl) (AgX x2 rfl) hG⟩⟩
    have e : 3 * k + f = k * 3 + f := by omega
    rw [e]
    unfold IT at *
    obtain ⟨t1, t2, t3, t4, t5, t6, t7, t8, t9, t10, t11, t12, t13, t14, t15, t16⟩ := hT
    refine ⟨?_, ?_, ?_, ?_, ?_, ?_, ?_, ?_, ?_, ?_, ?_, ?_, ?_, ?_, ?_, ?_⟩ <;> simp (disch := omega) only [g_f, g_i] <;> first | assumption | (intro q; simp only [t8, t9, t10]) | (intro q; have a1 := t11 q; have a2 := t12 q; split <;> omega)
  · exact ⟨0, Sc, Sm, (q_field Sc (show 3 ≤ d by omega) k f lo hi sp).2 h, EqC_rf, (q_M_field' Sm (show 2 ≤ d by omega) k f lo hi sp).2 h, EqM_rf, CI2_up hC⟩
theorem o_kind {d : Nat} (hd : 12 ≤ d) (k a b : Int) : PI2 d CI2 149 199 vi [vi k, vi a, vi b] := by
  intro i Sc Sm hi' hC
  by_cases h : okKind k a b
  · have c1 := (q_kind Sc (show 3 ≤ d by omega) k a b).1 h
    have m1 := (q_M_kind Sm (show 2 ≤ d by omega) k a b).1 h
    obtain ⟨hN, hT, hS, hW, hK, hO, hX, hP, hR, hF, hA, hH, hQ, hG⟩ := hC
    unfold okKind at h
    have x1 : EqX [4, 5] [] Sc (resS c1) := by unfold resS; repeat (first | exact EqX_rf | refine EqX_wA ?_ (by decide) | refine EqX_wC ?_ (by decide))
    have x2 : EqX [89, 90] [] Sm (resS m1) := by unfold resS; repeat (first | exact EqX_rf | refine EqX_wA ?_ (by decide) | refine EqX_wC ?_ (by decide))
    refine ⟨1, _, _, c1, EqC_of x1 rfl, m1, EqM_of x2 rfl, ⟨IN_fr (AgX x1 rfl) (AgX x2 rfl) hN, ?_, IS_up (IS_fr (AgX x1 rfl) (AgX x2 rfl) hS), IW_fr (AgX x1 rfl) (AgX x2 rfl) hW, IC_fr (AgX x1 rfl) (AgX x2 rfl) hK, IO_fr (AgX x1 rfl) (AgX x2 rfl) hO, IX_up (IX_fr (AgX x1 rfl) (AgX x2 rfl) hX), IP_fr (AgX x1 rfl) (AgX x2 rfl) hP, IR_fr (AgX x1 rfl) (AgX x2 rfl) hR, IF_fr (AgX x1 rfl) (AgX x2 rfl) hF, IA_fr (AgX x1 rfl) (AgX x2 rfl) hA, IH_fr (AgX x1 rfl) (AgX x2 rfl) hH, IQ_fr (AgX x1 rfl) (AgX x2 rfl) hQ, IG_fr (AgX x1 rfl) (AgX x2 rfl) hG⟩⟩
    unfold IT at *
    obtain ⟨t1, t2, t3, t4, t5, t6, t7, t8, t9, t10, t11, t12, t13, t14, t15, t16⟩ := hT
    refine ⟨?_, ?_, ?_, ?_, ?_, ?_, ?_, ?_, ?_, ?_, ?_, ?_, ?_, ?_, ?_, ?_⟩ <;> simp (disch := omega) only [g_f, g_i] <;> first | assumption | (intro q; simp only [t13, t15]) | (intro q; have a1 := t14 q; have a2 := t16 q; split <;> omega)
  · exact ⟨0, Sc, Sm, (q_kind Sc (show 3 ≤ d by omega) k a b).2 h, EqC_rf, (q_M_kind Sm (show 2 ≤ d by omega) k a b).2 h, EqM_rf, CI2_up hC⟩
