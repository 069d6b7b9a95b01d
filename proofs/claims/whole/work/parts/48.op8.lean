/-! layer 2: end, asked, shown, force, thing, set -/
theorem g_J {S : SD} {f j k i : Nat} {v : Int} : gD (wD S f j k v) f i k = if i = j then v else gD S f i k := by
  show (if f = f ∧ i = j ∧ k = k then v else gD S f i k) = _
  by_cases h : i = j
  · rw [if_pos ⟨rfl, h, rfl⟩, if_pos h]
  · rw [if_neg (fun q => h q.2.1), if_neg h]
section
variable {d : Nat}
theorem o_end (hd : 12 ≤ d) (a1 : Int) : PI2 d CI2 161 223 vi [vi a1] := by
  intro i Sc Sm hi' hC
  have hC' := hC
  obtain ⟨hN, hT, hS, hW, hK, hO, hX, hP, hR, hF, hA, hH, hQ, hG⟩ := hC
  have uIP := hP; unfold IP at uIP; obtain ⟨p1, p2, p3, p4, p5⟩ := uIP
  have c2 := (E161 (d := d) (by omega) Sc a1).trans (b161_0 oo (EE false (d - 1)) 999999 Sc a1)
  have m2 := (E223 (d := d) (by omega) Sm a1).trans (b223_0 oo (EE false (d - 1)) 999999 Sm a1)
  rw [E59 (by omega), b59_0] at c2
  rw [p1] at m2
  by_cases g : 0 ≤ a1 ∧ a1 ≤ (gD Sc 29 0 2)
  · rw [if_neg (by omega), if_neg (by omega), b_I] at c2
    rw [if_neg (by omega), if_neg (by omega)] at m2
    have x1 : EqX [] [(29, 2)] Sc (resS c2) := by unfold resS; repeat (first | exact EqX_rf | refine EqX_wA ?_ (by decide) | refine EqX_wC ?_ (by decide))
    have x2 : EqX [] [(85, 31)] Sm (resS m2) := by unfold resS; repeat (first | exact EqX_rf | refine EqX_wA ?_ (by decide) | refine EqX_wC ?_ (by decide))
    refine ⟨_, _, _, c2, EqC_of x1 rfl, m2, EqM_of x2 rfl, ⟨IN_fr (AgX x1 rfl) (AgX x2 rfl) hN, IT_fr (AgX x1 rfl) (AgX x2 rfl) hT, IS_up (IS_fr (AgX x1 rfl) (AgX x2 rfl) hS), IW_fr (AgX x1 rfl) (AgX x2 rfl) hW, IC_fr (AgX x1 rfl) (AgX x2 rfl) hK, IO_fr (AgX x1 rfl) (AgX x2 rfl) hO, IX_up (IX_fr (AgX x1 rfl) (AgX x2 rfl) hX), ?_, IR_fr (AgX x1 rfl) (AgX x2 rfl) hR, IF_fr (AgX x1 rfl) (AgX x2 rfl) hF, IA_fr (AgX x1 rfl) (AgX x2 rfl) hA, IH_fr (AgX x1 rfl) (AgX x2 rfl) hH, IQ_fr (AgX x1 rfl) (AgX x2 rfl) hQ, IG_fr (AgX x1 rfl) (AgX x2 rfl) hG⟩⟩
    unfold IP
    refine ⟨?_, ?_, ?_, ?_, ?_⟩ <;> (try simp (disch := omega) only [g_f, g_e, g_k, g_i, if_true]) <;> first | assumption | omega
  · refine ⟨-1, Sc, Sm, ?_, EqC_rf, ?_, EqM_rf, CI2_up hC'⟩
    · rw [c2]
      by_cases g1 : a1 < 0
      · rw [if_pos g1, b_I]
      · rw [if_neg g1, if_pos (by omega), b_I]
    · rw [m2]
      by_cases g1 : a1 < 0
      · rw [if_pos g1]
      · rw [if_neg g1, if_pos (by omega)]
theorem o_asked (hd : 12 ≤ d) : PI2 d CI2 179 293 vl [] := by
  refine PI2_ro (fun i Sc Sm hi hC => ?_)
  obtain ⟨hN, hT, hS, hW, hK, hO, hX, hP, hR, hF, hA, hH, hQ, hG⟩ := hC
  have uIQ := hQ; unfold IQ at uIQ; obtain ⟨qu1, qu2, qu3, qu4, qu5, qu6, qu7, qu8, qu9, qu10⟩ := uIQ
  refine ⟨(gD Sc 68 0 10), ?_, ?_⟩
  · rw [E179 (by omega), b179_0]
  · rw [E293 (by omega), b293_0, qu9]
theorem o_shown (hd : 12 ≤ d) (a1 a2 : Int) : PI2 d CI2 175 287 vi [vi a1, vi a2] := by
  refine PI2_ro (fun i Sc Sm hi hC => ?_)
  obtain ⟨hN, hT, hS, hW, hK, hO, hX, hP, hR, hF, hA, hH, hQ, hG⟩ := hC
  have uIH := hH; unfold IH at uIH; obtain ⟨sh1, sh2, sh3, sh4, sh5, sh6, sh7, sh8, sh9⟩ := uIH
  have x1 : aw oo ((gD Sm 85 0 96) - 1) = (gD Sc 55 0 10) - 1 := by rw [sh4]; exact aw_id (by omega)
  have x2 : aw oo ((gD Sm 85 0 92) - 1) = (gD Sc 55 0 9) - 1 := by rw [sh1]; exact aw_id (by omega)
  have e2 := q_M_in Sm (show 1 ≤ d - 1 by omega)
  rw [E175 (by omega), b175_0, E14 (by omega), b14_0, E287 (by omega), b287_0, x1, x2]
  by_cases h3 : a2 = 3
  · by_cases h : 0 ≤ a1 ∧ a1 < (gD Sc 55 0 10)
    · obtain ⟨k, rfl⟩ := Int.eq_ofNat_of_zero_le h.1
      have := sh8 k h.2
      refine ⟨(gD Sc 61 0 k), ?_, ?_⟩
      · rw [if_pos h3, if_neg (by omega), if_pos (by omega), if_pos (by omega), bnd (by omega), tn, b_I]
      · rw [if_pos h3, q_M_in1 (by omega) _ _ _ (by omega), b_I, if_neg (by decide), bnd (by omega), tn, this]
    · refine ⟨-1000000, ?_, ?_⟩
      · rw [if_pos h3]
        by_cases h0 : a1 < 0
        · rw [if_pos h0, b_I]
        · rw [if_neg h0, if_neg (by omega), b_I]
      · rw [if_pos h3, q_M_in0 (by omega) _ _ _ (by omega), b_I, if_pos rfl]
  · by_cases h : 0 ≤ a1 ∧ a1 < (gD Sc 55 0 9)
    · obtain ⟨k, rfl⟩ := Int.eq_ofNat_of_zero_le h.1
      obtain ⟨z1, z2, z3, z4, z5, z6⟩ := sh7 k h.2
      have b1 : (0 ≤ (k : Int) ∧ (k : Int) < 12) = True := eq_true (by omega)
      have x3 : aw oo (ab oo 12 (gD Sc 59 0 k) 3) = (gD Sm 157 0 k) := by
        show aw oo (Int.tdiv (gD Sc 59 0 k) 3) = _
        rw [z1, Int.tdiv_eq_ediv_of_nonneg (by omega), aw_id (by omega)]
        omega
      have x4 : aw oo ((gD Sc 59 0 k) - ab oo 12 (gD Sc 59 0 k) 3 * 3) = (gD Sm 158 0 k) := by
        show aw oo ((gD Sc 59 0 k) - Int.tdiv (gD Sc 59 0 k) 3 * 3) = _
        rw [z1, Int.tdiv_eq_ediv_of_nonneg (by omega), aw_id (by omega)]
        omega
      refine ⟨if a2 = 0 then (gD Sm 157 0 k) else if a2 = 1 then (gD Sm 158 0 k) else if a2 = 2 then (gD Sc 60 0 k) else -1000000, ?_, ?_⟩
      · rw [if_neg h3, if_neg (by omega), if_pos (by omega), if_pos (by omega)]
        simp only [b1, if_true, tn, x3, x4, its, b_I]
      · rw [if_neg h3, q_M_in1 (by omega) _ _ _ (by omega), b_I, if_neg (by decide)]
        simp only [b1, if_true, tn, z6, its]
    · refine ⟨-1000000, ?_, ?_⟩
      · rw [if_neg h3]
        by_cases h0 : a1 < 0
        · rw [if_pos h0, b_I]
        · rw [if_neg h0, if_neg (by omega), b_I]
      · rw [if_neg h3, q_M_in0 (by omega) _ _ _ (by omega), b_I, if_pos rfl]
theorem q_ruleAt1 {S : SD} (hd : 1 ≤ d) (r : Nat) (h : (r : Int) < (gD S 41 0 8)) (h2 : r < 20) : EE false d 110 [vr (some (41, 0)), vi (r : Int)] S = some (vr (some (47, r)), S) := by
  rw [E110 hd, b110_0, if_neg (by omega), if_pos h, if_pos (by omega), bnd (by omega), tn]
theorem q_ruleAt0 {S : SD} (hd : 1 ≤ d) (a : Int) (h : a < 0 ∨ (gD S 41 0 8) ≤ a) : EE false d 110 [vr (some (41, 0)), vi a] S = some (vr none, S) := by
  rw [E110 hd, b110_0]
  by_cases h0 : a < 0
  · rw [if_pos h0]
  · rw [if_neg h0, if_neg (by omega)]
theorem q_M_isRule {S : SD} (hd : 1 ≤ d) (a : Int) : EE false d 247 [vr (some (85, 0)), vi a] S = some (vi (if 0 ≤ a ∧ a < (gD S 85 0 32) then 1 else 0), S) := by
  rw [E247 hd, b247_0]
  by_cases h0 : a < 0
  · rw [if_pos h0, if_neg (by omega)]
  · by_cases h1 : a < (gD S 85 0 32)
    · rw [if_neg h0, if_pos h1, if_pos (by omega)]
    · rw [if_neg h0, if_neg h1, if_neg (by omega)]
theorem b_R1 {S : SD} {j : Nat} {kn : SD → Option RR} {kj : Nat → SD → Option RR} : bR (some (vr (some (47, j)), S)) 47 kn kj = kj j S := rfl
theorem b_R0 {S : SD} {kn : SD → Option RR} {kj : Nat → SD → Option RR} : bR (some (vr none, S)) 47 kn kj = kn S := rfl
theorem o_force (hd : 12 ≤ d) (a1 a2 : Int) (hb : a2 = 0 ∨ a2 = 1) : PI2 d CI2 163 248 vi [vi a1, vi a2] := by
  intro i Sc Sm hi' hC
  have hC' := hC
  obtain ⟨hN, hT, hS, hW, hK, hO, hX, hP, hR, hF, hA, hH, hQ, hG⟩ := hC
  have uR := hR; unfold IR at uR
  obtain ⟨r1, r2, r3, r4, _⟩ := uR
  have c2 := (E163 (d := d) (by omega) Sc a1 a2).trans (b163_0 oo (EE false (d - 1)) 999999 Sc a1 a2)
  have m2 := (E248 (d := d) (by omega) Sm a1 a2).trans (b248_0 oo (EE false (d - 1)) 999999 Sm a1 a2)
  rw [q_M_isRule (by omega), b_I, r1] at m2
  by_cases g : 0 ≤ a1 ∧ a1 < (gD Sc 41 0 8)
  · obtain ⟨r, rfl⟩ := Int.eq_ofNat_of_zero_le g.1
    rw [q_ruleAt1 (by omega) r g.2 (by omega), b_R1] at c2
    rw [if_pos g, if_neg (by decide), bnd (by omega), tn] at m2
    have uF := hF; unfold IF at uF
    obtain ⟨f1, f2, f3, f4, f5, f6, f7, f8, f9, f10, f11⟩ := uF r g.2
    rw [f7] at m2
    by_cases q : (gD Sc 47 r 17) = a2
    · rw [if_pos q] at c2 m2
      exact ⟨0, Sc, Sm, c2, EqC_rf, m2, EqM_rf, CI2_up hC'⟩
    · rw [if_neg q, if_pos hb] at c2
      rw [if_neg q, bnd (by omega), if_pos hb, bnd (by omega)] at m2
      have x1 : EqX [] [(47, 17), (47, 18)] Sc (resS c2) := by unfold resS; repeat (first | exact EqX_rf | refine EqX_wA ?_ (by decide) | refine EqX_wC ?_ (by decide))
      have x2 : EqX [117, 118] [] Sm (resS m2) := by unfold resS; repeat (first | exact EqX_rf | refine EqX_wA ?_ (by decide) | refine EqX_wC ?_ (by decide))
      refine ⟨_, _, _, c2, EqC_of x1 rfl, m2, EqM_of x2 rfl, ⟨IN_fr (AgX x1 rfl) (AgX x2 rfl) hN, IT_fr (AgX x1 rfl) (AgX x2 rfl) hT, IS_up (IS_fr (AgX x1 rfl) (AgX x2 rfl) hS), IW_fr (AgX x1 rfl) (AgX x2 rfl) hW, IC_fr (AgX x1 rfl) (AgX x2 rfl) hK, IO_fr (AgX x1 rfl) (AgX x2 rfl) hO, IX_up (IX_fr (AgX x1 rfl) (AgX x2 rfl) hX), IP_fr (AgX x1 rfl) (AgX x2 rfl) hP, IR_fr (AgX x1 rfl) (AgX x2 rfl) hR, ?_, IA_fr (AgX x1 rfl) (AgX x2 rfl) hA, IH_fr (AgX x1 rfl) (AgX x2 rfl) hH, IQ_fr (AgX x1 rfl) (AgX x2 rfl) hQ, IG_fr (AgX x1 rfl) (AgX x2 rfl) hG⟩⟩
      unfold IF
      simp (disch := omega) only [g_f, g_k, g_i, g_J]
      intro k hk
      obtain ⟨f1, f2, f3, f4, f5, f6, f7, f8, f9, f10, f11⟩ := uF k hk
      by_cases e : k = r
      · simp only [e, if_true]
        subst e
        exact ⟨f1, f2, f3, f4, f5, f6, trivial, trivial, hb, Or.inl trivial, fun _ => trivial⟩
      · simp only [e, if_false]
        exact ⟨f1, f2, f3, f4, f5, f6, f7, f8, f9, f10, f11⟩
  · rw [q_ruleAt0 (by omega) a1 (by omega), b_R0] at c2
    rw [if_neg g, if_pos rfl] at m2
    exact ⟨0, Sc, Sm, c2, EqC_rf, m2, EqM_rf, CI2_up hC'⟩
theorem o_set (hd : 12 ≤ d) (a1 a2 : Int) : PI2 d CI2 154 204 vi [vi a1, vi a2] := by
  intro i Sc Sm hi' hC
  have hC' := hC
  obtain ⟨hN, hT, hS, hW, hK, hO, hX, hP, hR, hF, hA, hH, hQ, hG⟩ := hC
  have uIN := hN; unfold IN at uIN; obtain ⟨n1, n2, n3⟩ := uIN
  have uIT := hT; unfold IT at uIT; obtain ⟨t1, t2, t3, t4, t5, t6, t7, t8, t9, t10, t11, t12, t13, t14, t15, t16⟩ := uIT
  have uIS := hS; unfold IS at uIS; obtain ⟨s1, s2, s3, s4, s5, s6⟩ := uIS
  have m2 := (E204 (d := d) (by omega) Sm a1 a2).trans (b204_0 oo (EE false (d - 1)) 999999 Sm a1 a2)
  have e2 := q_M_in Sm (show 1 ≤ d - 1 by omega)
  have e4 := q_M_isThing Sm (show 1 ≤ d - 1 by omega)
  simp only [e2, e4, b_I, i01, ite_not, t1, n1, s1] at m2
  by_cases h : okSet (gD Sc 3 0 10) (gD Sc 2 0 9) a1 a2
  · have c1 := (q_set Sc (show 3 ≤ d by omega) a1 a2 (by omega)).1 h
    unfold okSet at h
    obtain ⟨N, hN'⟩ : ∃ N : Nat, (gD Sc 3 0 9) = (N : Int) := Int.eq_ofNat_of_zero_le s2
    have b1 : (0 ≤ (N : Int) ∧ (N : Int) < 600) = True := eq_true (by omega)
    rw [hN'] at c1 m2
    have s1' : (gD Sm 85 0 27) = (N : Int) := s1.trans hN'
    rw [if_pos (by omega), if_pos (by omega), if_neg (by omega)] at m2
    simp (disch := decide) only [b1, if_true, tn, g_f, g_e, s1', aw_id (show -2147483648 ≤ (N : Int) + 1 ∧ (N : Int) + 1 < 2147483648 by omega)] at m2
    have x1 : EqX [11, 12] [(3, 9)] Sc (resS c1) := by unfold resS; repeat (first | exact EqX_rf | refine EqX_wA ?_ (by decide) | refine EqX_wC ?_ (by decide))
    have x2 : EqX [110, 111] [(85, 27)] Sm (resS m2) := by unfold resS; repeat (first | exact EqX_rf | refine EqX_wA ?_ (by decide) | refine EqX_wC ?_ (by decide))
    refine ⟨_, _, _, c1, EqC_of x1 rfl, m2, EqM_of x2 rfl, ⟨IN_fr (AgX x1 rfl) (AgX x2 rfl) hN, IT_fr (AgX x1 rfl) (AgX x2 rfl) hT, ?_, IW_fr (AgX x1 rfl) (AgX x2 rfl) hW, IC_fr (AgX x1 rfl) (AgX x2 rfl) hK, IO_fr (AgX x1 rfl) (AgX x2 rfl) hO, IX_up (IX_fr (AgX x1 rfl) (AgX x2 rfl) hX), IP_fr (AgX x1 rfl) (AgX x2 rfl) hP, IR_fr (AgX x1 rfl) (AgX x2 rfl) hR, IF_fr (AgX x1 rfl) (AgX x2 rfl) hF, IA_fr (AgX x1 rfl) (AgX x2 rfl) hA, IH_fr (AgX x1 rfl) (AgX x2 rfl) hH, IQ_fr (AgX x1 rfl) (AgX x2 rfl) hQ, IG_fr (AgX x1 rfl) (AgX x2 rfl) hG⟩⟩
    unfold IS
    simp only [tn]
    refine ⟨?_, ?_, ?_, ?_, ?_, ?_⟩ <;> (try simp (disch := omega) only [g_f, g_e, g_k, g_i, if_true]) <;> first | omega | assumption | (intro q; simp only [s4, s5]) | (intro q; have := s6 q; split <;> omega)
  · refine ⟨0, Sc, Sm, (q_set Sc (show 3 ≤ d by omega) a1 a2 (by omega)).2 h, EqC_rf, ?_, EqM_rf, CI2_up hC'⟩
    unfold okSet at h
    rw [m2]
    repeat (any_goals split)
    all_goals first | rfl | (exfalso; omega)
theorem o_thing (hd : 12 ≤ d) (a1 a2 : Int) : PI2 d CI2 150 200 vi [vi a1, vi a2] := by
  intro i Sc Sm hi' hC
  have hC' := hC
  obtain ⟨hN, hT, hS, hW, hK, hO, hX, hP, hR, hF, hA, hH, hQ, hG⟩ := hC
  have uIT := hT; unfold IT at uIT; obtain ⟨t1, t2, t3, t4, t5, t6, t7, t8, t9, t10, t11, t12, t13, t14, t15, t16⟩ := uIT
  by_cases h : okAdd (gD Sc 3 0 10) a1 a2
  · have c1 := (q_thing Sc (show 3 ≤ d by omega) a1 a2 ⟨t2, t3⟩).1 h
    have m1 := (q_M_thing Sm (show 2 ≤ d by omega) a1 a2 (by omega)).1 (by rw [t1]; exact h)
    obtain ⟨N, hN'⟩ : ∃ N : Nat, (gD Sc 3 0 10) = (N : Int) := Int.eq_ofNat_of_zero_le t2
    unfold okAdd at h
    rw [t1] at m1
    rw [hN', tn] at c1 m1
    rw [hN'] at h
    have x1 : EqX [9, 10] [(3, 10)] Sc (resS c1) := by unfold resS; repeat (first | exact EqX_rf | refine EqX_wA ?_ (by decide) | refine EqX_wC ?_ (by decide))
    have x2 : EqX [91, 92, 95, 96] [(85, 6)] Sm (resS m1) := by unfold resS; repeat (first | exact EqX_rf | refine EqX_wA ?_ (by decide) | refine EqX_wC ?_ (by decide))
    refine ⟨_, _, _, c1, EqC_of x1 rfl, m1, EqM_of x2 rfl, ⟨IN_fr (AgX x1 rfl) (AgX x2 rfl) hN, ?_, IS_up (IS_fr (AgX x1 rfl) (AgX x2 rfl) hS), ?_, IC_fr (AgX x1 rfl) (AgX x2 rfl) hK, IO_fr (AgX x1 rfl) (AgX x2 rfl) hO, IX_up (IX_fr (AgX x1 rfl) (AgX x2 rfl) hX), IP_fr (AgX x1 rfl) (AgX x2 rfl) hP, ?_, IF_fr (AgX x1 rfl) (AgX x2 rfl) hF, IA_fr (AgX x1 rfl) (AgX x2 rfl) hA, IH_fr (AgX x1 rfl) (AgX x2 rfl) hH, ?_, ?_⟩⟩
    · unfold IT
      refine ⟨?_, ?_, ?_, ?_, ?_, ?_, ?_, ?_, ?_, ?_, ?_, ?_, ?_, ?_, ?_, ?_⟩ <;> (try simp (disch := omega) only [g_f, g_e, g_k, g_i, if_true]) <;> first | omega | assumption | (intro q; simp only [t4, t6]) | (intro q; have := t5 q; split <;> omega) | (intro q; have := t7 q; split <;> omega)
    · have uIW := hW; unfold IW at uIW; obtain ⟨w1, w2, w3, w4, w5, w6, w7, w8, w9, w10, w11, w12, w13, w14, w15, w16, w17, w18, w19, w20, w21, w22, w23, w24⟩ := uIW
      unfold IW
      simp (disch := omega) only [g_f, g_k, g_e]
      exact ⟨w1, w2, w3, w4, w5, w6, w7, w8, w9, w10, w11, w12, w13, w14, fun k hk => by have := w15 k hk; omega, w16, w17, w18, w19, w20, w21, w22, w23, w24⟩
    · unfold IR RR1 RR2 RR3 at hR ⊢
      simp (disch := omega) only [g_f, g_k, g_e]
      obtain ⟨r1, r2, r3, r4, r5⟩ := hR
      refine ⟨r1, r2, r3, r4, fun r hr => ?_⟩
      obtain ⟨⟨q1, q2, q3, q4, q5, q6⟩, q7, q8, q9, q10, q11, q12, q13, q14, q15, q16⟩ := r5 r hr
      refine ⟨⟨q1, q2, q3, q4, q5, fun k hk => ?_⟩, q7, q8, q9, q10, q11, q12, q13, by omega, q15, q16⟩
      obtain ⟨v1, v2, v3, v4, v5, v6, v7⟩ := q6 k hk
      exact ⟨v1, v2, v3, v4, v5, by omega, v7⟩
    · have uIQ := hQ; unfold IQ at uIQ; obtain ⟨qu1, qu2, qu3, qu4, qu5, qu6, qu7, qu8, qu9, qu10⟩ := uIQ
      unfold IQ
      simp (disch := omega) only [g_f, g_k, g_e]
      exact ⟨qu1, qu2, qu3, qu4, qu5, qu6, qu7, qu8, qu9, fun k t h1 h2 => qu10 k t (by omega) h2⟩
    · have uIG := hG; unfold IG at uIG; obtain ⟨pg1, pg2, pg3, pg4, pg5, pg6, pg7, pg8, pg9, pg10, pg11, pg12⟩ := uIG
      unfold IG
      simp (disch := omega) only [g_f, g_i, g_e]
      refine ⟨fun t ht => ?_, fun t ht ht2 => pg2 t (by omega) ht2, pg3, pg4, pg5, pg6, pg7, pg8, pg9, pg10, pg11, pg12⟩
      by_cases e : t = N
      · have := pg2 t (by omega) (by omega)
        rw [if_pos e, if_pos e]
        exact ⟨this.1.symm, this.2.symm⟩
      · rw [if_neg e, if_neg e]
        exact pg1 t (by omega)
  · refine ⟨-1, Sc, Sm, (q_thing Sc (show 3 ≤ d by omega) a1 a2 ⟨t2, t3⟩).2 h, EqC_rf, (q_M_thing Sm (show 2 ≤ d by omega) a1 a2 (by omega)).2 (by rw [t1]; exact h), EqM_rf, CI2_up hC'⟩
end
