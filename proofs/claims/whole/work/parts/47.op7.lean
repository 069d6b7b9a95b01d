/-! layer 2: programs by rings (1) -/
section
variable {d : Nat}
theorem q_isRing1 {S : SD} (hd : 2 ≤ d) (a : Int) (h : 0 ≤ a ∧ a ≤ 7) : EE false d 23 [vi a] S = some (vi 1, S) := by
  rw [E23 (by omega), b23_0, q_in1 (by omega) _ _ _ h, b_I, if_pos (Or.inr rfl)]
theorem q_isRing0 {S : SD} (hd : 2 ≤ d) (a : Int) (h : a < 0 ∨ 7 < a) : EE false d 23 [vi a] S = some (vi 0, S) := by
  rw [E23 (by omega), b23_0, q_in0 (by omega) _ _ _ h, b_I, if_pos (Or.inl rfl)]
theorem q_M_isRing1 {S : SD} (hd : 1 ≤ d) (a : Int) (h : 0 ≤ a ∧ a ≤ 7) : EE false d 294 [vi a] S = some (vi 1, S) := by
  rw [E294 (by omega), b294_0, if_neg (by omega), if_pos (by omega)]
theorem q_M_isRing0 {S : SD} (hd : 1 ≤ d) (a : Int) (h : a < 0 ∨ 7 < a) : EE false d 294 [vi a] S = some (vi 0, S) := by
  rw [E294 (by omega), b294_0]
  repeat (any_goals split)
  all_goals first | rfl | (exfalso; omega)
theorem o_join (hd : 12 ≤ d) (a1 a2 : Int) : PI2 d CI2 180 295 vi [vi a1, vi a2] := by
  intro i Sc Sm hi' hC
  have hC' := hC
  obtain ⟨hN, hT, hS, hW, hK, hO, hX, hP, hR, hF, hA, hH, hQ, hG⟩ := hC
  have uIT := hT; unfold IT at uIT; obtain ⟨t1, t2, t3, t4, t5, t6, t7, t8, t9, t10, t11, t12, t13, t14, t15, t16⟩ := uIT
  have c2 := (E180 (d := d) (by omega) Sc a1 a2).trans (b180_0 oo (EE false (d - 1)) 999999 Sc a1 a2)
  have m2 := (E295 (d := d) (by omega) Sm a1 a2).trans (b295_0 oo (EE false (d - 1)) 999999 Sm a1 a2)
  by_cases h : (0 ≤ a1 ∧ a1 < (gD Sc 3 0 10)) ∧ 0 ≤ a2 ∧ a2 ≤ 7
  · obtain ⟨g1, g2⟩ := h
    obtain ⟨t, rfl⟩ := Int.eq_ofNat_of_zero_le g1.1
    obtain ⟨r, rfl⟩ := Int.eq_ofNat_of_zero_le g2.1
    have uIG := hG; unfold IG at uIG; obtain ⟨pg1, pg2, pg3, pg4, pg5, pg6, pg7, pg8, pg9, pg10, pg11, pg12⟩ := uIG
    have z1 := pg1 t g1.2
    have z3 := pg3 t (by omega)
    have z7 := pg7 r
    have b1 : (0 ≤ (t : Int) ∧ (t : Int) < 40) = True := eq_true (by omega)
    have b2 : (0 ≤ (r : Int) ∧ (r : Int) < 8) = True := eq_true (by omega)
    rw [q_thas1 (by omega) t g1.2, b_I, if_neg (by decide), E25 (by omega), b25_0, q_isRing1 (by omega) _ g2, b_I, if_neg (by decide), q_in1 (by omega) _ _ _ (by omega), b_I, if_neg (by decide)] at c2
    rw [q_M_isThing1 (by omega) _ (by omega), b_I, if_neg (by decide), q_M_isRing1 (by omega) _ g2, b_I, if_neg (by decide)] at m2
    simp only [b1, b2, tn, if_true] at c2 m2
    rw [z1.1, pg6] at m2
    by_cases q : (gD Sc 76 0 t) = -1 ∧ (gD Sc 80 0 r) = 0
    · rw [if_pos q.1, if_pos q.2, b_I, if_neg (by decide)] at c2
      rw [if_pos (by omega), if_neg (by omega)] at m2
      have x1 : EqX [76] [] Sc (resS c2) := by unfold resS; repeat (first | exact EqX_rf | refine EqX_wA ?_ (by decide) | refine EqX_wC ?_ (by decide))
      have x2 : EqX [95] [] Sm (resS m2) := by unfold resS; repeat (first | exact EqX_rf | refine EqX_wA ?_ (by decide) | refine EqX_wC ?_ (by decide))
      refine ⟨_, _, _, c2, EqC_of x1 rfl, m2, EqM_of x2 rfl, ⟨IN_fr (AgX x1 rfl) (AgX x2 rfl) hN, IT_fr (AgX x1 rfl) (AgX x2 rfl) hT, IS_up (IS_fr (AgX x1 rfl) (AgX x2 rfl) hS), IW_fr (AgX x1 rfl) (AgX x2 rfl) hW, IC_fr (AgX x1 rfl) (AgX x2 rfl) hK, IO_fr (AgX x1 rfl) (AgX x2 rfl) hO, IX_up (IX_fr (AgX x1 rfl) (AgX x2 rfl) hX), IP_fr (AgX x1 rfl) (AgX x2 rfl) hP, IR_fr (AgX x1 rfl) (AgX x2 rfl) hR, IF_fr (AgX x1 rfl) (AgX x2 rfl) hF, IA_fr (AgX x1 rfl) (AgX x2 rfl) hA, IH_fr (AgX x1 rfl) (AgX x2 rfl) hH, IQ_fr (AgX x1 rfl) (AgX x2 rfl) hQ, ?_⟩⟩
      unfold IG
      refine ⟨?_, ?_, ?_, ?_, ?_, ?_, ?_, ?_, ?_, ?_, ?_, ?_⟩ <;> (try simp (disch := omega) only [g_f, g_e, g_k, g_i, if_true]) <;> first | assumption | (intro q hq; have := pg1 q hq; exact ⟨by rw [this.1], this.2⟩) | (intro q hq hq2; have := pg2 q hq hq2; rw [if_neg (by omega)]; exact this) | (intro q hq; have := pg3 q hq; split <;> omega)
    · refine ⟨0, Sc, Sm, ?_, EqC_rf, ?_, EqM_rf, CI2_up hC'⟩
      · rw [c2]
        by_cases q1 : (gD Sc 76 0 t) = -1
        · rw [if_pos q1, if_neg (fun q2 => q ⟨q1, q2⟩), b_I, if_pos rfl]
        · rw [if_neg q1, b_I, if_pos rfl]
      · rw [m2]
        repeat (any_goals split)
        all_goals first | rfl | (exfalso; omega)
  · refine ⟨0, Sc, Sm, ?_, EqC_rf, ?_, EqM_rf, CI2_up hC'⟩
    · rw [c2]
      by_cases g1 : 0 ≤ a1 ∧ a1 < (gD Sc 3 0 10)
      · obtain ⟨t, rfl⟩ := Int.eq_ofNat_of_zero_le g1.1
        rw [q_thas1 (by omega) t g1.2, b_I, if_neg (by decide), E25 (by omega), b25_0, q_isRing0 (by omega) _ (by omega), b_I, if_pos rfl, b_I, if_pos rfl]
      · rw [q_thas0 (by omega) _ (by omega), b_I, if_pos rfl]
    · rw [m2]
      by_cases g1 : 0 ≤ a1 ∧ a1 < (gD Sc 3 0 10)
      · rw [q_M_isThing1 (by omega) _ (by omega), b_I, if_neg (by decide), q_M_isRing0 (by omega) _ (by omega), b_I, if_pos rfl]
      · rw [q_M_isThing0 (by omega) _ (by omega), b_I, if_pos rfl]
theorem o_odds (hd : 12 ≤ d) (a1 a2 a3 : Int) : PI2 d CI2 181 296 vi [vi a1, vi a2, vi a3] := by
  intro i Sc Sm hi' hC
  have hC' := hC
  obtain ⟨hN, hT, hS, hW, hK, hO, hX, hP, hR, hF, hA, hH, hQ, hG⟩ := hC
  have c2 := (E181 (d := d) (by omega) Sc a1 a2 a3).trans (b181_0 oo (EE false (d - 1)) 999999 Sc a1 a2 a3)
  have m2 := (E296 (d := d) (by omega) Sm a1 a2 a3).trans (b296_0 oo (EE false (d - 1)) 999999 Sm a1 a2 a3)
  rw [E26 (by omega), b26_0] at c2
  by_cases g1 : 0 ≤ a1 ∧ a1 ≤ 7
  · rw [q_isRing1 (by omega) _ g1, b_I, if_neg (by decide)] at c2
    rw [q_M_isRing1 (by omega) _ g1, b_I, if_neg (by decide)] at m2
    by_cases g3 : 1 ≤ a3 ∧ a3 ≤ 1000
    · rw [q_in1 (by omega) _ _ _ g3, b_I, if_neg (by decide)] at c2
      rw [q_M_in1 (by omega) _ _ _ g3, b_I, if_neg (by decide)] at m2
      by_cases g2 : 0 ≤ a2 ∧ a2 ≤ a3
      · rw [q_in1 (by omega) _ _ _ g2, b_I, if_neg (by decide)] at c2
        rw [q_M_in1 (by omega) _ _ _ g2, b_I, if_neg (by decide)] at m2
        have b2 : (0 ≤ a1 ∧ a1 < 8) = True := eq_true (by omega)
        simp only [b2, if_true, b_I, or_true] at c2 m2
        have x1 : EqX [82, 83] [] Sc (resS c2) := by unfold resS; repeat (first | exact EqX_rf | refine EqX_wA ?_ (by decide) | refine EqX_wC ?_ (by decide))
        have x2 : EqX [169, 170] [] Sm (resS m2) := by unfold resS; repeat (first | exact EqX_rf | refine EqX_wA ?_ (by decide) | refine EqX_wC ?_ (by decide))
        refine ⟨_, _, _, c2, EqC_of x1 rfl, m2, EqM_of x2 rfl, ⟨IN_fr (AgX x1 rfl) (AgX x2 rfl) hN, IT_fr (AgX x1 rfl) (AgX x2 rfl) hT, IS_up (IS_fr (AgX x1 rfl) (AgX x2 rfl) hS), IW_fr (AgX x1 rfl) (AgX x2 rfl) hW, IC_fr (AgX x1 rfl) (AgX x2 rfl) hK, IO_fr (AgX x1 rfl) (AgX x2 rfl) hO, IX_up (IX_fr (AgX x1 rfl) (AgX x2 rfl) hX), IP_fr (AgX x1 rfl) (AgX x2 rfl) hP, IR_fr (AgX x1 rfl) (AgX x2 rfl) hR, IF_fr (AgX x1 rfl) (AgX x2 rfl) hF, IA_fr (AgX x1 rfl) (AgX x2 rfl) hA, IH_fr (AgX x1 rfl) (AgX x2 rfl) hH, IQ_fr (AgX x1 rfl) (AgX x2 rfl) hQ, ?_⟩⟩
        have uIG := hG; unfold IG at uIG; obtain ⟨pg1, pg2, pg3, pg4, pg5, pg6, pg7, pg8, pg9, pg10, pg11, pg12⟩ := uIG
        unfold IG
        refine ⟨?_, ?_, ?_, ?_, ?_, ?_, ?_, ?_, ?_, ?_, ?_, ?_⟩ <;> (try simp (disch := omega) only [g_f, g_e, g_k, g_i, if_true]) <;> first | assumption | (intro q; simp only [pg10, pg11])
      · refine ⟨0, Sc, Sm, ?_, EqC_rf, ?_, EqM_rf, CI2_up hC'⟩
        · rw [c2, q_in0 (by omega) _ _ _ (by omega), b_I, if_pos rfl, b_I, if_pos (Or.inl rfl)]
        · rw [m2, q_M_in0 (by omega) _ _ _ (by omega), b_I, if_pos rfl]
    · refine ⟨0, Sc, Sm, ?_, EqC_rf, ?_, EqM_rf, CI2_up hC'⟩
      · rw [c2, q_in0 (by omega) _ _ _ (by omega), b_I, if_pos rfl, b_I, if_pos (Or.inl rfl)]
      · rw [m2, q_M_in0 (by omega) _ _ _ (by omega), b_I, if_pos rfl]
  · refine ⟨0, Sc, Sm, ?_, EqC_rf, ?_, EqM_rf, CI2_up hC'⟩
    · rw [c2, q_isRing0 (by omega) _ (by omega), b_I, if_pos rfl, b_I, if_pos (Or.inl rfl)]
    · rw [m2, q_M_isRing0 (by omega) _ (by omega), b_I, if_pos rfl]
theorem w_stop : ∀ (n j : Nat) (m : Int) (Tc Tm : SD) {K K' : KT}, IG Tc Tm → j ≤ 8 → 8 - j < n → ∃ r Tc' Tm', run oo K false mi_32 n 13 [(0, vr (some (75, 0))), (2, vi m), (3, vi (j : Int))] [] Tc = some (vi r, Tc') ∧ run oo K' false mi_303 n 13 [(0, vr (some (85, 0))), (2, vi m), (3, vi (j : Int))] [] Tm = some (vi r, Tm') ∧ EqX [81] [] Tc Tc' ∧ EqX [168] [] Tm Tm' ∧ IG Tc' Tm' := by
  intro n
  induction n with
  | zero => intro j m Tc Tm K K' h0 h1 h2; omega
  | succ n ih =>
    intro j m Tc Tm K K' h0 h1 h2
    have uIG := h0; unfold IG at uIG; obtain ⟨pg1, pg2, pg3, pg4, pg5, pg6, pg7, pg8, pg9, pg10, pg11, pg12⟩ := uIG
    rw [b32_13, b303_13]
    by_cases hj : j < 8
    · have e1 : vi (aw oo ((j : Int) + 1)) = vi ((j + 1 : Nat) : Int) := congrArg vi (awn (by omega))
      have b1 : (0 ≤ (j : Int) ∧ (j : Int) < 8) = True := eq_true (by omega)
      have hj1 : ((j : Int) < 8) = True := eq_true (by omega)
      have hg : IG (wD Tc 81 0 j 1) (wD Tm 168 0 j 1) := by
        unfold IG
        refine ⟨?_, ?_, ?_, ?_, ?_, ?_, ?_, ?_, ?_, ?_, ?_, ?_⟩ <;> (try simp (disch := omega) only [g_f, g_e, g_k, g_i, if_true]) <;> first | assumption | (intro q; simp only [pg8]) | (intro q; have := pg9 q; split <;> omega)
      by_cases q : (gD Tc 81 0 j) = 0
      · obtain ⟨r, Tc', Tm', i1, i2, i3, i4, i5⟩ := ih (j + 1) (aw oo (m + 1)) _ _ (K := K) (K' := K') hg (by omega) (by omega)
        refine ⟨r, Tc', Tm', ?_, ?_, EqX_tr (EqX_wA EqX_rf (by decide)) i3, EqX_tr (EqX_wA EqX_rf (by decide)) i4, i5⟩
        · simp only [b_I, b_L, b_V, tn, e10, eq_self, if_true, if_false, ite_not, i01, and_self, e1, b1]
          (repeat (any_goals split)) <;> first | exact i1 | (exfalso; omega)
        · simp only [b_I, b_L, b_V, tn, e10, eq_self, if_true, if_false, ite_not, i01, and_self, e1, b1, pg8]
          (repeat (any_goals split)) <;> first | exact i2 | (exfalso; omega)
      · obtain ⟨r, Tc', Tm', i1, i2, i3, i4, i5⟩ := ih (j + 1) (aw oo (m + 0)) _ _ (K := K) (K' := K') hg (by omega) (by omega)
        refine ⟨r, Tc', Tm', ?_, ?_, EqX_tr (EqX_wA EqX_rf (by decide)) i3, EqX_tr (EqX_wA EqX_rf (by decide)) i4, i5⟩
        · simp only [b_I, b_L, b_V, tn, e10, eq_self, if_true, if_false, ite_not, i01, and_self, e1, b1]
          (repeat (any_goals split)) <;> first | exact i1 | (exfalso; omega)
        · simp only [b_I, b_L, b_V, tn, e10, eq_self, if_true, if_false, ite_not, i01, and_self, e1, b1, pg8]
          (repeat (any_goals split)) <;> first | exact i2 | (exfalso; omega)
    · rw [if_neg (by omega), if_neg (by omega)]
      exact ⟨m, Tc, Tm, rfl, rfl, EqX_rf, EqX_rf, h0⟩
theorem o_stop (hd : 12 ≤ d) (a1 : Int) : PI2 d CI2 185 303 vi [vi a1] := by
  intro i Sc Sm hi' hC
  have hC' := hC
  obtain ⟨hN, hT, hS, hW, hK, hO, hX, hP, hR, hF, hA, hH, hQ, hG⟩ := hC
  have c2 := (E185 (d := d) (by omega) Sc a1).trans (b185_0 oo (EE false (d - 1)) 999999 Sc a1)
  have m2 := (E303 (d := d) (by omega) Sm a1).trans (b303_0 oo (EE false (d - 1)) 999999 Sm a1)
  rw [E32 (by omega), b32_0] at c2
  by_cases g1 : 0 ≤ a1 ∧ a1 ≤ 7
  · obtain ⟨k, rfl⟩ := Int.eq_ofNat_of_zero_le g1.1
    obtain ⟨r, Tc, Tm, w1, w2, x1, x2, h2⟩ := w_stop 999999 k 0 Sc Sm (K := EE false (d - 1 - 1)) (K' := EE false (d - 1)) hG (by omega) (by omega)
    rw [q_isRing1 (by omega) _ g1, b_I, if_neg (by decide), w1, b_I] at c2
    rw [q_M_isRing1 (by omega) _ g1, b_I, if_neg (by decide), w2] at m2
    exact ⟨_, _, _, c2, EqC_of x1 rfl, m2, EqM_of x2 rfl, ⟨IN_fr (AgX x1 rfl) (AgX x2 rfl) hN, IT_fr (AgX x1 rfl) (AgX x2 rfl) hT, IS_up (IS_fr (AgX x1 rfl) (AgX x2 rfl) hS), IW_fr (AgX x1 rfl) (AgX x2 rfl) hW, IC_fr (AgX x1 rfl) (AgX x2 rfl) hK, IO_fr (AgX x1 rfl) (AgX x2 rfl) hO, IX_up (IX_fr (AgX x1 rfl) (AgX x2 rfl) hX), IP_fr (AgX x1 rfl) (AgX x2 rfl) hP, IR_fr (AgX x1 rfl) (AgX x2 rfl) hR, IF_fr (AgX x1 rfl) (AgX x2 rfl) hF, IA_fr (AgX x1 rfl) (AgX x2 rfl) hA, IH_fr (AgX x1 rfl) (AgX x2 rfl) hH, IQ_fr (AgX x1 rfl) (AgX x2 rfl) hQ, h2⟩⟩
  · refine ⟨-1, Sc, Sm, ?_, EqC_rf, ?_, EqM_rf, CI2_up hC'⟩
    · rw [c2, q_isRing0 (by omega) _ (by omega), b_I, if_pos rfl, b_I]
    · rw [m2, q_M_isRing0 (by omega) _ (by omega), b_I, if_pos rfl]
/-- the class looks at all 40, the reference at those that are there -/
theorem w_back_t {N : Nat} (r : Nat) (hr : r < 8) {K : KT} : ∀ (n j : Nat) (m : Int) (Tc : SD), (∀ t : Nat, N ≤ t → t < 40 → (gD Tc 76 0 t) = -1) → N ≤ j → j ≤ 40 → 41 - j < n → run oo K false mi_33 n 22 [(0, vr (some (75, 0))), (1, vi (r : Int)), (2, vi m), (3, vi (j : Int))] [] Tc = some (vi m, wD Tc 80 0 r 0) := by
  intro n
  induction n with
  | zero => intro j m Tc h0 h1 h2 h3; omega
  | succ n ih =>
    intro j m Tc h0 h1 h2 h3
    rw [b33_22]
    by_cases hj : j < 40
    · have e1 : vi (aw oo ((j : Int) + 1)) = vi ((j + 1 : Nat) : Int) := congrArg vi (awn (by omega))
      have b1 : (0 ≤ (j : Int) ∧ (j : Int) < 40) = True := eq_true (by omega)
      have hj1 : ((j : Int) < 40) = True := eq_true (by omega)
      have := h0 j h1 hj
      rw [if_pos (show (j : Int) < 40 by omega)]
      simp only [b_I, b_L, b_V, tn, e10, eq_self, if_true, if_false, ite_not, i01, and_self, e1, b1]
      rw [if_neg (by omega)]
      exact ih (j + 1) m Tc h0 (by omega) (by omega) (by omega)
    · rw [if_neg (by omega), bnd (by omega), tn]
theorem w_back {N : Nat} (hN : N ≤ 40) (r : Nat) (hr : r < 8) {K K' : KT} : ∀ (n j : Nat) (m : Int) (Tc Tm : SD), IG Tc Tm → (gD Tc 3 0 10) = (N : Int) → (gD Tm 85 0 6) = (N : Int) → j ≤ N → 41 - j < n → ∃ x Tc' Tm', run oo K false mi_33 n 22 [(0, vr (some (75, 0))), (1, vi (r : Int)), (2, vi m), (3, vi (j : Int))] [] Tc = some (vi x, Tc') ∧ run oo K' false mi_304 n 22 [(0, vr (some (85, 0))), (1, vi (r : Int)), (2, vi m), (3, vi (j : Int))] [] Tm = some (vi x, Tm') ∧ EqX [77, 79, 80] [] Tc Tc' ∧ EqX [93, 96, 167] [] Tm Tm' ∧ IG Tc' Tm' := by
  intro n
  induction n with
  | zero => intro j m Tc Tm h0 h1 h2 h3 h4; omega
  | succ n ih =>
    intro j m Tc Tm h0 h1 h2 h3 h4
    have uIG := h0; unfold IG at uIG; obtain ⟨pg1, pg2, pg3, pg4, pg5, pg6, pg7, pg8, pg9, pg10, pg11, pg12⟩ := uIG
    by_cases hj : j < N
    · rw [b33_22, b304_22, h2]
      have e1 : vi (aw oo ((j : Int) + 1)) = vi ((j + 1 : Nat) : Int) := congrArg vi (awn (by omega))
      have b1 : (0 ≤ (j : Int) ∧ (j : Int) < 40) = True := eq_true (by omega)
      have hj1 : ((j : Int) < 40) = True := eq_true (by omega)
      have hj2 : ((j : Int) < (N : Int)) = True := eq_true (by omega)
      have z1 := pg1 j (by omega)
      by_cases q : (gD Tc 76 0 j) = (r : Int)
      · by_cases q2 : (gD Tc 79 0 j) = 1
        · have hg : IG (wD (wD Tc 77 0 j (gD Tc 78 0 j)) 79 0 j (-1)) (wD (wD Tm 93 0 j (gD Tm 94 0 j)) 96 0 j (-1)) := by
            unfold IG
            refine ⟨?_, ?_, ?_, ?_, ?_, ?_, ?_, ?_, ?_, ?_, ?_, ?_⟩ <;> (try simp (disch := omega) only [g_f, g_e, g_k, g_i, if_true]) <;> first | assumption | (intro q hq; have := pg1 q hq; exact ⟨this.1, by rw [this.2]⟩) | (intro q hq hq2; have := pg2 q hq hq2; exact ⟨this.1, by rw [this.2]; split <;> rfl⟩) | (intro q hq; have := pg3 q hq; split <;> omega) | (intro q; simp only [pg4, pg5])
          obtain ⟨x, Tc', Tm', i1, i2, i3, i4, i5⟩ := ih (j + 1) (aw oo (m + 1)) _ _ hg (by rw [g_f (by decide), g_f (by decide)]; exact h1) (by rw [g_f (by decide), g_f (by decide)]; exact h2) (by omega) (by omega)
          refine ⟨x, Tc', Tm', ?_, ?_, EqX_tr (EqX_wA (EqX_wA EqX_rf (by decide)) (by decide)) i3, EqX_tr (EqX_wA (EqX_wA EqX_rf (by decide)) (by decide)) i4, i5⟩
          · simp only [b_I, b_L, b_V, tn, e10, eq_self, if_true, if_false, ite_not, i01, and_self, e1, b1]
            (repeat (any_goals split)) <;> first | exact i1 | (exfalso; omega)
          · simp only [b_I, b_L, b_V, tn, e10, eq_self, if_true, if_false, ite_not, i01, and_self, e1, b1, hj2, z1.1, z1.2]
            (repeat (any_goals split)) <;> first | exact i2 | (exfalso; omega)
        · have hg : IG (wD Tc 79 0 j (-1)) (wD Tm 96 0 j (-1)) := by
            unfold IG
            refine ⟨?_, ?_, ?_, ?_, ?_, ?_, ?_, ?_, ?_, ?_, ?_, ?_⟩ <;> (try simp (disch := omega) only [g_f, g_e, g_k, g_i, if_true]) <;> first | assumption | (intro q hq; have := pg1 q hq; exact ⟨this.1, by rw [this.2]⟩) | (intro q hq hq2; have := pg2 q hq hq2; exact ⟨this.1, by rw [this.2]; split <;> rfl⟩) | (intro q hq; have := pg3 q hq; split <;> omega)
          obtain ⟨x, Tc', Tm', i1, i2, i3, i4, i5⟩ := ih (j + 1) m _ _ hg (by rw [g_f (by decide)]; exact h1) (by rw [g_f (by decide)]; exact h2) (by omega) (by omega)
          refine ⟨x, Tc', Tm', ?_, ?_, EqX_tr (EqX_wA EqX_rf (by decide)) i3, EqX_tr (EqX_wA EqX_rf (by decide)) i4, i5⟩
          · simp only [b_I, b_L, b_V, tn, e10, eq_self, if_true, if_false, ite_not, i01, and_self, e1, b1]
            (repeat (any_goals split)) <;> first | exact i1 | (exfalso; omega)
          · simp only [b_I, b_L, b_V, tn, e10, eq_self, if_true, if_false, ite_not, i01, and_self, e1, b1, hj2, z1.1, z1.2]
            (repeat (any_goals split)) <;> first | exact i2 | (exfalso; omega)
      · obtain ⟨x, Tc', Tm', i1, i2, i3, i4, i5⟩ := ih (j + 1) m Tc Tm h0 h1 h2 (by omega) (by omega)
        refine ⟨x, Tc', Tm', ?_, ?_, i3, i4, i5⟩
        · simp only [b_I, b_L, b_V, tn, e10, eq_self, if_true, if_false, ite_not, i01, and_self, e1, b1]
          (repeat (any_goals split)) <;> first | exact i1 | (exfalso; omega)
        · simp only [b_I, b_L, b_V, tn, e10, eq_self, if_true, if_false, ite_not, i01, and_self, e1, b1, hj2, z1.1]
          (repeat (any_goals split)) <;> first | exact i2 | (exfalso; omega)
    · have w1 := w_back_t (N := N) r hr (K := K) (n + 1) j m Tc (fun t h5 h6 => (pg2 t (by omega) h6).1) (by omega) (by omega) h4
      rw [b304_22, h2, if_neg (by omega), bnd (by omega), tn]
      refine ⟨m, _, _, w1, rfl, EqX_wA EqX_rf (by decide), EqX_wA EqX_rf (by decide), ?_⟩
      unfold IG
      refine ⟨?_, ?_, ?_, ?_, ?_, ?_, ?_, ?_, ?_, ?_, ?_, ?_⟩ <;> (try simp (disch := omega) only [g_f, g_e, g_k, g_i, if_true]) <;> first | assumption | (intro q; simp only [pg6]) | (intro q; have := pg7 q; split <;> omega)
theorem o_back (hd : 12 ≤ d) (a1 : Int) : PI2 d CI2 186 304 vi [vi a1] := by
  intro i Sc Sm hi' hC
  have hC' := hC
  obtain ⟨hN, hT, hS, hW, hK, hO, hX, hP, hR, hF, hA, hH, hQ, hG⟩ := hC
  have uIT := hT; unfold IT at uIT; obtain ⟨t1, t2, t3, t4, t5, t6, t7, t8, t9, t10, t11, t12, t13, t14, t15, t16⟩ := uIT
  have uIG := hG; unfold IG at uIG; obtain ⟨pg1, pg2, pg3, pg4, pg5, pg6, pg7, pg8, pg9, pg10, pg11, pg12⟩ := uIG
  have c2 := (E186 (d := d) (by omega) Sc a1).trans (b186_0 oo (EE false (d - 1)) 999999 Sc a1)
  have m2 := (E304 (d := d) (by omega) Sm a1).trans (b304_0 oo (EE false (d - 1)) 999999 Sm a1)
  rw [E33 (by omega), b33_0] at c2
  by_cases g1 : 0 ≤ a1 ∧ a1 ≤ 7
  · obtain ⟨k, rfl⟩ := Int.eq_ofNat_of_zero_le g1.1
    obtain ⟨N, hN'⟩ : ∃ N : Nat, (gD Sc 3 0 10) = (N : Int) := Int.eq_ofNat_of_zero_le t2
    rw [q_isRing1 (by omega) _ g1, b_I, if_neg (by decide), bnd (by omega), tn] at c2
    rw [q_M_isRing1 (by omega) _ g1, b_I, if_neg (by decide), bnd (by omega), tn, pg6] at m2
    by_cases q : (gD Sc 80 0 k) = 0
    · rw [if_pos q, b_I] at c2
      rw [if_pos q] at m2
      exact ⟨-1, Sc, Sm, c2, EqC_rf, m2, EqM_rf, CI2_up hC'⟩
    · obtain ⟨r, Tc, Tm, w1, w2, x1, x2, h2⟩ := w_back (N := N) (by omega) k (by omega) (K := EE false (d - 1 - 1)) (K' := EE false (d - 1)) 999999 0 0 Sc Sm hG hN' (t1.trans hN') (by omega) (by omega)
      have w1 : run oo (EE false (d - 1 - 1)) false mi_33 999999 22 [(0, vr (some (75, 0))), (1, vi (k : Int)), (2, vi 0), (3, vi 0)] [] Sc = some (vi r, Tc) := w1
      have w2 : run oo (EE false (d - 1)) false mi_304 999999 22 [(0, vr (some (85, 0))), (1, vi (k : Int)), (2, vi 0), (3, vi 0)] [] Sm = some (vi r, Tm) := w2
      rw [if_neg q, w1, b_I] at c2
      rw [if_neg q, w2] at m2
      exact ⟨_, _, _, c2, EqC_of x1 rfl, m2, EqM_of x2 rfl, ⟨IN_fr (AgX x1 rfl) (AgX x2 rfl) hN, IT_fr (AgX x1 rfl) (AgX x2 rfl) hT, IS_up (IS_fr (AgX x1 rfl) (AgX x2 rfl) hS), IW_fr (AgX x1 rfl) (AgX x2 rfl) hW, IC_fr (AgX x1 rfl) (AgX x2 rfl) hK, IO_fr (AgX x1 rfl) (AgX x2 rfl) hO, IX_up (IX_fr (AgX x1 rfl) (AgX x2 rfl) hX), IP_fr (AgX x1 rfl) (AgX x2 rfl) hP, IR_fr (AgX x1 rfl) (AgX x2 rfl) hR, IF_fr (AgX x1 rfl) (AgX x2 rfl) hF, IA_fr (AgX x1 rfl) (AgX x2 rfl) hA, IH_fr (AgX x1 rfl) (AgX x2 rfl) hH, IQ_fr (AgX x1 rfl) (AgX x2 rfl) hQ, h2⟩⟩
  · refine ⟨-1, Sc, Sm, ?_, EqC_rf, ?_, EqM_rf, CI2_up hC'⟩
    · rw [c2, q_isRing0 (by omega) _ (by omega), b_I, if_pos rfl, b_I]
    · rw [m2, q_M_isRing0 (by omega) _ (by omega), b_I, if_pos rfl]
end
