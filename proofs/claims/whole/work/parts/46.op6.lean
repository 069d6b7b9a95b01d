/-! layer 2: orders -/
section
variable {d : Nat}
def stA (S : SD) (now : Int) (k : Nat) : Int := if (gD S 38 0 k) < now then (if (gD S 39 0 k) = 0 then 4 else if (gD S 39 0 k) = 1 then 5 else (gD S 39 0 k)) else (gD S 39 0 k)
theorem q_ohas1 {S : SD} (hd : 1 ≤ d) (k : Nat) (h : (k : Int) < (gD S 35 0 5)) (h2 : k < 200) : EE false d 17 [vr (some (35, 0)), vi (k : Int)] S = some (vi 1, S) := by
  rw [E17 hd, b17_0, if_neg (by omega), if_pos h, if_pos (by omega)]
theorem q_ohas0 {S : SD} (hd : 1 ≤ d) (a : Int) (h : a < 0 ∨ (gD S 35 0 5) ≤ a) : EE false d 17 [vr (some (35, 0)), vi a] S = some (vi 0, S) := by
  rw [E17 hd, b17_0]
  by_cases h1 : a < 0
  · rw [if_pos h1]
  · rw [if_neg h1, if_neg (by omega)]
theorem q_stateAt {S : SD} (hd : 2 ≤ d) (k : Nat) (h : (k : Int) < (gD S 35 0 5)) (h2 : k < 200) (now : Int) : EE false d 18 [vr (some (35, 0)), vi (k : Int), vi now] S = some (vi (stA S now k), S) := by
  rw [E18 (by omega), b18_0, q_ohas1 (by omega) k h h2, b_I, if_neg (by decide), bnd (by omega), bnd (by omega), tn]
  unfold stA
  repeat (any_goals split)
  all_goals rfl
theorem q_stateAt0 {S : SD} (hd : 2 ≤ d) (a : Int) (h : a < 0 ∨ (gD S 35 0 5) ≤ a) (now : Int) : EE false d 18 [vr (some (35, 0)), vi a, vi now] S = some (vi (-1), S) := by
  rw [E18 (by omega), b18_0, q_ohas0 (by omega) a h, b_I, if_pos rfl]
theorem q_M_stateOf {Sc Sm : SD} (hO : IO Sc Sm) (hd : 1 ≤ d) (k : Nat) (h2 : k < 200) (now : Int) (hn : (gD Sm 85 0 0) = now) : EE false d 268 [vr (some (85, 0)), vi (k : Int)] Sm = some (vi (stA Sc now k), Sm) := by
  have uIO := hO; unfold IO at uIO; obtain ⟨o1, o2, o3, o4, o5, o6, o7, o8, o9, o10⟩ := uIO
  have b := o9 k
  have x1 : aw oo ((gD Sc 39 0 k) + 4) = (gD Sc 39 0 k) + 4 := aw_id (by omega)
  rw [E268 hd, b268_0, bnd (by omega), tn, o6, o7, hn, bnd (by omega), x1]
  unfold stA
  repeat (any_goals split)
  all_goals first | rfl | (exfalso; omega) | (exact congrArg (fun z => some (vi z, Sm)) (by omega))
theorem IO_send {Sc Sm : SD} (hO : IO Sc Sm) (k : Nat) (hk : (k : Int) < (gD Sc 35 0 5)) : IO (wD (wD Sc 39 0 k 1) 40 0 k (aw oo (gD (wD Sc 39 0 k 1) 40 0 k + 1))) (wD (wD Sm 145 0 k 1) 146 0 k (aw oo (gD (wD Sm 145 0 k 1) 146 0 k + 1))) := by
  have uIO := hO; unfold IO at uIO; obtain ⟨o1, o2, o3, o4, o5, o6, o7, o8, o9, o10⟩ := uIO
  unfold IO
  refine ⟨?_, ?_, ?_, ?_, ?_, ?_, ?_, ?_, ?_, ?_⟩ <;> (try simp (disch := omega) only [g_f, g_e, g_k, g_i, if_true]) <;> first | assumption | (intro q; simp only [o7, o8]) | (intro q; have := o9 q; split <;> omega) | (intro q hq; have := o10 q hq; rw [if_neg (by omega), if_neg (by omega)]; exact this)
theorem w_send {d' N : Nat} (hd : 2 ≤ d) (hd' : 1 ≤ d') (hN4 : N ≤ 200) (t now : Int) : ∀ (n j : Nat) (m : Int) (Tc Tm : SD), IO Tc Tm → (gD Tm 85 0 0) = now → (gD Tc 35 0 5) = (N : Int) → j ≤ N → N - j < n → ∃ r Tc' Tm', run oo (EE false d) false mi_19 n 5 [(0, vr (some (35, 0))), (1, vi t), (2, vi now), (3, vi m), (4, vi (j : Int))] [] Tc = some (vi r, Tc') ∧ run oo (EE false d') false mi_269 n 4 [(0, vr (some (85, 0))), (1, vi t), (2, vi m), (3, vi (j : Int))] [] Tm = some (vi r, Tm') ∧ EqX [39, 40] [] Tc Tc' ∧ EqX [145, 146] [] Tm Tm' ∧ IO Tc' Tm' := by
  intro n
  induction n with
  | zero => intro j m Tc Tm h0 h1 h2 h3 h4; omega
  | succ n ih =>
    intro j m Tc Tm h0 h1 h2 h3 h4
    have uIO := h0; unfold IO at uIO; obtain ⟨o1, o2, o3, o4, o5, o6, o7, o8, o9, o10⟩ := uIO
    rw [b19_5, b269_4, o1, h2]
    by_cases hj : j < N
    · have c1 := q_stateAt (S := Tc) hd j (by omega) (by omega) now
      have m1 := q_M_stateOf h0 hd' j (by omega) now h1
      have e1 : vi (aw oo ((j : Int) + 1)) = vi ((j + 1 : Nat) : Int) := congrArg vi (awn (by omega))
      have b1 : (0 ≤ (j : Int) ∧ (j : Int) < 200) = True := eq_true (by omega)
      have hj1 : ((j : Int) < (N : Int)) = True := eq_true (by omega)
      have hj2 : ((j : Int) < 200) = True := eq_true (by omega)
      by_cases q : (gD Tc 36 0 j) = t ∧ stA Tc now j ≤ 1
      · have s1 : stA Tc now j = 0 ∨ stA Tc now j = 1 := by
          have := o9 j
          have : 0 ≤ stA Tc now j := by unfold stA; split <;> (try split) <;> (try split) <;> omega
          omega
        obtain ⟨r, Tc', Tm', i1, i2, i3, i4, i5⟩ := ih (j + 1) (aw oo (m + 1)) _ _ (IO_send h0 j (by omega)) (by rw [g_f (by decide), g_f (by decide)]; exact h1) (by rw [g_f (by decide), g_f (by decide)]; exact h2) (by omega) (by omega)
        refine ⟨r, Tc', Tm', ?_, ?_, EqX_tr (EqX_wA (EqX_wA EqX_rf (by decide)) (by decide)) i3, EqX_tr (EqX_wA (EqX_wA EqX_rf (by decide)) (by decide)) i4, i5⟩
        · simp only [b_I, b_L, b_V, tn, e10, eq_self, if_true, if_false, ite_not, i01, and_self, c1, e1, b1, hj1]
          (repeat (any_goals split)) <;> first | exact i1 | (exfalso; omega)
        · simp only [b_I, b_L, b_V, tn, e10, eq_self, if_true, if_false, ite_not, i01, and_self, m1, e1, b1, hj1, o4]
          (repeat (any_goals split)) <;> first | exact i2 | (exfalso; omega)
      · obtain ⟨r, Tc', Tm', i1, i2, i3, i4, i5⟩ := ih (j + 1) m Tc Tm h0 h1 h2 (by omega) (by omega)
        refine ⟨r, Tc', Tm', ?_, ?_, i3, i4, i5⟩
        · simp only [b_I, b_L, b_V, tn, e10, eq_self, if_true, if_false, ite_not, i01, and_self, c1, e1, b1, hj1]
          (repeat (any_goals split)) <;> first | exact i1 | (exfalso; omega)
        · simp only [b_I, b_L, b_V, tn, e10, eq_self, if_true, if_false, ite_not, i01, and_self, m1, e1, b1, hj1, o4]
          (repeat (any_goals split)) <;> first | exact i2 | (exfalso; omega)
    · rw [if_neg (by omega), if_neg (by omega)]
      exact ⟨m, Tc, Tm, rfl, rfl, EqX_rf, EqX_rf, h0⟩
theorem q_send {d' : Nat} {Sc Sm : SD} (hd : 3 ≤ d) (hd' : 2 ≤ d') (hO : IO Sc Sm) (t now : Int) (hn : (gD Sm 85 0 0) = now) : ∃ r Tc' Tm', EE false d 19 [vr (some (35, 0)), vi t, vi now] Sc = some (vi r, Tc') ∧ EE false d' 269 [vr (some (85, 0)), vi t] Sm = some (vi r, Tm') ∧ EqX [39, 40] [] Sc Tc' ∧ EqX [145, 146] [] Sm Tm' ∧ IO Tc' Tm' := by
  have uO := hO
  unfold IO at uO
  obtain ⟨N, hN⟩ : ∃ N : Nat, (gD Sc 35 0 5) = (N : Int) := Int.eq_ofNat_of_zero_le uO.2.1
  rw [E19 (by omega), b19_0, E269 (by omega), b269_0]
  exact w_send (by omega) (by omega) (by omega) t now 999999 0 0 Sc Sm hO hn hN (by omega) (by omega)
theorem o_wake (hd : 12 ≤ d) (a1 : Int) : PI2 d CI2 170 270 vi [vi a1] := by
  intro i Sc Sm hi' hC
  have hC' := hC
  obtain ⟨hN, hT, hS, hW, hK, hO, hX, hP, hR, hF, hA, hH, hQ, hG⟩ := hC
  have uIT := hT; unfold IT at uIT; obtain ⟨t1, t2, t3, t4, t5, t6, t7, t8, t9, t10, t11, t12, t13, t14, t15, t16⟩ := uIT
  have e3 := q_has Sc (show 1 ≤ d - 1 by omega) a1
  have e4 := q_M_isThing Sm (show 1 ≤ d - 1 by omega) a1
  by_cases h : 0 ≤ a1 ∧ a1 < (gD Sc 3 0 10)
  · have hn : (gD Sm 85 0 0) = (gD Sc 2 0 9) := by unfold IN at hN; exact hN.1
    obtain ⟨r, Tc, Tm, c1, m1, x1, x2, h2⟩ := q_send (d := d - 1) (d' := d - 1) (by omega) (by omega) hO a1 (gD Sc 2 0 9) hn
    have c2 := (E170 (d := d) (by omega) Sc a1).trans (b170_0 oo (EE false (d - 1)) 999999 Sc a1)
    rw [e3, b_I, if_pos h, if_neg (by decide), c1, b_I] at c2
    have m2 := (E270 (d := d) (by omega) Sm a1).trans (b270_0 oo (EE false (d - 1)) 999999 Sm a1)
    rw [e4, b_I, if_pos (show 0 ≤ a1 ∧ a1 < (gD Sm 85 0 6) by omega), if_neg (by decide), m1, b_I] at m2
    exact ⟨_, _, _, c2, EqC_of x1 rfl, m2, EqM_of x2 rfl, ⟨IN_fr (AgX x1 rfl) (AgX x2 rfl) hN, IT_fr (AgX x1 rfl) (AgX x2 rfl) hT, IS_up (IS_fr (AgX x1 rfl) (AgX x2 rfl) hS), IW_fr (AgX x1 rfl) (AgX x2 rfl) hW, IC_fr (AgX x1 rfl) (AgX x2 rfl) hK, h2, IX_up (IX_fr (AgX x1 rfl) (AgX x2 rfl) hX), IP_fr (AgX x1 rfl) (AgX x2 rfl) hP, IR_fr (AgX x1 rfl) (AgX x2 rfl) hR, IF_fr (AgX x1 rfl) (AgX x2 rfl) hF, IA_fr (AgX x1 rfl) (AgX x2 rfl) hA, IH_fr (AgX x1 rfl) (AgX x2 rfl) hH, IQ_fr (AgX x1 rfl) (AgX x2 rfl) hQ, IG_fr (AgX x1 rfl) (AgX x2 rfl) hG⟩⟩
  · refine ⟨-1, Sc, Sm, ?_, EqC_rf, ?_, EqM_rf, CI2_up hC'⟩
    · rw [E170 (by omega), b170_0, e3, b_I, if_neg h, if_pos rfl]
    · rw [E270 (by omega), b270_0, e4, b_I, if_neg (show ¬ (0 ≤ a1 ∧ a1 < (gD Sm 85 0 6)) by omega), if_pos rfl]
theorem q_give {S : SD} (hd : 1 ≤ d) {N : Nat} (hN : (gD S 35 0 5) = (N : Int)) (h : N < 200) (t n u : Int) : EE false d 16 [vr (some (35, 0)), vi t, vi n, vi u] S = some (vi (N : Int), wD (wD (wD (wD S 36 0 N t) 37 0 N n) 38 0 N u) 35 0 5 ((N : Int) + 1)) := by
  have x1 : aw oo ((N : Int) + 1) = (N : Int) + 1 := aw_id (by omega)
  have x2 : aw oo ((N : Int) + 1 - 1) = (N : Int) := by rw [aw_id (by omega)]; omega
  have b1 : (0 ≤ (N : Int) ∧ (N : Int) < 200) = True := eq_true (by omega)
  have b2 : ((N : Int) < 200) = True := eq_true (by omega)
  rw [E16 hd, b16_0, hN, if_pos (show (N : Int) < 200 by omega)]
  simp (disch := decide) only [g_f, g_e, hN, x1, x2, b1, if_true, tn]
theorem q_give0 {S : SD} (hd : 1 ≤ d) (h : 200 ≤ (gD S 35 0 5)) (t n u : Int) : EE false d 16 [vr (some (35, 0)), vi t, vi n, vi u] S = some (vi (-1), S) := by
  rw [E16 hd, b16_0, if_neg (by omega)]
theorem q_M_gives {S : SD} (hd : 1 ≤ d) {N : Nat} (hN : (gD S 85 0 73) = (N : Int)) (h : N < 200) (t n u : Int) : EE false d 266 [vr (some (85, 0)), vi t, vi n, vi u] S = some (vi (N : Int), wD (wD (wD (wD (wD (wD S 142 0 N t) 143 0 N n) 144 0 N u) 145 0 N 0) 146 0 N 0) 85 0 73 ((N : Int) + 1)) := by
  have x1 : aw oo ((N : Int) + 1) = (N : Int) + 1 := aw_id (by omega)
  have x2 : aw oo ((N : Int) + 1 - 1) = (N : Int) := by rw [aw_id (by omega)]; omega
  have b1 : (0 ≤ (N : Int) ∧ (N : Int) < 200) = True := eq_true (by omega)
  rw [E266 hd, b266_0]
  simp (disch := decide) only [g_f, g_e, hN, x1, x2, b1, if_true, tn]
theorem IO_give {N : Nat} {t n u : Int} {Sc Sm Sc' Sm' : SD} (hO : IO Sc Sm) (hN : (gD Sc 35 0 5) = (N : Int)) (h : N < 200)
    (hc : Sc' = wD (wD (wD (wD Sc 36 0 N t) 37 0 N n) 38 0 N u) 35 0 5 ((N : Int) + 1))
    (hm : Sm' = wD (wD (wD (wD (wD (wD Sm 142 0 N t) 143 0 N n) 144 0 N u) 145 0 N 0) 146 0 N 0) 85 0 73 ((N : Int) + 1)) : IO Sc' Sm' := by
  subst hc hm
  have uIO := hO; unfold IO at uIO; obtain ⟨o1, o2, o3, o4, o5, o6, o7, o8, o9, o10⟩ := uIO
  have q1 := o10 N (by omega)
  unfold IO
  refine ⟨?_, ?_, ?_, ?_, ?_, ?_, ?_, ?_, ?_, ?_⟩ <;> (try simp (disch := omega) only [g_f, g_e, g_k, g_i, if_true]) <;> first | omega | assumption | (intro q; simp only [o4, o5, o6]) | (intro q; by_cases e : q = N <;> simp only [e, if_true, if_false] <;> first | exact q1.1.symm | exact q1.2.symm | exact o7 q | exact o8 q) | (intro q hq; have := o10 q (by omega); exact this)
theorem o_order (hd : 12 ≤ d) (a1 a2 a3 : Int) : PI2 d CI2 169 267 vi [vi a1, vi a2, vi a3] := by
  intro i Sc Sm hi' hC
  have hC' := hC
  obtain ⟨hN, hT, hS, hW, hK, hO, hX, hP, hR, hF, hA, hH, hQ, hG⟩ := hC
  have uIT := hT; unfold IT at uIT; obtain ⟨t1, t2, t3, t4, t5, t6, t7, t8, t9, t10, t11, t12, t13, t14, t15, t16⟩ := uIT
  have uIO := hO; unfold IO at uIO; obtain ⟨o1, o2, o3, o4, o5, o6, o7, o8, o9, o10⟩ := uIO
  have hn : (gD Sm 85 0 0) = (gD Sc 2 0 9) := by unfold IN at hN; exact hN.1
  have e1 := q_within Sc (show 1 ≤ d - 1 by omega)
  have e2 := q_M_in Sm (show 1 ≤ d - 1 by omega)
  have e3 := q_has Sc (show 1 ≤ d - 1 by omega) a1
  have e4 := q_M_isThing Sm (show 1 ≤ d - 1 by omega) a1
  have c2 := (E169 (d := d) (by omega) Sc a1 a2 a3).trans (b169_0 oo (EE false (d - 1)) 999999 Sc a1 a2 a3)
  have m2 := (E267 (d := d) (by omega) Sm a1 a2 a3).trans (b267_0 oo (EE false (d - 1)) 999999 Sm a1 a2 a3)
  simp only [b_I, e1, e3, i01, ite_not] at c2
  simp only [b_I, e2, e4, i01, ite_not, hn, t1, o1] at m2
  by_cases h : (0 ≤ a1 ∧ a1 < (gD Sc 3 0 10)) ∧ (1 ≤ a2 ∧ a2 ≤ 60) ∧ ((gD Sc 2 0 9) ≤ a3 ∧ a3 ≤ 3999) ∧ (gD Sc 35 0 5) < 200
  · obtain ⟨g1, g2, g3, g4⟩ := h
    obtain ⟨N, hNN⟩ : ∃ N : Nat, (gD Sc 35 0 5) = (N : Int) := Int.eq_ofNat_of_zero_le o2
    rw [if_pos g1, if_pos g2, if_pos g3, q_give (by omega) hNN (by omega), b_I] at c2
    rw [if_neg (by omega), if_pos g1, if_pos g2, if_pos g3, q_M_gives (by omega) (o1.trans hNN) (by omega), b_I] at m2
    have x1 : EqX [36, 37, 38] [(35, 5)] Sc (resS c2) := by unfold resS; repeat (first | exact EqX_rf | refine EqX_wA ?_ (by decide) | refine EqX_wC ?_ (by decide))
    have x2 : EqX [142, 143, 144, 145, 146] [(85, 73)] Sm (resS m2) := by unfold resS; repeat (first | exact EqX_rf | refine EqX_wA ?_ (by decide) | refine EqX_wC ?_ (by decide))
    exact ⟨_, _, _, c2, EqC_of x1 rfl, m2, EqM_of x2 rfl, ⟨IN_fr (AgX x1 rfl) (AgX x2 rfl) hN, IT_fr (AgX x1 rfl) (AgX x2 rfl) hT, IS_up (IS_fr (AgX x1 rfl) (AgX x2 rfl) hS), IW_fr (AgX x1 rfl) (AgX x2 rfl) hW, IC_fr (AgX x1 rfl) (AgX x2 rfl) hK, (IO_give hO hNN (by omega) rfl rfl), IX_up (IX_fr (AgX x1 rfl) (AgX x2 rfl) hX), IP_fr (AgX x1 rfl) (AgX x2 rfl) hP, IR_fr (AgX x1 rfl) (AgX x2 rfl) hR, IF_fr (AgX x1 rfl) (AgX x2 rfl) hF, IA_fr (AgX x1 rfl) (AgX x2 rfl) hA, IH_fr (AgX x1 rfl) (AgX x2 rfl) hH, IQ_fr (AgX x1 rfl) (AgX x2 rfl) hQ, IG_fr (AgX x1 rfl) (AgX x2 rfl) hG⟩⟩
  · refine ⟨-1, Sc, Sm, ?_, EqC_rf, ?_, EqM_rf, CI2_up hC'⟩
    · rw [c2]
      by_cases g4 : 200 ≤ (gD Sc 35 0 5)
      · rw [q_give0 (by omega) g4, b_I]
        repeat (any_goals split)
        all_goals first | rfl | (exfalso; omega)
      · repeat (any_goals split)
        all_goals first | rfl | (exfalso; omega)
    · rw [m2]
      repeat (any_goals split)
      all_goals first | rfl | (exfalso; omega)
theorem o_answer (hd : 12 ≤ d) (a1 a2 : Int) (hb : a2 = 0 ∨ a2 = 1) : PI2 d CI2 171 271 vi [vi a1, vi a2] := by
  intro i Sc Sm hi' hC
  have hC' := hC
  obtain ⟨hN, hT, hS, hW, hK, hO, hX, hP, hR, hF, hA, hH, hQ, hG⟩ := hC
  have uIO := hO; unfold IO at uIO; obtain ⟨o1, o2, o3, o4, o5, o6, o7, o8, o9, o10⟩ := uIO
  have hn : (gD Sm 85 0 0) = (gD Sc 2 0 9) := by unfold IN at hN; exact hN.1
  have x0 : aw oo ((gD Sm 85 0 73) - 1) = (gD Sc 35 0 5) - 1 := by rw [o1]; exact aw_id (by omega)
  have c2 := (E171 (d := d) (by omega) Sc a1 a2).trans (b171_0 oo (EE false (d - 1)) 999999 Sc a1 a2)
  have m2 := (E271 (d := d) (by omega) Sm a1 a2).trans (b271_0 oo (EE false (d - 1)) 999999 Sm a1 a2)
  rw [E20 (by omega), b20_0] at c2
  rw [x0] at m2
  by_cases h : 0 ≤ a1 ∧ a1 < (gD Sc 35 0 5)
  · obtain ⟨k, rfl⟩ := Int.eq_ofNat_of_zero_le h.1
    rw [q_stateAt (by omega) k h.2 (by omega), b_I, q_ohas1 (by omega) k h.2 (by omega)] at c2
    have m3 := q_M_stateOf hO (show 1 ≤ d - 1 by omega) k (by omega) _ hn
    have b1 : (0 ≤ (k : Int) ∧ (k : Int) < 200) = True := eq_true (by omega)
    rw [q_M_in1 (by omega) _ _ _ (by omega), b_I, if_neg (by decide), m3, b_I] at m2
    simp only [b_I, e10, if_false, b1, if_true, tn] at c2
    simp only [m3, b_I, b1, if_true, tn] at m2
    by_cases q : stA Sc (gD Sc 2 0 9) k = 1 ∨ stA Sc (gD Sc 2 0 9) k = 5
    · have fin : ∀ v, (v = 2 ∨ v = 3) → EE false d 171 [vr (some (2, 0)), vi (k : Int), vi a2] Sc = some (vi 1, wD Sc 39 0 k v) → EE false d 271 [vr (some (85, 0)), vi (k : Int), vi a2] Sm = some (vi 1, wD Sm 145 0 k v) → ∃ (x : Int) (Sc' Sm' : SD), EE false d 171 [vr (some (2, 0)), vi (k : Int), vi a2] Sc = some (vi x, Sc') ∧ EqC Sc Sc' ∧ EE false d 271 [vr (some (85, 0)), vi (k : Int), vi a2] Sm = some (vi x, Sm') ∧ EqM Sm Sm' ∧ CI2 (i + 1) Sc' Sm' := fun v hv c1 m1 => by
        have x1 : EqX [39] [] Sc (resS c1) := by unfold resS; repeat (first | exact EqX_rf | refine EqX_wA ?_ (by decide) | refine EqX_wC ?_ (by decide))
        have x2 : EqX [145] [] Sm (resS m1) := by unfold resS; repeat (first | exact EqX_rf | refine EqX_wA ?_ (by decide) | refine EqX_wC ?_ (by decide))
        refine ⟨_, _, _, c1, EqC_of x1 rfl, m1, EqM_of x2 rfl, ⟨IN_fr (AgX x1 rfl) (AgX x2 rfl) hN, IT_fr (AgX x1 rfl) (AgX x2 rfl) hT, IS_up (IS_fr (AgX x1 rfl) (AgX x2 rfl) hS), IW_fr (AgX x1 rfl) (AgX x2 rfl) hW, IC_fr (AgX x1 rfl) (AgX x2 rfl) hK, ?_, IX_up (IX_fr (AgX x1 rfl) (AgX x2 rfl) hX), IP_fr (AgX x1 rfl) (AgX x2 rfl) hP, IR_fr (AgX x1 rfl) (AgX x2 rfl) hR, IF_fr (AgX x1 rfl) (AgX x2 rfl) hF, IA_fr (AgX x1 rfl) (AgX x2 rfl) hA, IH_fr (AgX x1 rfl) (AgX x2 rfl) hH, IQ_fr (AgX x1 rfl) (AgX x2 rfl) hQ, IG_fr (AgX x1 rfl) (AgX x2 rfl) hG⟩⟩
        unfold IO
        refine ⟨?_, ?_, ?_, ?_, ?_, ?_, ?_, ?_, ?_, ?_⟩ <;> (try simp (disch := omega) only [g_f, g_e, g_k, g_i, if_true]) <;> first | assumption | (intro q; simp only [o7]) | (intro q; have := o9 q; split <;> omega) | (intro q hq; have := o10 q hq; rw [if_neg (by omega)]; exact this)
      rcases hb with rfl | rfl
      · refine fin 3 (Or.inr rfl) ?_ ?_
        · rw [c2]
          simp only [if_true, b_I]
          repeat (any_goals split)
          all_goals first | rfl | (exfalso; omega)
        · rw [m2]
          simp only [if_true]
          repeat (any_goals split)
          all_goals first | rfl | (exfalso; omega)
      · refine fin 2 (Or.inl rfl) ?_ ?_
        · rw [c2]
          simp only [e10, if_false, b_I]
          repeat (any_goals split)
          all_goals first | rfl | (exfalso; omega)
        · rw [m2]
          simp only [e10, if_false]
          repeat (any_goals split)
          all_goals first | rfl | (exfalso; omega)
    · refine ⟨0, Sc, Sm, ?_, EqC_rf, ?_, EqM_rf, CI2_up hC'⟩
      · rw [c2, if_neg (by omega), if_neg (by omega), b_I, if_pos (Or.inl rfl)]
      · rw [m2, if_neg (by omega), if_neg (by omega)]
  · refine ⟨0, Sc, Sm, ?_, EqC_rf, ?_, EqM_rf, CI2_up hC'⟩
    · rw [c2, q_stateAt0 (by omega) a1 (by omega), b_I, if_neg (by decide), if_neg (by decide), b_I, if_pos (Or.inl rfl)]
    · rw [m2, q_M_in0 (by omega) _ _ _ (by omega), b_I, if_pos rfl]
theorem o_orders (hd : 12 ≤ d) (a1 a2 : Int) : PI2 d CI2 172 272 vi [vi a1, vi a2] := by
  refine PI2_ro (fun i Sc Sm hi hC => ?_)
  obtain ⟨hN, hT, hS, hW, hK, hO, hX, hP, hR, hF, hA, hH, hQ, hG⟩ := hC
  have uIO := hO; unfold IO at uIO; obtain ⟨o1, o2, o3, o4, o5, o6, o7, o8, o9, o10⟩ := uIO
  have hn : (gD Sm 85 0 0) = (gD Sc 2 0 9) := by unfold IN at hN; exact hN.1
  have x0 : aw oo ((gD Sm 85 0 73) - 1) = (gD Sc 35 0 5) - 1 := by rw [o1]; exact aw_id (by omega)
  rw [E172 (by omega), b172_0, E21 (by omega), b21_0, E272 (by omega), b272_0, x0]
  by_cases h : 0 ≤ a1 ∧ a1 < (gD Sc 35 0 5)
  · obtain ⟨k, rfl⟩ := Int.eq_ofNat_of_zero_le h.1
    have e1 := q_ohas1 (S := Sc) (show 1 ≤ d - 1 - 1 by omega) k h.2 (by omega)
    have e2 := q_stateAt (S := Sc) (show 2 ≤ d - 1 - 1 by omega) k h.2 (by omega) (gD Sc 2 0 9)
    have e3 := q_M_in1 (S := Sm) (show 1 ≤ d - 1 by omega) (k : Int) 0 ((gD Sc 35 0 5) - 1) (by omega)
    have e4 := q_M_stateOf hO (show 1 ≤ d - 1 by omega) k (by omega) _ hn
    have b1 : (0 ≤ (k : Int) ∧ (k : Int) < 200) = True := eq_true (by omega)
    simp only [b_I, b_L, b_V, tn, e10, eq_self, if_true, if_false, ite_not, i01, and_self, e1, e2, e3, e4, b1, o4, o5, o6, o8, its]
    exact ⟨_, rfl, rfl⟩
  · have e1 := q_ohas0 (S := Sc) (show 1 ≤ d - 1 - 1 by omega) a1 (by omega)
    have e3 := q_M_in0 (S := Sm) (show 1 ≤ d - 1 by omega) a1 0 ((gD Sc 35 0 5) - 1) (by omega)
    simp only [b_I, b_L, b_V, tn, e10, eq_self, if_true, if_false, ite_not, i01, and_self, e1, e3]
    exact ⟨_, rfl, rfl⟩
end
