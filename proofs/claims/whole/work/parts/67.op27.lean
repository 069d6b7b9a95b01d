/-! held and acts -/
section
variable {d : Nat}
theorem o_held (hd : 12 ≤ d) (a1 a2 a3 : Int) : PI2 d CI2 164 256 vi [vi a1, vi a2, vi a3] := by
  intro i Sc Sm hi' hC
  have hC' := hC
  obtain ⟨hN, hT, hS, hW, hK, hO, hX, hP, hR, hF, hA, hH, hQ, hG⟩ := hC
  have uR := hR; unfold IR at uR
  obtain ⟨r1, r2, r3, r4, _⟩ := uR
  have uF := hF; unfold IF at uF
  have c2 := (E164 (d := d) (by omega) Sc a1 a2 a3).trans (b164_0 oo (EE false (d - 1)) 999999 Sc a1 a2 a3)
  have m2 := (E256 (d := d) (by omega) Sm a1 a2 a3).trans (b256_0 oo (EE false (d - 1)) 999999 Sm a1 a2 a3)
  rw [q_M_isRule (by omega), b_I, r1] at m2
  by_cases g : 0 ≤ a1 ∧ a1 < (gD Sc 41 0 8)
  · obtain ⟨r, rfl⟩ := Int.eq_ofNat_of_zero_le g.1
    rw [q_ruleAt1 (by omega) r g.2 (by omega), b_R1] at c2
    rw [if_pos g, if_neg (by decide)] at m2
    by_cases g2 : 0 ≤ a2 ∧ a2 ≤ 3999
    · rw [q_isTick1 (by omega) a2 g2, b_I, if_neg (by decide)] at c2
      rw [q_M_isTick1 (by omega) a2 g2, b_I, if_neg (by decide)] at m2
      by_cases g3 : 0 ≤ a3 ∧ a3 ≤ 3999
      · rw [q_isTick1 (by omega) a3 g3, b_I, if_neg (by decide)] at c2
        rw [q_M_isTick1 (by omega) a3 g3, b_I, if_neg (by decide)] at m2
        obtain ⟨b, Sm', i1, i2, x2⟩ := held_both (d := d - 1) (d' := d - 1) hT hW hK hR g.2 (uF r g.2).2.2.2.1 a2 a3 g2 (by omega) (by omega)
        rw [i1, b_I] at c2
        rw [i2, b_I] at m2
        have x1 : EqX [] [] Sc Sc := EqX_rf
        have fin : CI2 (i + 1) Sc Sm' := ⟨IN_fr (AgX x1 rfl) (AgX x2 rfl) hN, IT_fr (AgX x1 rfl) (AgX x2 rfl) hT, IS_up (IS_fr (AgX x1 rfl) (AgX x2 rfl) hS), IW_fr (AgX x1 rfl) (AgX x2 rfl) hW, IC_fr (AgX x1 rfl) (AgX x2 rfl) hK, IO_fr (AgX x1 rfl) (AgX x2 rfl) hO, IX_up (IX_fr (AgX x1 rfl) (AgX x2 rfl) hX), IP_fr (AgX x1 rfl) (AgX x2 rfl) hP, IR_fr (AgX x1 rfl) (AgX x2 rfl) hR, IF_fr (AgX x1 rfl) (AgX x2 rfl) hF, IA_fr (AgX x1 rfl) (AgX x2 rfl) hA, IH_fr (AgX x1 rfl) (AgX x2 rfl) hH, IQ_fr (AgX x1 rfl) (AgX x2 rfl) hQ, IG_fr (AgX x1 rfl) (AgX x2 rfl) hG⟩
        cases b with
        | true =>
          rw [if_neg (by decide)] at c2 m2
          exact ⟨1, _, _, c2, EqC_of x1 rfl, m2, EqM_of x2 rfl, fin⟩
        | false =>
          rw [if_pos (by decide)] at c2 m2
          exact ⟨0, _, _, c2, EqC_of x1 rfl, m2, EqM_of x2 rfl, fin⟩
      · rw [q_isTick0 (by omega) a3 (by omega), b_I, if_pos rfl] at c2
        rw [q_M_isTick0 (by omega) a3 (by omega), b_I, if_pos rfl] at m2
        exact ⟨-1, _, _, c2, EqC_rf, m2, EqM_rf, CI2_up hC'⟩
    · rw [q_isTick0 (by omega) a2 (by omega), b_I, if_pos rfl] at c2
      rw [q_M_isTick0 (by omega) a2 (by omega), b_I, if_pos rfl] at m2
      exact ⟨-1, _, _, c2, EqC_rf, m2, EqM_rf, CI2_up hC'⟩
  · rw [q_ruleAt0 (by omega) a1 (by omega), b_R0] at c2
    rw [if_neg g, if_pos rfl] at m2
    exact ⟨-1, _, _, c2, EqC_rf, m2, EqM_rf, CI2_up hC'⟩
theorem o_acts (hd : 12 ≤ d) (a1 a2 : Int) : PI2 d CI2 165 260 vi [vi a1, vi a2] := by
  intro i Sc Sm hi' hC
  have hC' := hC
  obtain ⟨hN, hT, hS, hW, hK, hO, hX, hP, hR, hF, hA, hH, hQ, hG⟩ := hC
  have uR := hR; unfold IR at uR
  obtain ⟨r1, r2, r3, r4, _⟩ := uR
  have uF := hF; unfold IF at uF
  have uN := hN; unfold IN at uN
  obtain ⟨n1, n2, n3⟩ := uN
  have uA := hA; unfold IA at uA
  obtain ⟨ac1, ac2, ac3, ac4, ac5, ac6, ac7, ac8⟩ := uA
  have c2 := (E165 (d := d) (by omega) Sc a1 a2).trans (b165_0 oo (EE false (d - 1)) 999999 Sc a1 a2)
  rw [E117 (by omega), b117_0] at c2
  have m2 := (E260 (d := d) (by omega) Sm a1 a2).trans (b260_0 oo (EE false (d - 1)) 999999 Sm a1 a2)
  rw [ac1, aw0 (by omega)] at m2
  by_cases g : 0 ≤ a1 ∧ a1 < (gD Sc 41 0 9)
  · obtain ⟨k, rfl⟩ := Int.eq_ofNat_of_zero_le g.1
    rw [if_neg (by omega), if_pos g.2, if_pos (by omega)] at c2
    rw [q_M_in1 (by omega) _ _ _ (by omega), b_I, if_neg (by decide)] at m2
    have bk : (0 ≤ (k : Int) ∧ (k : Int) < 300) = True := eq_true (by omega)
    simp only [bk, if_true, tn] at c2 m2
    rw [ac4, ac5, ac6, ac7] at m2
    by_cases z0 : a2 = 0
    · rw [if_pos z0, b_I] at c2
      rw [if_pos z0] at m2
      exact ⟨_, _, _, c2, EqC_rf, m2, EqM_rf, CI2_up hC'⟩
    rw [if_neg z0] at c2 m2
    by_cases z1 : a2 = 1
    · rw [if_pos z1, b_I] at c2
      rw [if_pos z1] at m2
      exact ⟨_, _, _, c2, EqC_rf, m2, EqM_rf, CI2_up hC'⟩
    rw [if_neg z1] at c2 m2
    by_cases z2 : a2 = 2
    · rw [if_pos z2, b_I] at c2
      rw [if_pos z2] at m2
      exact ⟨_, _, _, c2, EqC_rf, m2, EqM_rf, CI2_up hC'⟩
    rw [if_neg z2] at c2 m2
    by_cases z3 : a2 = 3
    · rw [if_pos z3] at c2 m2
      obtain ⟨h1, h2, h3, h4⟩ := ac8 k g.2
      obtain ⟨r, hr⟩ := Int.eq_ofNat_of_zero_le h1
      rw [hr] at h2
      rw [E118 (by omega), b118_0, bnd (by omega), tn, hr, q_ruleAt1 (by omega) r h2 (by omega), b_R1, bnd (by omega)] at c2
      rw [hr, n1] at m2
      obtain ⟨b, Sm', i1, i2, x2⟩ := held_both (d := d - 1 - 1 - 1) (d' := d - 1) hT hW hK hR h2 (uF r h2).2.2.2.1 (gD Sc 44 0 k) (gD Sc 2 0 9) (by omega) (by omega) (by omega)
      rw [i1, b_I] at c2
      rw [i2, b_I] at m2
      have x1 : EqX [] [] Sc Sc := EqX_rf
      have fin : CI2 (i + 1) Sc Sm' := ⟨IN_fr (AgX x1 rfl) (AgX x2 rfl) hN, IT_fr (AgX x1 rfl) (AgX x2 rfl) hT, IS_up (IS_fr (AgX x1 rfl) (AgX x2 rfl) hS), IW_fr (AgX x1 rfl) (AgX x2 rfl) hW, IC_fr (AgX x1 rfl) (AgX x2 rfl) hK, IO_fr (AgX x1 rfl) (AgX x2 rfl) hO, IX_up (IX_fr (AgX x1 rfl) (AgX x2 rfl) hX), IP_fr (AgX x1 rfl) (AgX x2 rfl) hP, IR_fr (AgX x1 rfl) (AgX x2 rfl) hR, IF_fr (AgX x1 rfl) (AgX x2 rfl) hF, IA_fr (AgX x1 rfl) (AgX x2 rfl) hA, IH_fr (AgX x1 rfl) (AgX x2 rfl) hH, IQ_fr (AgX x1 rfl) (AgX x2 rfl) hQ, IG_fr (AgX x1 rfl) (AgX x2 rfl) hG⟩
      cases b with
      | true =>
        rw [if_neg (by decide), b_I, if_neg (by decide), b_I] at c2
        rw [if_neg (by decide)] at m2
        exact ⟨1, _, _, c2, EqC_of x1 rfl, m2, EqM_of x2 rfl, fin⟩
      | false =>
        rw [if_pos (by decide), b_I, if_pos rfl, b_I] at c2
        rw [if_pos (by decide)] at m2
        exact ⟨0, _, _, c2, EqC_of x1 rfl, m2, EqM_of x2 rfl, fin⟩
    rw [if_neg z3] at c2 m2
    by_cases z4 : a2 = 4
    · rw [if_pos z4, b_I] at c2
      rw [if_pos z4] at m2
      exact ⟨_, _, _, c2, EqC_rf, m2, EqM_rf, CI2_up hC'⟩
    rw [if_neg z4, b_I] at c2
    rw [if_neg z4] at m2
    exact ⟨-2, _, _, c2, EqC_rf, m2, EqM_rf, CI2_up hC'⟩
  · rw [q_M_in0 (by omega) _ _ _ (by omega), b_I, if_pos rfl] at m2
    have c3 : EE false d 165 [vr (some (2, 0)), vi a1, vi a2] Sc = some (vi (-2), Sc) := by
      rw [c2]
      by_cases h0 : a1 < 0
      · rw [if_pos h0, b_I]
      · rw [if_neg h0, if_neg (by omega), b_I]
    exact ⟨-2, _, _, c3, EqC_rf, m2, EqM_rf, CI2_up hC'⟩
end
