/-! tick -/
section
variable {d : Nat}
abbrev LC4 : List (Nat × Nat) := [(35, 5), (31, 3), (41, 9), (47, 18)]
abbrev MA4 : List Nat := [142, 143, 144, 145, 146, 140, 141, 138, 135, 136, 137, 134, 118]
abbrev MC4 : List (Nat × Nat) := [(85, 72), (85, 73), (85, 64), (85, 61)]
def CJ (i b : Nat) (Sc Sm : SD) : Prop := IN Sc Sm ∧ IT Sc Sm ∧ IS i Sc Sm ∧ IW Sc Sm ∧ IC Sc Sm ∧ IO Sc Sm ∧ IX b Sc Sm ∧ IP Sc Sm ∧ IR Sc Sm ∧ IF Sc Sm ∧ IA Sc Sm ∧ IH Sc Sm ∧ IQ Sc Sm ∧ IG Sc Sm
theorem CJ_mk {i b b' : Nat} {Sc Sc' Sm Sm' : SD} (x1 : EqX LA2 LC4 Sc Sc') (x2 : EqX MA4 MC4 Sm Sm') (hC : CJ i b Sc Sm) (hO' : IO Sc' Sm') (hX' : IX b' Sc' Sm') (hF' : IF Sc' Sm') (hA' : IA Sc' Sm') : CJ i b' Sc' Sm' := by
  obtain ⟨hN, hT, hS, hW, hK, hO, hX, hP, hR, hF, hA, hH, hQ, hG⟩ := hC
  exact ⟨IN_fr (AgX x1 rfl) (AgX x2 rfl) hN, IT_fr (AgX x1 rfl) (AgX x2 rfl) hT, IS_fr (AgX x1 rfl) (AgX x2 rfl) hS, IW_fr (AgX x1 rfl) (AgX x2 rfl) hW, IC_fr (AgX x1 rfl) (AgX x2 rfl) hK, hO', hX', IP_fr (AgX x1 rfl) (AgX x2 rfl) hP, IR_fr (AgX x1 rfl) (AgX x2 rfl) hR, hF', hA', IH_fr (AgX x1 rfl) (AgX x2 rfl) hH, IQ_fr (AgX x1 rfl) (AgX x2 rfl) hQ, IG_fr (AgX x1 rfl) (AgX x2 rfl) hG⟩
theorem IF_w {Sc Sm : SD} {j : Nat} {v : Int} (hF : IF Sc Sm) (hj : (j : Int) < (gD Sc 41 0 8)) (hv : v = 0 ∨ v = 1) (hz : (gD Sc 47 j 17) = 0 → v = 0) : IF (wD Sc 47 j 18 v) (wD Sm 118 0 j v) := by
  unfold IF at *
  intro r hr
  have hr : (r : Int) < (gD Sc 41 0 8) := by
    simp (disch := decide) only [g_f] at hr
    exact hr
  obtain ⟨f1, f2, f3, f4, f5, f6, f7, f8, f9, f10, f11⟩ := hF r hr
  simp (disch := decide) only [g_f, g_k, g_J, g_i]
  refine ⟨f1, f2, f3, f4, f5, f6, f7, ?_, f9, ?_, ?_⟩
  · rw [f8]
  · by_cases e : r = j
    · rw [if_pos e]; exact hv
    · rw [if_neg e]; exact f10
  · by_cases e : r = j
    · rw [if_pos e]; subst e; exact hz
    · rw [if_neg e]; exact f11
theorem IF_w0 {Sc Sm : SD} {j : Nat} (hF : IF Sc Sm) (hj : (j : Int) < (gD Sc 41 0 8)) (hz : (gD Sc 47 j 17) = 0) : IF (wD Sc 47 j 18 0) Sm := by
  unfold IF at *
  intro r hr
  have hr : (r : Int) < (gD Sc 41 0 8) := by
    simp (disch := decide) only [g_f] at hr
    exact hr
  obtain ⟨f1, f2, f3, f4, f5, f6, f7, f8, f9, f10, f11⟩ := hF r hr
  simp (disch := decide) only [g_f, g_k, g_J, g_i]
  refine ⟨f1, f2, f3, f4, f5, f6, f7, ?_, f9, ?_, ?_⟩
  · by_cases e : r = j
    · rw [if_pos e]; subst e; rw [f8]; exact f11 hz
    · rw [if_neg e]; exact f8
  · by_cases e : r = j
    · rw [if_pos e]; exact Or.inl rfl
    · rw [if_neg e]; exact f10
  · by_cases e : r = j
    · rw [if_pos e]; exact fun _ => rfl
    · rw [if_neg e]; exact f11
theorem w_look {d' i R : Nat} (hd : 6 ≤ d) (hd' : 6 ≤ d') (hR20 : R ≤ 20) : ∀ (n j b : Nat) (c now : Int) (Sc Sm : SD), CJ i b Sc Sm → b + (R - j) ≤ 100000 → j ≤ R → R - j < n → (gD Sc 41 0 8) = (R : Int) → (gD Sc 2 0 9) = now → ∃ v Sc' Sm', run oo (EE false d) false mi_111 n 4 [(0, vr (some (41, 0))), (1, vi now), (2, vi c), (3, vi (j : Int))] [] Sc = some (vi v, Sc') ∧ run oo (EE false d') false mi_259 n 26 [(0, vr (some (85, 0))), (1, vi c), (2, vi (j : Int))] [] Sm = some (vi v, Sm') ∧ EqX LA2 LC4 Sc Sc' ∧ EqX MA4 MC4 Sm Sm' ∧ CJ i (b + (R - j)) Sc' Sm' := by
  intro n
  induction n with
  | zero => intro j b c now Sc Sm z1 z2 z3 z4; omega
  | succ n ih =>
    intro j b c now Sc Sm hC z2 z3 z4 hRs hnow
    have hC' := hC
    obtain ⟨hN, hT, hS, hW, hK, hO, hX, hP, hR, hF, hA, hH, hQ, hG⟩ := hC
    have uR := hR; unfold IR at uR
    obtain ⟨r1, r2, r3, r4, r5⟩ := uR
    have uN := hN; unfold IN at uN
    obtain ⟨n1, n2, n3⟩ := uN
    rw [b111_4, b259_26, hRs, r1, hRs]
    by_cases hj : j < R
    · have hjs : (j : Int) < (gD Sc 41 0 8) := by omega
      have uF := hF; unfold IF at uF
      obtain ⟨f1, f2, f3, f4, f5, f6, f7, f8, f9, f10, f11⟩ := uF j hjs
      have bj : (0 ≤ (j : Int) ∧ (j : Int) < 20) = True := eq_true (by omega)
      rw [if_pos (by omega), if_pos (by omega), q_ruleAt1 (by omega) j hjs (by omega), b_R1]
      simp only [bj, if_true, tn, f7, awp (show j < 1000000 by omega), n1, hnow]
      have nx : ∀ (k : Nat) (c' : Int) (S1 T1 : SD), k ≤ 1 → EqX LA2 LC4 Sc S1 → EqX MA4 MC4 Sm T1 → CJ i (b + k) S1 T1 → ∃ v Sc' Sm', run oo (EE false d) false mi_111 n 4 [(0, vr (some (41, 0))), (1, vi now), (2, vi c'), (3, vi ((j + 1 : Nat) : Int))] [] S1 = some (vi v, Sc') ∧ run oo (EE false d') false mi_259 n 26 [(0, vr (some (85, 0))), (1, vi c'), (2, vi ((j + 1 : Nat) : Int))] [] T1 = some (vi v, Sm') ∧ EqX LA2 LC4 Sc Sc' ∧ EqX MA4 MC4 Sm Sm' ∧ CJ i (b + (R - j)) Sc' Sm' := by
        intro k c' S1 T1 hk x1 x2 h
        obtain ⟨v, Sc', Sm', i1, i2, i3, i4, i5⟩ := ih (j + 1) (b + k) c' now S1 T1 h (by omega) (by omega) (by omega) ((EqX_c x1 41 8 rfl 0).trans hRs) ((EqX_c x1 2 9 rfl 0).trans hnow)
        refine ⟨v, Sc', Sm', i1, i2, EqX_tr x1 i3, EqX_tr x2 i4, ?_⟩
        obtain ⟨g1, g2, g3, g4, g5, g6, g7, g8⟩ := i5
        exact ⟨g1, g2, g3, g4, g5, g6, IX_mo g7 (by omega), g8⟩
      by_cases q : (gD Sc 47 j 17) = 0
      · rw [if_pos q, if_pos q]
        have x1 : EqX [] [(47, 18)] Sc (wD Sc 47 j 18 0) := EqX_wC EqX_rf (by decide)
        have x1' : EqX LA2 LC4 Sc (wD Sc 47 j 18 0) := EqX_wC EqX_rf (by decide)
        have x0 : EqX [] [] Sm Sm := EqX_rf
        exact nx 0 c _ _ (by omega) x1' EqX_rf (CJ_mk x1' EqX_rf hC' (IO_fr (AgX x1 rfl) (AgX x0 rfl) hO) (IX_fr (AgX x1 rfl) (AgX x0 rfl) hX) (IF_w0 hF hjs q) (IA_fr (AgX x1 rfl) (AgX x0 rfl) hA))
      · rw [if_neg q, if_neg q]
        obtain ⟨h, T0, i1, i2, x2⟩ := held_both (d := d) (d' := d') hT hW hK hR hjs f4 now now (by omega) (by omega) (by omega)
        have x0 : EqX [] [] Sc Sc := EqX_rf
        have x2' : EqX MA4 MC4 Sm T0 := EqX_mo x2 (by decide) (by decide)
        have hF0 := IF_fr (AgX x0 rfl) (AgX x2 rfl) hF
        have hO0 := IO_fr (AgX x0 rfl) (AgX x2 rfl) hO
        have hX0 := IX_fr (AgX x0 rfl) (AgX x2 rfl) hX
        have hA0 := IA_fr (AgX x0 rfl) (AgX x2 rfl) hA
        have wr : ∀ (k : Nat) (c' v : Int) (S1 T1 : SD), k ≤ 1 → (v = 0 ∨ v = 1) → EqX LA2 LC4 Sc S1 → EqX MA4 MC4 Sm T1 → IO S1 T1 → IX (b + k) S1 T1 → IF S1 T1 → IA S1 T1 → ∃ v' Sc' Sm', run oo (EE false d) false mi_111 n 4 [(0, vr (some (41, 0))), (1, vi now), (2, vi c'), (3, vi ((j + 1 : Nat) : Int))] [] (wD S1 47 j 18 v) = some (vi v', Sc') ∧ run oo (EE false d') false mi_259 n 26 [(0, vr (some (85, 0))), (1, vi c'), (2, vi ((j + 1 : Nat) : Int))] [] (wD T1 118 0 j v) = some (vi v', Sm') ∧ EqX LA2 LC4 Sc Sc' ∧ EqX MA4 MC4 Sm Sm' ∧ CJ i (b + (R - j)) Sc' Sm' := by
          intro k c' v S1 T1 hk hv x1 x2 g1 g2 g3 g4
          have y1 : EqX [] [(47, 18)] S1 (wD S1 47 j 18 v) := EqX_wC EqX_rf (by decide)
          have y2 : EqX [118] [] T1 (wD T1 118 0 j v) := EqX_wA EqX_rf (by decide)
          have z1 : EqX LA2 LC4 Sc (wD S1 47 j 18 v) := EqX_wC x1 (by decide)
          have z2 : EqX MA4 MC4 Sm (wD T1 118 0 j v) := EqX_wA x2 (by decide)
          exact nx k c' _ _ hk z1 z2 (CJ_mk z1 z2 hC' (IO_fr (AgX y1 rfl) (AgX y2 rfl) g1) (IX_fr (AgX y1 rfl) (AgX y2 rfl) g2) (IF_w g3 (by rw [EqX_c x1 41 8 rfl]; exact hjs) hv (fun z => absurd ((EqX_c x1 47 17 rfl j).symm.trans z) q)) (IA_fr (AgX y1 rfl) (AgX y2 rfl) g4))
        cases h with
        | false =>
          have i1 : EE false d 114 [vr (some (41, 0)), vr (some (47, j)), vi now, vi now] Sc = some (vi 0, Sc) := i1
          have i2 : EE false d' 255 [vr (some (85, 0)), vi (j : Int), vi now, vi now] Sm = some (vi 0, T0) := i2
          rw [i1, i2, b_I, b_I]
          simp only [eq_self, true_or, if_true]
          exact wr 0 c 0 Sc T0 (by omega) (Or.inl rfl) EqX_rf x2' hO0 hX0 hF0 hA0
        | true =>
          have i1 : EE false d 114 [vr (some (41, 0)), vr (some (47, j)), vi now, vi now] Sc = some (vi 1, Sc) := i1
          have i2 : EE false d' 255 [vr (some (85, 0)), vi (j : Int), vi now, vi now] Sm = some (vi 1, T0) := i2
          rw [i1, i2, b_I, b_I]
          simp only [e10, eq_self, or_true, if_false, if_true, EqX_a x2 118 rfl, f8]
          by_cases q2 : (gD Sc 47 j 18) = 0
          · rw [if_pos q2, if_pos q2]
            obtain ⟨S1, T1, k1, k2, k3, k4, k5, k6, k7⟩ := act_both (d := d) (d' := d') (i := i) (b := b) (Sm := T0) (IN_fr (AgX x0 rfl) (AgX x2 rfl) hN) (IT_fr (AgX x0 rfl) (AgX x2 rfl) hT) (IW_fr (AgX x0 rfl) (AgX x2 rfl) hW) (IC_fr (AgX x0 rfl) (AgX x2 rfl) hK) hO0 hX0 (by omega) (IR_fr (AgX x0 rfl) (AgX x2 rfl) hR) hF0 hA0 hjs (by omega) (by omega)
            rw [hnow] at k1
            rw [k1, k2, b_V, b_V]
            exact wr 1 _ 1 S1 T1 (by omega) (Or.inr rfl) (EqX_mo k3 (by decide) (by decide)) (EqX_tr x2' (EqX_mo k4 (by decide) (by decide))) k5 k6 (IF_fr (AgX k3 rfl) (AgX k4 rfl) hF0) k7
          · rw [if_neg q2, if_neg q2]
            exact wr 0 c 1 Sc T0 (by omega) (Or.inr rfl) EqX_rf x2' hO0 hX0 hF0 hA0
    · have e : j = R := by omega
      subst e
      rw [if_neg (by omega), if_neg (by omega)]
      exact ⟨c, Sc, Sm, rfl, rfl, EqX_rf, EqX_rf, by rw [Nat.sub_self]; exact hC'⟩
theorem CJ_now {i b : Nat} {now : Int} {Sc Sm : SD} (hC : CJ i b Sc Sm) (h1 : (gD Sc 2 0 9) ≤ now) (h2 : now ≤ 3999) : CJ i b (wD Sc 2 0 9 now) (wD Sm 85 0 0 now) := by
  obtain ⟨hN, hT, hS, hW, hK, hO, hX, hP, hR, hF, hA, hH, hQ, hG⟩ := hC
  have x1 : EqX [] [(2, 9)] Sc (wD Sc 2 0 9 now) := EqX_wC EqX_rf (by decide)
  have x2 : EqX [] [(85, 0)] Sm (wD Sm 85 0 0 now) := EqX_wC EqX_rf (by decide)
  refine ⟨?_, IT_fr (AgX x1 rfl) (AgX x2 rfl) hT, IS_fr (AgX x1 rfl) (AgX x2 rfl) hS, ?_, IC_fr (AgX x1 rfl) (AgX x2 rfl) hK, IO_fr (AgX x1 rfl) (AgX x2 rfl) hO, IX_fr (AgX x1 rfl) (AgX x2 rfl) hX, IP_fr (AgX x1 rfl) (AgX x2 rfl) hP, IR_fr (AgX x1 rfl) (AgX x2 rfl) hR, ?_, ?_, IH_fr (AgX x1 rfl) (AgX x2 rfl) hH, IQ_fr (AgX x1 rfl) (AgX x2 rfl) hQ, IG_fr (AgX x1 rfl) (AgX x2 rfl) hG⟩
  · unfold IN at *
    simp only [g_e]
    exact ⟨trivial, by omega, h2⟩
  · unfold IW at *
    obtain ⟨w1, w2, w3, w4, w5, w6, w7, w8, w9, w10, w11, w12, w13, w14, w15, w16⟩ := hW
    simp (disch := decide) only [g_f, g_k, g_e]
    refine ⟨w1, w2, w3, w4, w5, w6, w7, w8, w9, w10, w11, w12, w13, w14, fun k hk => ?_, w16⟩
    obtain ⟨a1, a2, a3, a4, a5, a6, a7⟩ := w15 k hk
    exact ⟨a1, a2, a3, a4, a5, by omega, a7⟩
  · unfold IF at *
    simp (disch := decide) only [g_f, g_k, g_e]
    intro r hr
    obtain ⟨f1, f2, f3, f4, f5, f6, f7⟩ := hF r hr
    exact ⟨f1, f2, f3, f4, f5, by omega, f7⟩
  · unfold IA at *
    simp (disch := decide) only [g_f, g_k, g_e]
    obtain ⟨a1, a2, a3, a4, a5, a6, a7, a8⟩ := hA
    refine ⟨a1, a2, a3, a4, a5, a6, a7, fun k hk => ?_⟩
    obtain ⟨q1, q2, q3, q4⟩ := a8 k hk
    exact ⟨q1, q2, q3, by omega⟩
theorem o_tick (hd : 12 ≤ d) : PI2 d CI2 151 259 vi [] := by
  intro i Sc Sm hi' hC
  have hC' := hC
  have hCJ : CJ i (21 * i) Sc Sm := hC
  obtain ⟨hN, hT, hS, hW, hK, hO, hX, hP, hR, hF, hA, hH, hQ, hG⟩ := hC
  have uN := hN; unfold IN at uN
  obtain ⟨n1, n2, n3⟩ := uN
  have uR := hR; unfold IR at uR
  obtain ⟨r1, r2, r3, r4, r5⟩ := uR
  have c2 := (E151 (d := d) (by omega) Sc).trans (b151_0 oo (EE false (d - 1)) 999999 Sc)
  have m2 := (E259 (d := d) (by omega) Sm).trans (b259_0 oo (EE false (d - 1)) 999999 Sm)
  rw [n1] at m2
  by_cases h : (gD Sc 2 0 9) < 3999
  · rw [if_pos h, g_e, aw0 (by omega)] at c2
    rw [if_neg (by omega), aw0 (by omega)] at m2
    obtain ⟨R, hRs⟩ := Int.eq_ofNat_of_zero_le r2
    have x1 : EqX [] [(2, 9)] Sc (wD Sc 2 0 9 ((gD Sc 2 0 9) + 1)) := EqX_wC EqX_rf (by decide)
    have x2 : EqX [] [(85, 0)] Sm (wD Sm 85 0 0 ((gD Sc 2 0 9) + 1)) := EqX_wC EqX_rf (by decide)
    obtain ⟨v, Sc', Sm', i1, i2, i3, i4, i5⟩ := w_look (d := d - 1 - 1) (d' := d - 1) (R := R) (by omega) (by omega) (by omega) 999999 0 (21 * i) 0 ((gD Sc 2 0 9) + 1) _ _ (CJ_now hCJ (show (gD Sc 2 0 9) ≤ (gD Sc 2 0 9) + 1 by omega) (by omega)) (by omega) (by omega) (by omega) ((EqX_c x1 41 8 rfl 0).trans hRs) g_e
    have c3 := (E111 (d := d - 1) (by omega) (wD Sc 2 0 9 ((gD Sc 2 0 9) + 1)) ((gD Sc 2 0 9) + 1)).trans ((b111_0 oo (EE false (d - 1 - 1)) 999999 (wD Sc 2 0 9 ((gD Sc 2 0 9) + 1)) ((gD Sc 2 0 9) + 1)).trans i1)
    rw [c3, b_I] at c2
    have m3 := m2.trans i2
    have y1 : EqX LA2 ((2, 9) :: LC4) Sc Sc' := EqX_tr (EqX_mo x1 (by decide) (by decide)) (EqX_mo i3 (by decide) (by decide))
    have y2 : EqX MA4 ((85, 0) :: MC4) Sm Sm' := EqX_tr (EqX_mo x2 (by decide) (by decide)) (EqX_mo i4 (by decide) (by decide))
    refine ⟨v, Sc', Sm', c2, EqC_of y1 rfl, m3, EqM_of y2 rfl, ?_⟩
    obtain ⟨g1, g2, g3, g4, g5, g6, g7, g8⟩ := i5
    exact ⟨g1, g2, IS_up g3, g4, g5, g6, IX_mo g7 (by omega), g8⟩
  · rw [if_neg h] at c2
    rw [if_pos (by omega)] at m2
    exact ⟨-1, Sc, Sm, c2, EqC_rf, m2, EqM_rf, CI2_up hC'⟩
end
