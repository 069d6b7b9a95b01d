/-! pulls -/
section
variable {d : Nat}
theorem FIN_ok {i : Nat} {Sc Sm Sc' Sm' : SD} {A C A' C'} (hC : CI2 i Sc Sm) (x1 : EqX A C Sc Sc') (x2 : EqX A' C' Sm Sm') (hA : A = PCA2 ∧ C = PCC) (hA' : A' = PMA2 ∧ C' = PMC2) (hH' : IH Sc' Sm') (h0 : (gD Sm' 85 0 63) = 0) : EqC Sc Sc' ∧ EqM Sm Sm' ∧ CI2 (i + 1) Sc' Sm' := by
  obtain ⟨rfl, rfl⟩ := hA
  obtain ⟨rfl, rfl⟩ := hA'
  obtain ⟨hN, hT, hS, hW, hK, hO, hX, hP, hR, hF, hA, hH, hQ, hG⟩ := hC
  exact ⟨EqC_of x1 rfl, EqM_of x2 rfl, ⟨IN_fr (AgX x1 rfl) (AgX x2 rfl) hN, IT_fr (AgX x1 rfl) (AgX x2 rfl) hT, IS_up (IS_fr (AgX x1 rfl) (AgX x2 rfl) hS), IW_fr (AgX x1 rfl) (AgX x2 rfl) hW, IC_fr (AgX x1 rfl) (AgX x2 rfl) hK, IO_fr (AgX x1 rfl) (AgX x2 rfl) hO, IX_up (IX_fr (AgX x1 rfl) (AgX x2 rfl) hX), IP_fr (AgX x1 rfl) (AgX x2 rfl) hP, IR_tr x1 x2 rfl rfl rfl rfl rfl rfl rfl rfl hR h0, IF_fr (AgX x1 rfl) (AgX x2 rfl) hF, IA_fr (AgX x1 rfl) (AgX x2 rfl) hA, hH', IQ_fr (AgX x1 rfl) (AgX x2 rfl) hQ, IG_fr (AgX x1 rfl) (AgX x2 rfl) hG⟩⟩
theorem o_pulls (hd : 12 ≤ d) (a1 a2 : Int) : PI2 d CI2 173 280 vi [vi a1, vi a2] := by
  intro i Sc Sm hi' hC
  have hC' := hC
  obtain ⟨hN, hT, hS, hW, hK, hO, hX, hP, hR, hF, hA, hH, hQ, hG⟩ := hC
  have uR := hR; unfold IR at uR
  obtain ⟨r1, r2, r3, r4, r5⟩ := uR
  have uH := hH; unfold IH at uH
  obtain ⟨u1, u2, u3, u4, u5, u6, u7, u8, u9⟩ := uH
  have c2 := (E173 (d := d) (by omega) Sc a1 a2).trans (b173_0 oo (EE false (d - 1)) 999999 Sc a1 a2)
  have m2 := (E280 (d := d) (by omega) Sm a1 a2).trans (b280_0 oo (EE false (d - 1)) 999999 Sm a1 a2)
  have c3 := (E1 (d := d - 1) (by omega) Sc a1 a2).trans (b1_0 oo (EE false (d - 1 - 1)) 999999 Sc a1 a2)
  rw [q_M_isRule (by omega), b_I, r1] at m2
  have neg : EE false (d - 1) 1 [vr (some (55, 0)), vi a1, vi a2] Sc = some (vi (-1), Sc) → EE false d 280 [vr (some (85, 0)), vi a1, vi a2] Sm = some (vi (-1), Sm) → ∃ (x : Int) (Sc' Sm' : SD), EE false d 173 (vr (some (2, 0)) :: [vi a1, vi a2]) Sc = some (vi x, Sc') ∧ EqC Sc Sc' ∧ EE false d 280 (vr (some (85, 0)) :: [vi a1, vi a2]) Sm = some (vi x, Sm') ∧ EqM Sm Sm' ∧ CI2 (i + 1) Sc' Sm' := fun q1 q2 => by
    rw [q1, b_I] at c2
    exact ⟨-1, Sc, Sm, c2, EqC_rf, q2, EqM_rf, CI2_up hC'⟩
  by_cases g1 : 0 ≤ a1 ∧ a1 < (gD Sc 41 0 8)
  · obtain ⟨a, rfl⟩ := Int.eq_ofNat_of_zero_le g1.1
    rw [q_ruleAt1 (by omega) a g1.2 (by omega), b_R1] at c3
    rw [if_pos g1, if_neg (by decide), q_M_isRule (by omega), b_I, r1] at m2
    by_cases g2 : 0 ≤ a2 ∧ a2 < (gD Sc 41 0 8)
    · obtain ⟨b, rfl⟩ := Int.eq_ofNat_of_zero_le g2.1
      rw [q_ruleAt1 (by omega) b g2.2 (by omega), b_R1] at c3
      rw [if_pos g2, if_neg (by decide)] at m2
      by_cases e : (a : Int) = (b : Int)
      · rw [if_pos e] at c3 m2
        exact neg c3 m2
      · rw [if_neg e] at c3 m2
        obtain ⟨ha1, ha2, ha3⟩ := r5 a g1.2
        obtain ⟨hb1, hb2, hb3⟩ := r5 b g2.2
        have ha20 : a < 20 := by omega
        have hb20 : b < 20 := by omega
        obtain ⟨pa, pa1, pa2, pa3⟩ := plain_both ha1 ha3 ha20
        obtain ⟨pb, pb1, pb2, pb3⟩ := plain_both hb1 hb3 hb20
        rw [pa1 _ (by omega), b_I] at c3
        rw [pa2 _ (by omega), b_I] at m2
        cases hpa : pa with
        | false =>
          rw [hpa, if_pos (by decide)] at c3 m2
          exact neg c3 m2
        | true =>
          rw [hpa, if_neg (by decide), pb1 _ (by omega), b_I] at c3
          rw [hpa, if_neg (by decide), pb2 _ (by omega), b_I] at m2
          cases hpb : pb with
          | false =>
            rw [hpb, if_pos (by decide)] at c3 m2
            exact neg c3 m2
          | true =>
            rw [hpb, if_neg (by decide)] at c3 m2
            have la := pa3.mp hpa
            have lb := pb3.mp hpb
            unfold RR3 at ha3 hb3
            obtain ⟨_, _, _, _, l5, l6, l7, l8, l9⟩ := ha3
            obtain ⟨_, _, _, _, k5, k6, k7, k8, k9⟩ := hb3
            have l9 := l9.elim id (fun q => absurd q.2.1 la.1)
            have k9 := k9.elim id (fun q => absurd q.2.1 lb.1)
            obtain ⟨ta, hta⟩ := Int.eq_ofNat_of_zero_le l6
            obtain ⟨fa, hfa⟩ := Int.eq_ofNat_of_zero_le l9.2.2.1
            obtain ⟨tb, htb⟩ := Int.eq_ofNat_of_zero_le k6
            obtain ⟨fb, hfb⟩ := Int.eq_ofNat_of_zero_le k9.2.2.1
            have hT' := hT
            unfold IT at hT'
            obtain ⟨t1, t2, t3, _⟩ := hT'
            rw [q_actCell (by omega) a ta fa hta hfa (by omega) (by omega), b_I, q_actCell (by omega) b tb fb htb hfb (by omega) (by omega), b_I] at c3
            have ba : (0 ≤ (a : Int) ∧ (a : Int) < 20) = True := eq_true (by omega)
            have bb : (0 ≤ (b : Int) ∧ (b : Int) < 20) = True := eq_true (by omega)
            have z1 : (gD Sm 120 0 a) = (ta : Int) := l5.trans hta
            have z2 : (gD Sm 120 0 b) = (tb : Int) := k5.trans htb
            have z3 : (gD Sm 121 0 a) = (fa : Int) := l9.2.1.trans hfa
            have z4 : (gD Sm 121 0 b) = (fb : Int) := k9.2.1.trans hfb
            simp only [ba, bb, if_true, tn, z1, z2, z3, z4, l8, k8, q_M_less _ (show 1 ≤ d - 1 by omega), q_M_more _ (show 1 ≤ d - 1 by omega), b_I] at m2
            -- no quarrel: nothing to show
            have nq : EE false (d - 1) 1 [vr (some (55, 0)), vi (a : Int), vi (b : Int)] Sc = bV (EE false (d - 1 - 1) 3 [vr (some (55, 0))] Sc) (fun S19 => run oo (EE false (d - 1 - 1)) false mi_1 999999 134 [(0, vr (some (55, 0))), (3, vr (some (47, a))), (4, vr (some (47, b))), (6, vi 0), (7, vi 0)] [] (wD S19 55 0 8 (gD S19 62 0 7))) → EE false d 280 [vr (some (85, 0)), vi (a : Int), vi (b : Int)] Sm = some (vi 0, wD (wD (wD (wD (wD Sm 85 0 90 2) 156 0 0 (min (a : Int) (b : Int))) 156 0 1 (max (a : Int) (b : Int))) 85 0 96 0) 85 0 92 0) → ∃ (x : Int) (Sc' Sm' : SD), EE false d 173 (vr (some (2, 0)) :: [vi (a : Int), vi (b : Int)]) Sc = some (vi x, Sc') ∧ EqC Sc Sc' ∧ EE false d 280 (vr (some (85, 0)) :: [vi (a : Int), vi (b : Int)]) Sm = some (vi x, Sm') ∧ EqM Sm Sm' ∧ CI2 (i + 1) Sc' Sm' := fun q1 q2 => by
              rw [E3 (by omega), b3_0, b_V, show (999999 : Nat) = 999998 + 1 from rfl, b1_134, if_neg (by decide)] at q1
              rw [q1, b_I] at c2
              have x1 : EqX PCA2 PCC Sc (resS c2) := by unfold resS; repeat (first | exact EqX_rf | refine EqX_wA ?_ (by decide) | refine EqX_wC ?_ (by decide))
              have x2 : EqX PMA2 PMC2 Sm (resS q2) := by unfold resS; repeat (first | exact EqX_rf | refine EqX_wA ?_ (by decide) | refine EqX_wC ?_ (by decide))
              have hH2 : IH (resS c2) (resS q2) := by
                unfold IH
                simp (disch := decide) only [g_f, g_k, g_e, u9]
                exact ⟨trivial, by omega, by omega, trivial, by omega, by omega, fun k hk => absurd hk (by omega), fun k hk => absurd hk (by omega), trivial⟩
              have h0 : gD (resS q2) 85 0 63 = 0 := by
                simp (disch := decide) only [g_f, g_k]
                exact r4
              obtain ⟨f1, f2, f3⟩ := FIN_ok hC' x1 x2 ⟨rfl, rfl⟩ ⟨rfl, rfl⟩ hH2 h0
              exact ⟨0, _, _, c2, f1, q2, f2, f3⟩
            by_cases hcel : ta = tb ∧ fa = fb
            · rw [if_pos (by omega)] at c3
              rw [if_pos (by omega), if_pos (by omega)] at m2
              by_cases hnum : (gD Sc 47 a 14) = (gD Sc 47 b 14)
              · rw [if_pos hnum] at c3 m2
                exact nq c3 m2
              · rw [if_neg hnum] at c3 m2
                have eN : min (a : Int) (b : Int) = ((min a b : Nat) : Int) := by omega
                have eX : max (a : Int) (b : Int) = ((max a b : Nat) : Int) := by omega
                rw [eN, eX] at m2
                have y1 : EqX PMA PMC Sm (wD (wD (wD Sm 85 0 90 2) 156 0 0 ((min a b : Nat) : Int)) 156 0 1 ((max a b : Nat) : Int)) := EqX_wA (EqX_wA (EqX_wC EqX_rf (by decide)) (by decide)) (by decide)
                have hT1 := IT_fr AgA_rf (AgX y1 rfl) hT
                have hD := DAT_of (mem := fun r => decide (r = a) || decide (r = b)) (L := 2) (lk := fun l => if l = 0 then min a b else max a b) hT1 (fun r hr hm => by
                  have hm := (Bool.or_eq_true _ _).mp hm
                  rcases hm with hm | hm
                  · have := of_decide_eq_true hm
                    subst this
                    exact ⟨g1.2, RR1_fr AgA_rf (AgX y1 rfl) ha1, la⟩
                  · have := of_decide_eq_true hm
                    subst this
                    exact ⟨g2.2, RR1_fr AgA_rf (AgX y1 rfl) hb1, lb⟩) (by rw [g_f (by decide), g_f (by decide), g_e]; rfl) (by decide) (fun l hl => by
                  have hl2 : l = 0 ∨ l = 1 := by omega
                  rcases hl2 with rfl | rfl
                  · rw [g_i, if_neg (by decide), g_e]
                    refine ⟨rfl, by show min a b < 20; omega, ?_⟩
                    show (decide (min a b = a) || decide (min a b = b)) = true
                    by_cases q : a ≤ b
                    · rw [decide_eq_true (show min a b = a by omega)]; rfl
                    · rw [decide_eq_true (show min a b = b by omega), Bool.or_true]
                  · rw [g_e]
                    refine ⟨rfl, by show max a b < 20; omega, ?_⟩
                    show (decide (max a b = a) || decide (max a b = b)) = true
                    by_cases q : a ≤ b
                    · rw [decide_eq_true (show max a b = b by omega), Bool.or_true]
                    · rw [decide_eq_true (show max a b = a by omega)]; rfl) (fun l m hl hm => by
                  have e1 : l = 0 := by omega
                  have e2 : m = 1 := by omega
                  subst e1 e2
                  show min a b < max a b
                  omega) (fun r hr hm => by
                  have hm := (Bool.or_eq_true _ _).mp hm
                  have hm2 : r = a ∨ r = b := hm.elim (fun q => Or.inl (of_decide_eq_true q)) (fun q => Or.inr (of_decide_eq_true q))
                  by_cases q : r = min a b
                  · exact ⟨0, by omega, q.symm⟩
                  · exact ⟨1, by omega, by show max a b = r; omega⟩)
                generalize hDD : mkD (fun r => decide (r = a) || decide (r = b)) Sc 2 (fun l => if l = 0 then min a b else max a b) = D at hD
                have hmm : ∀ r, dm D r = (decide (r = a) || decide (r = b)) := fun r => by rw [← hDD]; rfl
                have hma : dm D a = true := by rw [hmm, decide_eq_true rfl]; rfl
                have hmb : dm D b = true := by rw [hmm, decide_eq_true rfl, Bool.or_true]
                have hbit : ∀ r, r < 20 → ti (ab oo 1 (ab oo 3 1 (a : Int)) (ab oo 3 1 (b : Int))) r = dm D r := fun r hr => by
                  rw [ti_ior, ti_shl a (by omega) r (by omega), ti_shl b (by omega) r (by omega), hmm]
                obtain ⟨S1, S2, v1, v2, v3, v4⟩ := q_gather (d := d - 1 - 1) (by omega) hT1 hD hbit u9
                obtain ⟨M2, w1, w2, w3⟩ := q_gathers (d := d - 1) (by omega) hD t2
                rw [v1, b_I] at c3
                rw [w1, b_I] at m2
                have y2 : EqX PMA PMC Sm M2 := EqX_tr y1 (EqX_mo w2 (by decide) (by decide))
                have spent : ∀ M5, EqX PMA PMC Sm M5 → (gD M5 85 0 63) = 0 → EE false (d - 1) 1 [vr (some (55, 0)), vi (a : Int), vi (b : Int)] Sc = some (vi (-2), S2) → EE false d 280 [vr (some (85, 0)), vi (a : Int), vi (b : Int)] Sm = some (vi (-2), M5) → ∃ (x : Int) (Sc' Sm' : SD), EE false d 173 (vr (some (2, 0)) :: [vi (a : Int), vi (b : Int)]) Sc = some (vi x, Sc') ∧ EqC Sc Sc' ∧ EE false d 280 (vr (some (85, 0)) :: [vi (a : Int), vi (b : Int)]) Sm = some (vi x, Sm') ∧ EqM Sm Sm' ∧ CI2 (i + 1) Sc' Sm' := fun M5 xm h0 q1 q2 => by
                  rw [q1, b_I] at c2
                  obtain ⟨f1, f2, f3⟩ := FIN_ok hC' (EqX_mo v2 (by decide) (by decide) : EqX PCA2 PCC Sc S2) (EqX_mo xm (by decide) (by decide) : EqX PMA2 PMC2 Sm M5) ⟨rfl, rfl⟩ ⟨rfl, rfl⟩ (IH_tr v2 xm rfl rfl hH v3) h0
                  exact ⟨-2, S2, M5, c2, f1, q2, f2, f3⟩
                have tr2 : (gD M2 85 0 63) = 0 := by
                  rw [EqX_c w2 85 63 rfl 0, g_f (by decide), g_f (by decide), g_k (by decide)]
                  exact r4
                by_cases h12 : cnt (hcB D) 120 ≤ 12
                · rw [if_pos h12] at c3 m2
                  rw [if_neg (by decide)] at m2
                  have hG := GMd_of hD (w3 h12)
                  have hT2 := IT_fr AgA_rf (AgX y2 rfl) hT
                  have hD2 := DAT_fr AgA_rf (AgX w2 rfl) hD
                  obtain ⟨M3, s1, s2⟩ := q_rowsOf (d := d - 1) (by omega) hT2 hD2 hG h12
                  have y3 : EqX PMA PMC Sm M3 := EqX_tr y2 (EqX_mo s2.1 (by decide) (by decide))
                  have tr3 : (gD M3 85 0 63) = 0 := (EqX_c s2.1 85 63 rfl 0).trans tr2
                  rw [s1, b_I] at m2
                  by_cases hp : prN (DN D Sc) (cnt (hcB D) 120) ≤ 20000
                  · rw [if_pos hp] at c3
                    rw [if_neg (by omega), E3 (by omega), b3_0, b_V] at c3
                    rw [if_neg (by omega), Nat.min_eq_right (by omega)] at m2
                    obtain ⟨n1, n2⟩ := v4 h12 hp
                    have x3 : EqX PCA PCC Sc (wD (wD (wD S2 55 0 9 0) 55 0 10 0) 55 0 8 (gD (wD (wD S2 55 0 9 0) 55 0 10 0) 62 0 7)) := EqX_wC (EqX_wC (EqX_wC (EqX_mo v2 (by decide) (by decide)) (by decide)) (by decide)) (by decide)
                    have x4 : EqX [] [(55, 8), (55, 9), (55, 10)] S2 (wD (wD (wD S2 55 0 9 0) 55 0 10 0) 55 0 8 (gD (wD (wD S2 55 0 9 0) 55 0 10 0) 62 0 7)) := EqX_wC (EqX_wC (EqX_wC EqX_rf (by decide)) (by decide)) (by decide)
                    have hCS : CSt D Sc S2 := ⟨n1.1, n1.2.2, fun t ht => n2.2.1 t ht, fun t i ht hi => n2.2.2.1 t i ht hi⟩
                    have hMS : MSt D Sc M3 := ⟨GMd_fr s2.1 rfl rfl rfl rfl hG, s2.2⟩
                    obtain ⟨v, S9, M9, f1, f2, f3, f4, f5, f6⟩ := w_pull (d := d - 1 - 1) (d' := d - 1) hT ha1 ha2 hb1 hb2 ha20 hb20 hma hmb rfl h12 (by omega) (by omega) hp 999999 0 _ M3 (by omega) (by omega) x3 y3 (DAT_fr (AgX x3 rfl) (AgX s2.1 rfl) hD2) (CSt_fr (AgX x4 rfl) hCS) (fun c p q => by rw [EqX_a x4 64 rfl, n1.2.1 c p, q, if_pos rfl]) (fun t ht => by rw [EqX_a x4 67 rfl, n2.2.2.2 t ht, dgt_0]; rfl) (by rw [g_e, g_f (by decide), g_f (by decide)]; exact n1.1) (by rw [g_k (by decide), g_k (by decide), g_e]) (by rw [g_k (by decide), g_e]) hMS tr3
                    have c3 := c3.trans f1
                    have m2 := m2.trans f2
                    rw [c3, b_I] at c2
                    obtain ⟨e1, e2, e3⟩ := FIN_ok hC' f3 f4 ⟨rfl, rfl⟩ ⟨rfl, rfl⟩ f5 f6
                    exact ⟨v, S9, M9, c2, e1, m2, e2, e3⟩
                  · rw [if_neg hp, if_pos rfl] at c3
                    rw [if_pos (by omega)] at m2
                    exact spent M3 y3 tr3 c3 m2
                · rw [if_neg h12] at c3 m2
                  rw [if_pos rfl] at c3 m2
                  exact spent M2 y2 tr2 c3 m2
            · rw [if_neg (by omega)] at c3
              by_cases ht : (ta : Int) = (tb : Int)
              · rw [if_pos ht, if_neg (by omega)] at m2
                exact nq c3 m2
              · rw [if_neg ht] at m2
                exact nq c3 m2
    · rw [q_ruleAt0 (by omega) a2 (by omega), b_R0] at c3
      rw [if_neg g2, if_pos rfl] at m2
      exact neg c3 m2
  · rw [if_neg g1, if_pos rfl] at m2
    rw [q_ruleAt0 (by omega) a1 (by omega), b_R0] at c3
    by_cases g2 : 0 ≤ a2 ∧ a2 < (gD Sc 41 0 8)
    · obtain ⟨b, rfl⟩ := Int.eq_ofNat_of_zero_le g2.1
      rw [q_ruleAt1 (by omega) b g2.2 (by omega), b_R1] at c3
      exact neg c3 m2
    · rw [q_ruleAt0 (by omega) a2 (by omega), b_R0] at c3
      exact neg c3 m2
end
