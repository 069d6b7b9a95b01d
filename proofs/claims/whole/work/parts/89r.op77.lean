/-! rule: what a rule does, read on both sides -/
section
variable {d : Nat} {A B : Nat → Int} {n : Nat} {th : Int}
theorem L_act {d' r base p F L dd : Nat} {lo : Int} {s : Nat → Int} {Sc Sm : SD} (hd : 7 ≤ d) (hd' : 6 ≤ d') (hn : n ≤ 200) (hA : TAB A B) (hr : r < 20) (h : SYN A B n th r base lo p p F L dd s Sc Sm) (hf : (gD Sc 47 r 13) = -1) : OUT r (fun S' M' => ACf r Sc S' ∧ AMf r Sm M' ∧ RRA r th S' M') (TAIL d Sc) (EE false d' 244 [vr (some (85, 0))] Sm) Sc Sm := by
  obtain ⟨h1, h2, h3, h4, h5, h6, h7, h8, h9, h10, h11, _⟩ := id h
  have hs := sk_n (B := B) h5
  have hsl := skp_le (B := B) (n := n) (p := p)
  have cM := (E244 (d := d') (by omega) Sm).trans (b244_0 oo (EE false (d' - 1)) 999999 Sm)
  rw [q_see (by omega) hn hA h2 (by omega) h4, b_I] at cM
  have c68 := q_needsSC (d := d) (by omega) hn h1 58 (by omega) h3
  by_cases c58 : bt B n (skp B n p) = 58
  · have hq1 : skp B n p < n := bt_ge (by rw [c58]; decide)
    rw [if_pos c58] at c68
    rw [if_pos c58, g_e, awn (by omega), wD_ww] at cM
    obtain ⟨p1, e1⟩ : ∃ x, x = skp B n p + 1 := ⟨_, rfl⟩
    rw [← e1] at c68 cM
    have hp1 : p1 ≤ n := by omega
    have hs1 := sk_n (B := B) hp1
    have hsl1 := skp_le (B := B) (n := n) (p := p1)
    have hX : TPc B n (wD Sc 29 0 4 (p1 : Int)) := TPc_w h1 (by decide)
    have hY : TPm A n (wD Sm 85 0 53 (p1 : Int)) := TPm_w h2 (by decide)
    have hY1 : TPm A n (wD Sm 85 0 53 (skp B n p1 : Int)) := TPm_w h2 (by decide)
    have cA := (E83 (d := d) (by omega) (wD Sc 29 0 4 (p1 : Int))).trans (b83_0 oo (EE false (d - 1)) 999999 (wD Sc 29 0 4 (p1 : Int)))
    rw [q_takesWC (p := p1) (by omega) hn hX (by decide) (by omega) g_e, b_I, wD_ww] at cA
    have mw10 : EE false (d' - 1) 227 [vr (some (85, 0)), vl 2003399528] (wD Sm 85 0 53 (p1 : Int)) = some (vi (bi (WRD B n 10 p1)), wD Sm 85 0 53 (skp B n p1 : Int)) := by
      have := q_wordM (d := d' - 1) (j := 10) (p := p1) (by omega) hn hA hY (by decide) (by omega) g_e
      rw [wD_ww] at this
      exact this
    have e32 : gD (wD Sm 85 0 53 (p1 : Int)) 85 0 32 = (r : Int) := by rw [g_k (by decide)]; exact h9
    rw [mw10, b_I, e32, if_pos (by omega), if_pos (bi01 _), tn] at cM
    have e32b : gD (wD (wD Sm 85 0 53 (skp B n p1 : Int)) 119 0 r (bi (WRD B n 10 p1))) 85 0 32 = (r : Int) := by rw [g_f (by decide), g_k (by decide)]; exact h9
    rw [e32b, if_pos (by omega), tn, g_e] at cM
    have xM1 : AMf r Sm (wD (wD Sm 85 0 53 (skp B n p1 : Int)) 119 0 r (bi (WRD B n 10 p1))) := AMf_w (AMf_n AMf_rf (by omega)) (Or.inr ⟨by decide, by decide, rfl⟩)
    cases hW : WRD B n 10 p1 with
    | false =>
      rw [hW] at xM1
      rw [hW, if_pos bi_f, if_neg Bool.false_ne_true, q_needsWC (p := skp B n p1) (by omega) hn (TPc_w h1 (by decide)) (by decide) (by omega) g_e, WRD_s, skp_sk, wD_ww, wD_ww] at cA
      have mw11 : EE false (d' - 1) 227 [vr (some (85, 0)), vl 478660552050] (wD (wD Sm 85 0 53 (skp B n p1 : Int)) 119 0 r (bi false)) = some (vi (bi (WRD B n 11 p1)), wD (wD Sm 85 0 53 (skp B n p1 : Int)) 119 0 r (bi false)) := by
        have := q_wordM (d := d' - 1) (j := 11) (p := skp B n p1) (by omega) hn hA (TPm_AM xM1 h2) (by decide) (by omega) (by rw [g_f (by decide), g_e])
        rw [WRD_s, skp_sk, wD_id (S := wD (wD Sm 85 0 53 (skp B n p1 : Int)) 119 0 r (bi false)) (f := 85) (j := 0) (k := 53) (v := (skp B n p1 : Int)) (by rw [g_f (by decide), g_e])] at this
        exact this
      rw [hW, if_pos bi_f, mw11, b_I] at cM
      have e53 : gD (wD (wD Sm 85 0 53 (skp B n p1 : Int)) 119 0 r (bi false)) 85 0 53 = (skp B n p1 : Int) := by rw [g_f (by decide), g_e]
      cases hW2 : WRD B n 11 p1 with
      | false =>
        rw [hW2, if_neg Bool.false_ne_true, b_I, if_pos rfl] at cA
        rw [hW2, if_pos bi_f, e53, q_fails (by omega) 0 _ (by omega) (by omega) (by rw [g_f (by decide), g_k (by decide)]; exact h7), b_I, if_pos (Or.inl rfl), Int.add_zero] at cM
        have cC := end_C0 c68 cA
        rw [g_e] at cC
        exact Or.inl ⟨_, _, _, cC, cM, ACf_F (ACf_w (ACf_w ACf_rf (Or.inl ⟨rfl, by decide⟩)) (Or.inl ⟨rfl, by decide⟩)), AMf_F (AMf_n xM1 (by omega)), g_e, by omega, by omega⟩
      | true =>
        obtain ⟨p2, e2⟩ : ∃ x, x = skp B n p1 + (strT 11).length := ⟨_, rfl⟩
        have hp2 : p2 ≤ n := by rw [e2]; exact WRD_n (by decide) hW2
        have hs2 := sk_n (B := B) hp2
        rw [hW2, if_pos rfl, b_I, if_neg (by decide), ← e2] at cA
        have qs := q_skips (d := d' - 1) (j := 11) (S := wD (wD Sm 85 0 53 (skp B n p1 : Int)) 119 0 r (bi false)) (q := skp B n p1) (by omega) hn hA (TPm_AM xM1 h2) (by decide) (by omega) hW2 e53
        rw [← e2] at qs
        have xM2 := AMf_n (k := 53) (v := (p2 : Int)) xM1 (by omega)
        rw [hW2, if_neg (show ¬ bi true = 0 by decide), qs, b_V, q_see (p := p2) (by omega) hn hA (TPm_AM xM2 h2) (by omega) g_e, b_I, wD_ww] at cM
        have xM3 := AMf_n (k := 53) (v := (skp B n p2 : Int)) xM1 (by omega)
        obtain ⟨Y, eY⟩ : ∃ Y, Y = wD (wD (wD Sm 85 0 53 (skp B n p1 : Int)) 119 0 r (bi false)) 85 0 53 (skp B n p2 : Int) := ⟨_, rfl⟩
        have y119 : gD Y 119 0 r = bi false := by rw [eY, g_f (by decide), g_e]
        have y53 : gD Y 85 0 53 = (skp B n p2 : Int) := by rw [eY, g_e]
        have y54 : gD Y 85 0 54 = 0 := by rw [eY, g_k (by decide), g_f (by decide), g_k (by decide)]; exact h7
        rw [← eY] at cM xM3
        have y32 : gD Y 85 0 32 = (r : Int) := (xM3.2 85 0 32 (by omega) (by omega)).trans h9
        obtain ⟨M1, m1, m2, m3, m4⟩ := q_thingM (d := d' - 1) (th := th) (by omega) hn hA (TPm_AM xM3 h2) hs2 y53 ((xM3.2 85 0 6 (by omega) (by omega)).trans h11) y54
        have xM4 := AMf_G xM3 m2 rfl
        obtain ⟨T1, T2, T3, T4⟩ := TOK_s (B := B) (n := n) (th := th) (p := p2)
        rw [T1] at m1 m3 m4
        rw [T2, T3] at m3
        rw [T4] at m4
        rw [y32, if_pos (by omega), tn, y119, if_pos bi_f, m1, b_I] at cM
        have xS1 : ACf r Sc (wD Sc 29 0 4 (p2 : Int)) := ACf_w ACf_rf (Or.inl ⟨rfl, by decide⟩)
        obtain ⟨S1, a1, a2, a3, a4⟩ := q_thingC (d := d - 1) (th := th) (by omega) hn (TPc_A xS1 h1) hp2 g_e (by rw [g_f (by decide)]; exact h10)
        have xS2 := ACf_G xS1 a2 rfl
        rw [a1, b_I] at cA
        cases hT : TOK B n th p2 with
        | false =>
          rw [hT, if_pos bi_f] at cA cM
          have fb := tfl_b (B := B) hn hp2
          have cC := end_C0 c68 cA
          rw [a4 hT] at cC
          exact Or.inl ⟨_, _, _, cC, cM, ACf_F xS2, AMf_F xM4, m4 hT, by omega, by omega⟩
        | true =>
          obtain ⟨t1, t2, t3, t4⟩ := tnx_n hT
          obtain ⟨a5, a6⟩ := a3 hT
          obtain ⟨m5, m6, m7⟩ := m3 hT
          rw [hT, if_neg (show ¬ bi true = 0 by decide), show gR S1 29 0 3 = some (47, r) from (gR_A xS2).trans h8, rR_s, if_pos bi_f, a6] at cA
          have xS3 : ACf r Sc (wD S1 47 r 12 (tvl B n p2)) := ACf_w xS2 (Or.inr ⟨rfl, rfl, by decide, by decide⟩)
          obtain ⟨S2, b1, b2, b3, b4⟩ := q_nC (d := d - 1) (by omega) hn (TPc_A xS3 h1) t1 (by rw [g_f (by decide)]; exact a5)
          have xS4 := ACf_G xS3 b2 rfl
          rw [b1, b_I] at cA
          have z32 : gD M1 85 0 32 = (r : Int) := (xM4.2 85 0 32 (by omega) (by omega)).trans h9
          have z32b : gD (wD M1 120 0 r (gD M1 85 0 55)) 85 0 32 = (r : Int) := by rw [g_f (by decide)]; exact z32
          have z32c : gD (wD (wD M1 120 0 r (gD M1 85 0 55)) 121 0 r (gD (wD M1 120 0 r (gD M1 85 0 55)) 85 0 56)) 85 0 32 = (r : Int) := by rw [g_f (by decide)]; exact z32b
          have z119 : gD (wD (wD M1 120 0 r (gD M1 85 0 55)) 121 0 r (gD (wD M1 120 0 r (gD M1 85 0 55)) 85 0 56)) 119 0 r = bi false := by rw [g_f (by decide), g_f (by decide)]; exact (EqX_a m2.1 119 rfl 0 r).trans y119
          rw [hT, if_neg (show ¬ bi true = 0 by decide), z32, if_pos (by omega), tn, z32b, if_pos (by omega), tn, z32c, if_pos (by omega), tn, z119, if_pos bi_f] at cM
          have xM5 : AMf r Sm (wD (wD M1 120 0 r (gD M1 85 0 55)) 121 0 r (gD (wD M1 120 0 r (gD M1 85 0 55)) 85 0 56)) := AMf_w (AMf_w xM4 (Or.inr ⟨by decide, by decide, rfl⟩)) (Or.inr ⟨by decide, by decide, rfl⟩)
          obtain ⟨M2, n1, n2, n3, n4⟩ := q_nM (d := d' - 1) (p := tnx B n p2) (by omega) hn hA (TPm_AM xM5 h2) t1 (by rw [g_f (by decide), g_f (by decide)]; exact m5) (by rw [g_f (by decide), g_f (by decide)]; exact m7)
          have xM6 := AMf_G xM5 n2 rfl
          rw [n1, b_I] at cM
          cases hN : NOK B n (tnx B n p2) with
          | false =>
            rw [hN, if_pos bi_f] at cA cM
            have fb := dfl_b (B := B) (n := n) (q := skp B n (tnx B n p2)) (by have := sk_n (B := B) t1; omega)
            have cC := end_C0 c68 cA
            rw [b4 hN] at cC
            exact Or.inl ⟨_, _, _, cC, cM, ACf_F xS4, AMf_F xM6, n4 hN, by omega, by omega⟩
          | true =>
            obtain ⟨u1, u2, u3, u4⟩ := NOK_n t1 hN
            obtain ⟨b5, b6⟩ := b3 hN
            obtain ⟨n5, n6, n7⟩ := n3 hN
            have w32 : gD M2 85 0 32 = (r : Int) := (xM6.2 85 0 32 (by omega) (by omega)).trans h9
            rw [hN, if_neg (show ¬ bi true = 0 by decide), show gR S2 29 0 3 = some (47, r) from (gR_A xS4).trans h8, rR_s, b6] at cA
            rw [hN, if_neg (show ¬ bi true = 0 by decide), w32, if_pos (by omega), tn, n6] at cM
            have xS5 : ACf r Sc (wD S2 47 r 14 (dnu B n (skp B n (tnx B n p2)))) := ACf_w xS4 (Or.inr ⟨rfl, rfl, by decide, by decide⟩)
            have xM7 : AMf r Sm (wD M2 122 0 r (dnu B n (skp B n (tnx B n p2)))) := AMf_w xM6 (Or.inr ⟨by decide, by decide, rfl⟩)
            have cC := end_C (by omega) hn c68 cA (TPc_A xS5 h1) u1 (by rw [g_f (by decide)]; exact b5)
            rw [end_M (by omega) hn hA (TPm_AM xM7 h2) u1 (by rw [g_f (by decide)]; exact n5) (by rw [g_f (by decide)]; exact n7)] at cM
            have hse := sk_n (B := B) u1
            by_cases ce : skp B n (de B n (skp B n (tnx B n p2))) < n
            · rw [if_pos ce] at cC cM
              exact Or.inl ⟨_, _, _, cC, cM, ACf_F (ACf_w (ACf_w xS5 (Or.inl ⟨rfl, by decide⟩)) (Or.inl ⟨rfl, by decide⟩)), AMf_F (AMf_n (AMf_n xM7 (by omega)) (by omega)), g_e, by omega, by omega⟩
            · rw [if_neg ce] at cC cM
              have xS6 := ACf_w (k := 4) (j := 0) (v := (skp B n (de B n (skp B n (tnx B n p2))) : Int)) xS5 (Or.inl ⟨rfl, by decide⟩)
              have xM8 := AMf_n (k := 53) (v := (skp B n (de B n (skp B n (tnx B n p2))) : Int)) xM7 (by omega)
              refine Or.inr ⟨_, _, cC, cM, ACf_F xS6, AMf_F xM8, xS6, xM8, ?_⟩
              have r12 : gD (wD (wD S2 47 r 14 (dnu B n (skp B n (tnx B n p2)))) 29 0 4 (skp B n (de B n (skp B n (tnx B n p2))) : Int)) 47 r 12 = tvl B n p2 := by
                rw [g_f (by decide), g_k (by decide), EqX_c b2.1 47 12 rfl r, g_e]
              have r13 : gD (wD (wD S2 47 r 14 (dnu B n (skp B n (tnx B n p2)))) 29 0 4 (skp B n (de B n (skp B n (tnx B n p2))) : Int)) 47 r 13 = -1 := by
                rw [g_f (by decide), g_k (by decide), EqX_c b2.1 47 13 rfl r, g_k (by decide), EqX_c a2.1 47 13 rfl r, g_f (by decide)]
                exact hf
              have r14 : gD (wD (wD S2 47 r 14 (dnu B n (skp B n (tnx B n p2)))) 29 0 4 (skp B n (de B n (skp B n (tnx B n p2))) : Int)) 47 r 14 = dnu B n (skp B n (tnx B n p2)) := by
                rw [g_f (by decide), g_e]
              unfold RRA
              rw [r12, r13, r14, g_f (by decide), g_f (by decide), EqX_a n2.1 120 rfl 0 r, g_f (by decide), g_e, m6, g_f (by decide), g_e, g_f (by decide), g_f (by decide), EqX_a n2.1 119 rfl 0 r, z119]
              exact ⟨rfl, t3, t4, rfl, Or.inr ⟨rfl, rfl, u3, u4⟩⟩
    | true =>
      rw [hW] at xM1
      obtain ⟨p2, e2⟩ : ∃ x, x = skp B n p1 + (strT 10).length := ⟨_, rfl⟩
      have hp2 : p2 ≤ n := by rw [e2]; exact WRD_n (by decide) hW
      have hs2 := sk_n (B := B) hp2
      rw [hW, if_neg (show ¬ bi true = 0 by decide), if_pos (rfl : true = true), ← e2] at cA
      have e53 : gD (wD (wD Sm 85 0 53 (skp B n p1 : Int)) 119 0 r (bi true)) 85 0 53 = (skp B n p1 : Int) := by rw [g_f (by decide), g_e]
      have qs := q_skips (d := d' - 1) (j := 10) (S := wD (wD Sm 85 0 53 (skp B n p1 : Int)) 119 0 r (bi true)) (q := skp B n p1) (by omega) hn hA (TPm_AM xM1 h2) (by decide) (by omega) hW e53
      rw [← e2] at qs
      have xM2 := AMf_n (k := 53) (v := (p2 : Int)) xM1 (by omega)
      rw [hW, if_neg (show ¬ bi true = 0 by decide), qs, b_V, q_see (p := p2) (by omega) hn hA (TPm_AM xM2 h2) (by omega) g_e, b_I, wD_ww] at cM
      have xM3 := AMf_n (k := 53) (v := (skp B n p2 : Int)) xM1 (by omega)
      obtain ⟨Y, eY⟩ : ∃ Y, Y = wD (wD (wD Sm 85 0 53 (skp B n p1 : Int)) 119 0 r (bi true)) 85 0 53 (skp B n p2 : Int) := ⟨_, rfl⟩
      have y119 : gD Y 119 0 r = bi true := by rw [eY, g_f (by decide), g_e]
      have y53 : gD Y 85 0 53 = (skp B n p2 : Int) := by rw [eY, g_e]
      have y54 : gD Y 85 0 54 = 0 := by rw [eY, g_k (by decide), g_f (by decide), g_k (by decide)]; exact h7
      rw [← eY] at cM xM3
      have y32 : gD Y 85 0 32 = (r : Int) := (xM3.2 85 0 32 (by omega) (by omega)).trans h9
      obtain ⟨M1, m1, m2, m3, m4⟩ := q_refM (d := d' - 1) (th := th) (by omega) hn hA (TPm_AM xM3 h2) hs2 y53 ((xM3.2 85 0 6 (by omega) (by omega)).trans h11) y54
      have xM4 := AMf_G xM3 m2 rfl
      obtain ⟨T1, T2, T3, T4⟩ := TOK_s (B := B) (n := n) (th := th) (p := p2)
      rw [T1, T2] at m1 m3 m4
      rw [T3] at m3
      rw [T4] at m4
      rw [y32, if_pos (by omega), tn, y119, if_neg (show ¬ bi true = 0 by decide), m1, b_I] at cM
      have xS1 : ACf r Sc (wD Sc 29 0 4 (p2 : Int)) := ACf_w ACf_rf (Or.inl ⟨rfl, by decide⟩)
      obtain ⟨S1, a1, a2, a3, a4⟩ := q_thingC (d := d - 1) (th := th) (by omega) hn (TPc_A xS1 h1) hp2 g_e (by rw [g_f (by decide)]; exact h10)
      have xS2 := ACf_G xS1 a2 rfl
      rw [a1, b_I] at cA
      cases hT : TOK B n th p2 with
      | false =>
        rw [hT, if_pos bi_f] at cA
        rw [hT, Bool.false_and, if_pos bi_f] at cM
        rw [hT, Bool.false_and, if_neg Bool.false_ne_true] at m4
        have fb := tfl_b (B := B) hn hp2
        have cC := end_C0 c68 cA
        rw [a4 hT] at cC
        exact Or.inl ⟨_, _, _, cC, cM, ACf_F xS2, AMf_F xM4, m4 rfl, by omega, by omega⟩
      | true =>
        rw [hT, Bool.true_and] at m3 m4 cM
        rw [if_pos rfl] at m4
        obtain ⟨t1, t2, t3, t4⟩ := tnx_n hT
        obtain ⟨a5, a6⟩ := a3 hT
        rw [hT, if_neg (show ¬ bi true = 0 by decide), show gR S1 29 0 3 = some (47, r) from (gR_A xS2).trans h8, rR_s, if_neg (show ¬ bi true = 0 by decide), a6] at cA
        have xS3 : ACf r Sc (wD S1 47 r 12 (tvl B n p2)) := ACf_w xS2 (Or.inr ⟨rfl, rfl, by decide, by decide⟩)
        obtain ⟨S2, b1, b2, b3, b4⟩ := q_fieldC (d := d - 1) (by omega) hn (TPc_A xS3 h1) t1 (by rw [g_f (by decide)]; exact a5)
        have xS4 := ACf_G xS3 b2 rfl
        rw [b1, b_I] at cA
        cases hF : FOK B n (tnx B n p2) with
        | false =>
          rw [hF, if_pos bi_f] at cA cM
          have fb := ffl_b (B := B) hn t1
          have cC := end_C0 c68 cA
          rw [b4 hF] at cC
          exact Or.inl ⟨_, _, _, cC, cM, ACf_F xS4, AMf_F xM4, m4 hF, by omega, by omega⟩
        | true =>
          obtain ⟨u1, u2, u3, u4⟩ := FOK_n hF
          obtain ⟨p3, e3⟩ : ∃ x, x = de B n (tnx B n p2 + 2) := ⟨_, rfl⟩
          obtain ⟨b5, b6⟩ := b3 hF
          obtain ⟨m5, m6, m7, m8⟩ := m3 hF
          rw [← e3] at b5 m5 u1 u2
          have hs3 := sk_n (B := B) u1
          have z32 : gD M1 85 0 32 = (r : Int) := (xM4.2 85 0 32 (by omega) (by omega)).trans h9
          have z32b : gD (wD M1 120 0 r (gD M1 85 0 55)) 85 0 32 = (r : Int) := by rw [g_f (by decide)]; exact z32
          have z32c : gD (wD (wD M1 120 0 r (gD M1 85 0 55)) 121 0 r (gD (wD M1 120 0 r (gD M1 85 0 55)) 85 0 56)) 85 0 32 = (r : Int) := by rw [g_f (by decide)]; exact z32b
          have z119 : gD (wD (wD M1 120 0 r (gD M1 85 0 55)) 121 0 r (gD (wD M1 120 0 r (gD M1 85 0 55)) 85 0 56)) 119 0 r = bi true := by rw [g_f (by decide), g_f (by decide)]; exact (EqX_a m2.1 119 rfl 0 r).trans y119
          rw [hF, if_neg (show ¬ bi true = 0 by decide), z32, if_pos (by omega), tn, z32b, if_pos (by omega), tn, z32c, if_pos (by omega), tn, z119, if_neg (show ¬ bi true = 0 by decide)] at cM
          have xM5 : AMf r Sm (wD (wD M1 120 0 r (gD M1 85 0 55)) 121 0 r (gD (wD M1 120 0 r (gD M1 85 0 55)) 85 0 56)) := AMf_w (AMf_w xM4 (Or.inr ⟨by decide, by decide, rfl⟩)) (Or.inr ⟨by decide, by decide, rfl⟩)
          have f53 : gD (wD (wD M1 120 0 r (gD M1 85 0 55)) 121 0 r (gD (wD M1 120 0 r (gD M1 85 0 55)) 85 0 56)) 85 0 53 = (p3 : Int) := by rw [g_f (by decide), g_f (by decide)]; exact m5
          have f54 : gD (wD (wD M1 120 0 r (gD M1 85 0 55)) 121 0 r (gD (wD M1 120 0 r (gD M1 85 0 55)) 85 0 56)) 85 0 54 = 0 := by rw [g_f (by decide), g_f (by decide)]; exact m8
          rw [q_see (p := p3) (by omega) hn hA (TPm_AM xM5 h2) (by omega) f53, b_I] at cM
          rw [hF, if_neg (show ¬ bi true = 0 by decide), q_needsSC (p := p3) (by omega) hn (TPc_A xS4 h1) 61 (by omega) b5] at cA
          by_cases c61 : bt B n (skp B n p3) = 61
          · have hq3 : skp B n p3 < n := bt_ge (by rw [c61]; decide)
            rw [if_pos c61, b_I, if_neg (by decide)] at cA
            rw [if_pos c61, g_e, awn (by omega), wD_ww] at cM
            obtain ⟨p4, e4⟩ : ∃ x, x = skp B n p3 + 1 := ⟨_, rfl⟩
            rw [← e4] at cA cM
            have hp4 : p4 ≤ n := by omega
            have xS5 := ACf_w (k := 4) (j := 0) (v := (p4 : Int)) xS4 (Or.inl ⟨rfl, by decide⟩)
            have xM6 := AMf_n (k := 53) (v := (p4 : Int)) xM5 (by omega)
            obtain ⟨S3, g1, g2, g3, g4⟩ := q_numC (d := d - 1) (p := p4) (by omega) hn (TPc_A xS5 h1) hp4 g_e
            obtain ⟨M2, n1, n2, n3, n4⟩ := q_numM (d := d' - 1) (p := p4) (by omega) hn hA (TPm_AM xM6 h2) hp4 g_e (by rw [g_k (by decide)]; exact f54)
            have xS6 := ACf_G xS5 g2 rfl
            have xM7 := AMf_G xM6 n2 rfl
            rw [g1, b_I] at cA
            rw [n1, b_I] at cM
            cases hN : UOK B n p4 with
            | false =>
              rw [hN, if_pos bi_f] at cA cM
              have fb := dfl_b (B := B) (n := n) (q := ust B n p4) (by have := ust_n (B := B) hp4; omega)
              have cC := end_C0 c68 cA
              rw [g4 hN] at cC
              exact Or.inl ⟨_, _, _, cC, cM, ACf_F xS6, AMf_F xM7, n4 hN, by omega, by omega⟩
            | true =>
              obtain ⟨v1, v2, v3, v4⟩ := UOK_n hp4 hN
              obtain ⟨g5, g6⟩ := g3 hN
              obtain ⟨n5, n6, n7⟩ := n3 hN
              have w32 : gD M2 85 0 32 = (r : Int) := (xM7.2 85 0 32 (by omega) (by omega)).trans h9
              have s7 : gD S3 29 0 7 = dnu B n (tnx B n p2 + 2) := by rw [EqX_c g2.1 29 7 rfl 0, g_k (by decide)]; exact b6
              have r3 : gR S3 29 0 3 = some (47, r) := (gR_A xS6).trans h8
              rw [hN, if_neg (show ¬ bi true = 0 by decide), r3, rR_s, show gR (wD S3 47 r 13 (gD S3 29 0 7)) 29 0 3 = some (47, r) from r3, rR_s, g_f (by decide), g6, s7] at cA
              rw [hN, if_neg (show ¬ bi true = 0 by decide), w32, if_pos (by omega), tn, n6] at cM
              have xS7 : ACf r Sc (wD (wD S3 47 r 13 (dnu B n (tnx B n p2 + 2))) 47 r 14 (uvl B n p4)) := ACf_w (ACf_w xS6 (Or.inr ⟨rfl, rfl, by decide, by decide⟩)) (Or.inr ⟨rfl, rfl, by decide, by decide⟩)
              have xM8 : AMf r Sm (wD M2 122 0 r (uvl B n p4)) := AMf_w xM7 (Or.inr ⟨by decide, by decide, rfl⟩)
              have cC := end_C (by omega) hn c68 cA (TPc_A xS7 h1) v1 (by rw [g_f (by decide), g_f (by decide)]; exact g5)
              rw [end_M (by omega) hn hA (TPm_AM xM8 h2) v1 (by rw [g_f (by decide)]; exact n5) (by rw [g_f (by decide)]; exact n7)] at cM
              have hse := sk_n (B := B) v1
              by_cases ce : skp B n (de B n (ust B n p4)) < n
              · rw [if_pos ce] at cC cM
                exact Or.inl ⟨_, _, _, cC, cM, ACf_F (ACf_w (ACf_w xS7 (Or.inl ⟨rfl, by decide⟩)) (Or.inl ⟨rfl, by decide⟩)), AMf_F (AMf_n (AMf_n xM8 (by omega)) (by omega)), g_e, by omega, by omega⟩
              · rw [if_neg ce] at cC cM
                have xS8 := ACf_w (k := 4) (j := 0) (v := (skp B n (de B n (ust B n p4)) : Int)) xS7 (Or.inl ⟨rfl, by decide⟩)
                have xM9 := AMf_n (k := 53) (v := (skp B n (de B n (ust B n p4)) : Int)) xM8 (by omega)
                refine Or.inr ⟨_, _, cC, cM, ACf_F xS8, AMf_F xM9, xS8, xM9, ?_⟩
                have r12 : gD (wD (wD (wD S3 47 r 13 (dnu B n (tnx B n p2 + 2))) 47 r 14 (uvl B n p4)) 29 0 4 (skp B n (de B n (ust B n p4)) : Int)) 47 r 12 = tvl B n p2 := by
                  rw [g_f (by decide), g_k (by decide), g_k (by decide), EqX_c g2.1 47 12 rfl r, g_f (by decide), EqX_c b2.1 47 12 rfl r, g_e]
                have r13 : gD (wD (wD (wD S3 47 r 13 (dnu B n (tnx B n p2 + 2))) 47 r 14 (uvl B n p4)) 29 0 4 (skp B n (de B n (ust B n p4)) : Int)) 47 r 13 = dnu B n (tnx B n p2 + 2) := by
                  rw [g_f (by decide), g_k (by decide), g_e]
                have r14 : gD (wD (wD (wD S3 47 r 13 (dnu B n (tnx B n p2 + 2))) 47 r 14 (uvl B n p4)) 29 0 4 (skp B n (de B n (ust B n p4)) : Int)) 47 r 14 = uvl B n p4 := by
                  rw [g_f (by decide), g_e]
                have s120 : gD (wD (wD M2 122 0 r (uvl B n p4)) 85 0 53 (skp B n (de B n (ust B n p4)) : Int)) 120 0 r = tvl B n p2 := by
                  rw [g_f (by decide), g_f (by decide), EqX_a n2.1 120 rfl 0 r, g_f (by decide), g_f (by decide), g_e]
                  exact m6
                have s121 : gD (wD (wD M2 122 0 r (uvl B n p4)) 85 0 53 (skp B n (de B n (ust B n p4)) : Int)) 121 0 r = dnu B n (tnx B n p2 + 2) := by
                  rw [g_f (by decide), g_f (by decide), EqX_a n2.1 121 rfl 0 r, g_f (by decide), g_e, g_f (by decide)]
                  exact m7
                have s122 : gD (wD (wD M2 122 0 r (uvl B n p4)) 85 0 53 (skp B n (de B n (ust B n p4)) : Int)) 122 0 r = uvl B n p4 := by
                  rw [g_f (by decide), g_e]
                have s119 : gD (wD (wD M2 122 0 r (uvl B n p4)) 85 0 53 (skp B n (de B n (ust B n p4)) : Int)) 119 0 r = bi true := by
                  rw [g_f (by decide), g_f (by decide), EqX_a n2.1 119 rfl 0 r, g_f (by decide)]
                  exact z119
                unfold RRA
                rw [r12, r13, r14, s119, s120, s121, s122]
                exact ⟨rfl, t3, t4, rfl, Or.inl ⟨rfl, rfl, u3, u4, v3, v4⟩⟩
          · rw [if_neg c61, b_I, if_pos rfl] at cA
            rw [if_neg c61, g_e, q_fails (by omega) 0 _ (by omega) (by omega) (by rw [g_k (by decide)]; exact f54), b_I, if_pos (Or.inl rfl), Int.add_zero] at cM
            have cC := end_C0 c68 cA
            rw [g_e] at cC
            exact Or.inl ⟨_, _, _, cC, cM, ACf_F (ACf_w (ACf_w xS4 (Or.inl ⟨rfl, by decide⟩)) (Or.inl ⟨rfl, by decide⟩)), AMf_F (AMf_n (AMf_n xM5 (by omega)) (by omega)), g_e, by omega, by omega⟩
  · rw [if_neg c58] at c68
    rw [if_neg c58, g_e, q_fails (by omega) 0 _ (by omega) (by omega) (by rw [g_k (by decide)]; exact h7), b_I, if_pos (Or.inl rfl), Int.add_zero] at cM
    have cC : TAIL d Sc = some (vi (1 + 8 * (skp B n p : Int)), wD (wD (wD Sc 29 0 4 (skp B n p : Int)) 29 0 5 (1 + 8 * (skp B n p : Int))) 29 0 2 0) := by
      unfold TAIL
      rw [c68, b_I, if_pos rfl, g_k (by decide), g_e]
    exact Or.inl ⟨_, _, _, cC, cM, ACf_F (ACf_w (ACf_w ACf_rf (Or.inl ⟨rfl, by decide⟩)) (Or.inl ⟨rfl, by decide⟩)), AMf_F (AMf_n (AMf_n AMf_rf (by omega)) (by omega)), g_e, by omega, by omega⟩
end
