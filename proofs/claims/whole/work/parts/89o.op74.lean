/-! rule: a fact in brackets, behind a NOT, or bare -/
section
variable {A B : Nat → Int} {n : Nat} {th : Int}
theorem PF_step {r base w d' N : Nat} {lo : Int} (hd' : 8 ≤ d') (hn : n ≤ 200) (hA : TAB A B) (hr : r < 20) (hw : w < 2) (hth : 0 ≤ th) (ihF : PFs A B n th r base lo w d' N) (ihT : PTs A B n th r base lo w d' N) : PFs A B n th r base lo w d' (N + 1) := by
  intro d p F L dd s tau a dp m Sc Sm hN h hT hS ht hdp hdp5 ha hd hb htl hm
  obtain ⟨h1, h2, h3, h4, h5, h6, h7, h8, h9, h10, h11, h12, h13, h14, h15⟩ := id h
  have hs := sk_n (B := B) h5
  have hsl := skp_le (B := B) (n := n) (p := p)
  obtain ⟨m, rfl⟩ : ∃ k, m = k + 1 := ⟨m - 1, by omega⟩
  have hlen : (List.replicate a (-1 : Int) ++ tau).length = a + tau.length := by rw [List.length_append, List.length_replicate]
  have hM : TPm A n (wD Sm 85 0 53 (skp B n p : Int)) := TPm_w h2 (by decide)
  have hq := SYN_nx (SYN_pl h hs) hs
  have mN : EE false d' 227 [vr (some (85, 0)), vl 7237492] (wD Sm 85 0 53 (skp B n p : Int)) = some (vi (bi (WRD B n 1 p)), wD Sm 85 0 53 (skp B n p : Int)) := by
    have := q_wordM (d := d') (j := 1) (p := skp B n p) (by omega) hn hA hM (by decide) (by omega) g_e
    rw [skp_sk, wD_ww, WRD_s] at this
    exact this
  have cC := (E72 (d := d) (by omega) Sc (dp : Int)).trans (b72_0 oo (EE false (d - 1)) 999999 Sc (dp : Int))
  rw [q_wordC (by omega) hn h1 (by decide) (by omega) h3, b_I, g_e, q_byte (by omega) hn (TPc_w h1 (by decide)), b_I] at cC
  have cM := b242_24 oo (EE false d') m Sm (w : Int)
  rw [q_see (by omega) hn hA h2 (by omega) h4, b_I, mN, b_I] at cM
  have f58 : gD (wD Sm 85 0 53 (skp B n p : Int)) 85 0 58 = (dp : Int) := by rw [g_k (by decide)]; exact hdp
  have f54 : gD (wD Sm 85 0 53 (skp B n p : Int)) 85 0 54 = 0 := by rw [g_k (by decide)]; exact h7
  have hSt : STK (List.replicate a (-1) ++ tau) (wD Sm 85 0 53 (skp B n p : Int)) := STK_k hS (by decide)
  -- where one more level is too deep
  have deep5 : dp = 5 → ∀ x, EE false d 72 [vr (some (29, 0)), vi (dp : Int)] Sc = some (vi 0, wD (wD Sc 29 0 4 (skp B n p : Int)) 29 0 5 (1 + 8 * (skp B n p : Int) + 2)) → (EE false d' 241 [vr (some (85, 0)), vi x] (wD Sm 85 0 53 (skp B n p : Int)) = some (vi 0, wD (wD Sm 85 0 53 (skp B n p : Int)) 85 0 54 (1 + 8 * (skp B n p : Int) + 2)) → run oo (EE false d') false mi_242 (m + 1) 24 [(0, vr (some (85, 0))), (1, vi (w : Int))] [] Sm = some (vi 0, wD (wD Sm 85 0 53 (skp B n p : Int)) 85 0 54 (1 + 8 * (skp B n p : Int) + 2))) → FAILo r (EE false d 72 [vr (some (29, 0)), vi (dp : Int)] Sc) (run oo (EE false d') false mi_242 (m + 1) 24 [(0, vr (some (85, 0))), (1, vi (w : Int))] [] Sm) Sc Sm := fun e5 x c1 c2 => by
    have qo := q_opens5 (d := d') (S := wD Sm 85 0 53 (skp B n p : Int)) (q := skp B n p) (by omega) (by rw [f58, e5]; rfl) (by omega) g_e f54 x
    exact ⟨_, _, _, c1, c2 qo, FRc_w (FRc_w FRc_rf (Or.inl ⟨rfl, by decide⟩)) (Or.inl ⟨rfl, by decide⟩), FRm_w (FRm_w FRm_rf (Or.inr (Or.inr (Or.inr (Or.inr (Or.inl ⟨rfl, by decide, by decide⟩)))))) (Or.inr (Or.inr (Or.inr (Or.inr (Or.inl ⟨rfl, by decide, by decide⟩))))), g_e, g_e, by omega, by omega⟩
  -- one level more
  have hop : dp ≠ 5 → ∀ x : Int, EE false d' 241 [vr (some (85, 0)), vi x] (wD Sm 85 0 53 (skp B n p : Int)) = some (vi 1, wD (wD (wD (wD Sm 85 0 53 (skp B n p : Int)) 85 0 58 ((dp + 1 : Nat) : Int)) 133 0 (List.replicate a (-1 : Int) ++ tau).length x) 85 0 59 (((List.replicate a (-1 : Int) ++ tau).length + 1 : Nat) : Int)) := fun e5 x => q_opens (by omega) hSt (by omega) f58 e5 hdp5
  have hY : ∀ (x : Int) (q' : Nat), q' ≤ n → SYN A B n th r base lo q' q' F L dd s (wD Sc 29 0 4 (q' : Int)) (wD (wD (wD (wD (wD Sm 85 0 53 (skp B n p : Int)) 85 0 58 ((dp + 1 : Nat) : Int)) 133 0 (List.replicate a (-1 : Int) ++ tau).length x) 85 0 59 (((List.replicate a (-1 : Int) ++ tau).length + 1 : Nat) : Int)) 85 0 53 (q' : Int)) ∧ TSL r w L 0 s (wD (wD (wD (wD (wD Sm 85 0 53 (skp B n p : Int)) 85 0 58 ((dp + 1 : Nat) : Int)) 133 0 (List.replicate a (-1 : Int) ++ tau).length x) 85 0 59 (((List.replicate a (-1 : Int) ++ tau).length + 1 : Nat) : Int)) 85 0 53 (q' : Int)) ∧ STK (x :: (List.replicate a (-1) ++ tau)) (wD (wD (wD (wD (wD Sm 85 0 53 (skp B n p : Int)) 85 0 58 ((dp + 1 : Nat) : Int)) 133 0 (List.replicate a (-1 : Int) ++ tau).length x) 85 0 59 (((List.replicate a (-1 : Int) ++ tau).length + 1 : Nat) : Int)) 85 0 53 (q' : Int)) ∧ gD (wD (wD (wD (wD (wD Sm 85 0 53 (skp B n p : Int)) 85 0 58 ((dp + 1 : Nat) : Int)) 133 0 (List.replicate a (-1 : Int) ++ tau).length x) 85 0 59 (((List.replicate a (-1 : Int) ++ tau).length + 1 : Nat) : Int)) 85 0 53 (q' : Int)) 85 0 58 = ((dp + 1 : Nat) : Int) ∧ MFr r w Sm (wD (wD (wD (wD (wD Sm 85 0 53 (skp B n p : Int)) 85 0 58 ((dp + 1 : Nat) : Int)) 133 0 (List.replicate a (-1 : Int) ++ tau).length x) 85 0 59 (((List.replicate a (-1 : Int) ++ tau).length + 1 : Nat) : Int)) 85 0 53 (q' : Int)) := fun x q' hq' => by
    refine ⟨SYN_m (SYN_pl h hq') hq' g_e (fun k hk k3 => ?_) (fun g hg k => ?_), TSL_nx (TSL_q (TSL_nx (TSL_nx hT))), STK_k (STK_p hSt) (by decide), ?_, MFr_nx (MFr_w (MFr_w (MFr_w (MFr_nx MFr_rf) (Or.inl ⟨rfl, by decide, by decide⟩)) (Or.inr (Or.inl rfl))) (Or.inl ⟨rfl, by decide, by decide⟩))⟩
    · rw [g_k k3, g_k (by omega), g_f (by decide), g_k (by omega), g_k k3]
    · rw [g_f (by omega), g_f (by omega), g_f (by omega), g_f (by omega), g_f (by omega)]
    · rw [g_k (by decide), g_k (by decide), g_f (by decide), g_e]
  by_cases hc : bt B n (skp B n p) = 91
  · have hW : WRD B n 1 p = false := by
      cases e : WRD B n 1 p with
      | false => rfl
      | true => exact absurd ((wrd_c (by decide) e).symm.trans hc) (by decide)
    have hql : skp B n p < n := bt_ge (by rw [hc]; decide)
    rw [hW, if_pos hc, if_pos bi_f] at cC
    rw [hW, if_pos bi_f, if_pos hc, if_pos hc] at cM
    by_cases c5 : dp = 5
    · rw [if_neg (by omega), g_e, q_fail (by omega) _ 2 (by omega) (by omega), b_I, if_pos (Or.inl rfl)] at cC
      exact Or.inl (deep5 c5 (-4) cC (fun e => by rw [e, b_I, if_pos rfl] at cM; exact cM))
    · rw [if_pos (by omega), g_e, awn (by omega), awn (by omega), wD_ww] at cC
      rw [hop c5, b_I, if_neg (by decide), g_k (by decide), g_f (by decide), g_k (by decide), g_e, awn (by omega)] at cM
      obtain ⟨y1, y2, y3, y4, y5⟩ := hY (-4) (skp B n p + 1) (by omega)
      have hnno : nno ((-4) :: (List.replicate a (-1) ++ tau)) = a + nno tau := by
        show 0 + nno (List.replicate a (-1) ++ tau) = _
        rw [nno_app, nno_rep]; omega
      have x1 : CFr r base Sc (wD Sc 29 0 4 ((skp B n p + 1 : Nat) : Int)) := CFr_pl CFr_rf
      rcases ihT (d - 1 - 1) (skp B n p + 1) F L dd s ((-4) :: (List.replicate a (-1) ++ tau)) (dp + 1) false false 0 999999 m _ _ (by omega) y1 y2 y3 (Or.inr ⟨_, rfl⟩) y4 (by omega) (by omega) (by rw [hnno]; show 2 * (base + L + 0 + _) + 4 ≤ _; omega) (by rw [hnno]; show (List.replicate a (-1) ++ tau).length + 1 ≤ _; omega) (by omega) (by omega) (by omega) with f | ⟨S1, M1, p1, F1, L1, s1, an, or, m1, k1, k2, k3, k4, k5, k6, k7, k8, k9, k10, k11, k12, k13⟩
      · refine Or.inl (FAILo_tr f x1.1 (MFr_F y5 hw) (fun S e => ?_) (fun S e => cM.trans e))
        have e71 : EE false (d - 1) 71 [vr (some (29, 0)), vi ((dp + 1 : Nat) : Int)] (wD Sc 29 0 4 ((skp B n p + 1 : Nat) : Int)) = some (vi 0, S) := ((E71 (d := d - 1) (by omega) _ _).trans (b71_0 oo (EE false (d - 1 - 1)) 999999 _ _)).trans e
        rw [e71, b_I, if_pos rfl] at cC
        exact cC
      · have e71 : EE false (d - 1) 71 [vr (some (29, 0)), vi ((dp + 1 : Nat) : Int)] (wD Sc 29 0 4 ((skp B n p + 1 : Nat) : Int)) = some (vi 1, S1) := ((E71 (d := d - 1) (by omega) _ _).trans (b71_0 oo (EE false (d - 1 - 1)) 999999 _ _)).trans k1
        have hp1 : p1 ≤ n := k6.2.2.2.2.2.1
        have hs1 := sk_n (B := B) hp1
        have hsl1 := skp_le (B := B) (n := n) (p := p1)
        rw [hnno] at k13
        rw [e71, b_I, if_neg (by decide), q_needsSC (by omega) hn k6.1 93 (by omega) k6.2.2.1, skp_sk] at cC
        have cM := cM.trans k2
        obtain ⟨m1, rfl⟩ : ∃ k, m1 = k + 1 := ⟨m1 - 1, by omega⟩
        have cN := b242_127 oo (EE false d') m1 M1 (w : Int)
        rw [q_see (by omega) hn hA k6.2.1 (by omega) k6.2.2.2.1, b_I] at cN
        have hpl := pend_l (an := an) (or := or)
        have hpl2 : (pend an or).length ≤ 2 := by rw [hpl]; cases an <;> cases or <;> decide
        have hS1 : STK (pend an or ++ (-4) :: (List.replicate a (-1) ++ tau)) (wD M1 85 0 53 (skp B n p1 : Int)) := STK_k k8 (by decide)
        have hl1 : (pend an or ++ (-4) :: (List.replicate a (-1 : Int) ++ tau)).length ≤ 210 := by
          rw [List.length_append]
          show _ + ((List.replicate a (-1) ++ tau).length + 1) ≤ 210
          omega
        have qb := q_inBr1 (d := d') (by omega) hS1 hl1 (List.mem_append_right _ List.mem_cons_self)
        have x5 : MFr r w Sm (wD M1 85 0 53 (skp B n p1 : Int)) := MFr_nx (MFr_tr y5 k5)
        by_cases cb : bt B n (skp B n p1) = 93
        · have hql1 : skp B n p1 < n := bt_ge (by rw [cb]; decide)
          rw [if_pos cb, b_I, if_neg (by decide)] at cC
          rw [if_pos cb, qb, b_I, if_neg (by decide)] at cN
          obtain ⟨M2, r1, r2, r3, r4⟩ := R143 (d' := d') (l := List.replicate a (-1) ++ tau) (by omega) hr hw (by omega) (pend an or) (wD M1 85 0 53 (skp B n p1 : Int)) L1 s1 m1 (fun x hx => by
            cases an <;> cases or <;> simp [pend] at hx <;> omega) (by omega) (by omega) (by rw [g_k (by decide)]; exact k6.2.2.2.2.2.2.2.2.1) hS1 (TSL_nx k7) (by omega)
          obtain ⟨m2, e2⟩ : ∃ k, m1 - (pend an or).length = k + 1 := ⟨m1 - (pend an or).length - 1, by omega⟩
          rw [e2] at r1
          have cQ := b242_143 oo (EE false d') m2 M2 (w : Int)
          have d58 : (gD M2 85 0 58) = ((dp + 1 : Nat) : Int) := by rw [r2.2.1 58 (by decide), g_k (by decide)]; exact k9
          have d53 : (gD M2 85 0 53) = ((skp B n p1 : Nat) : Int) := by rw [r2.2.1 53 (by decide), g_e]
          have d59 : (gD M2 85 0 59) = (((List.replicate a (-1 : Int) ++ tau).length + 1 : Nat) : Int) := r3.1
          rw [q_isOpen (by omega) r3 (by show (List.replicate a (-1) ++ tau).length + 1 ≤ 210; omega), b_I, if_pos (show ((-4) :: (List.replicate a (-1 : Int) ++ tau)).head? = some (-4) from rfl), if_neg (by decide)] at cQ
          simp (disch := decide) only [g_k] at cQ
          rw [d58, d59, d53, awn (by omega), show aw oo ((((List.replicate a (-1 : Int) ++ tau).length + 1 : Nat) : Int) - 1) = ((List.replicate a (-1 : Int) ++ tau).length : Int) from by rw [aw0 (by omega)]; omega, show aw oo (((dp + 1 : Nat) : Int) - 1) = (dp : Int) from by rw [aw0 (by omega)]; omega] at cQ
          have hZ : STK (List.replicate a (-1) ++ tau) (wD (wD (wD M2 85 0 59 ((List.replicate a (-1 : Int) ++ tau).length : Int)) 85 0 58 (dp : Int)) 85 0 53 ((skp B n p1 + 1 : Nat) : Int)) := STK_k (STK_k (STK_tl (f := 0) (j := 0) (v := 0) r3) (by decide)) (by decide)
          have oZ : MFr r w M2 (wD (wD (wD M2 85 0 59 ((List.replicate a (-1 : Int) ++ tau).length : Int)) 85 0 58 (dp : Int)) 85 0 53 ((skp B n p1 + 1 : Nat) : Int)) := MFr_nx (MFr_w (MFr_w MFr_rf (Or.inl ⟨rfl, by decide, by decide⟩)) (Or.inl ⟨rfl, by decide, by decide⟩))
          obtain ⟨S', u1, u2, u3, u4, u5, u6, u7⟩ := q_ended (d := d') (b := a) (tau := tau) (dp := dp) (L := L1 + (pend an or).length) (by omega) hr hw ht (by omega) ha (by omega) hdp5 (by rw [g_k (by decide), g_k (by decide), g_k (by decide), r2.2.1 32 (by decide), g_k (by decide)]; exact k6.2.2.2.2.2.2.2.2.1) (by rw [g_k (by decide), g_e]) (TSL_nx (TSL_nx (TSL_nx r4))) hZ
          rw [u1, b_V] at cQ
          refine Or.inr ⟨_, S', skp B n p1 + 1, F1, L1 + (pend an or).length, ext s1 L1 (pend an or), m2, cC, cM.trans (cN.trans (r1.trans cQ)), by omega, CFr_pl (CFr_tr x1 k4), MFr_tr (MFr_tr (MFr_tr x5 r2.1) oZ) u2, ?_, u4, u5, u3, by omega, by omega⟩
          refine SYN_m (SYN_pl (SYN_mov (SYN_nx k6 hs1) r2) (by omega)) (by omega) ?_ (fun k hk k3 => ?_) (fun g hg k => ?_)
          · rw [u6 53 (by decide), g_e]
          · rw [u6 k hk, g_k k3, g_k (by omega), g_k (by omega)]
          · rw [u7 g (by omega) (by omega) (by omega), g_f (by omega), g_f (by omega), g_f (by omega)]
        · have mw6 : EE false d' 227 [vr (some (85, 0)), vl 6385252] (wD M1 85 0 53 (skp B n p1 : Int)) = some (vi (bi (WRD B n 6 p1)), wD M1 85 0 53 (skp B n p1 : Int)) := by
            have := q_wordM (d := d') (j := 6) (p := skp B n p1) (by omega) hn hA (TPm_w k6.2.1 (by decide)) (by decide) (by omega) g_e
            rw [skp_sk, wD_ww, WRD_s] at this
            exact this
          have mw7 : EE false d' 227 [vr (some (85, 0)), vl 28530] (wD M1 85 0 53 (skp B n p1 : Int)) = some (vi (bi (WRD B n 7 p1)), wD M1 85 0 53 (skp B n p1 : Int)) := by
            have := q_wordM (d := d') (j := 7) (p := skp B n p1) (by omega) hn hA (TPm_w k6.2.1 (by decide)) (by decide) (by omega) g_e
            rw [skp_sk, wD_ww, WRD_s] at this
            exact this
          rw [if_neg cb, b_I, if_pos rfl] at cC
          rw [if_neg cb, mw6, b_I, k10, if_pos bi_f, mw7, b_I, k11, if_pos bi_f, qb, b_I, if_neg (by decide), g_e, q_fails (by omega) 0 (skp B n p1) (by omega) (by omega) (by rw [g_k (by decide)]; exact k6.2.2.2.2.2.2.1), b_I, if_pos (Or.inl rfl), Int.add_zero] at cN
          exact Or.inl ⟨_, _, _, cC, cM.trans cN, FRc_w (CFr_pl (CFr_tr x1 k4)).1 (Or.inl ⟨rfl, by decide⟩), FRm_w (MFr_F x5 hw) (Or.inr (Or.inr (Or.inr (Or.inr (Or.inl ⟨rfl, by decide, by decide⟩))))), g_e, g_e, by omega, by omega⟩
  · rw [if_neg hc] at cC
    cases hW : WRD B n 1 p with
    | true =>
      have hu : skp B n p + 3 ≤ n := WRD_n (by decide) hW
      rw [hW, if_neg (show ¬ bi true = 0 by decide)] at cC
      rw [hW, if_neg (show ¬ bi true = 0 by decide), if_neg hc] at cM
      by_cases c5 : dp = 5
      · rw [if_neg (by omega), g_e, q_fail (by omega) _ 2 (by omega) (by omega), b_I, if_pos (Or.inl rfl)] at cC
        exact Or.inl (deep5 c5 (-1) cC (fun e => by rw [e, b_I, if_pos rfl] at cM; exact cM))
      · rw [if_pos (by omega), g_e, awn (by omega), awn3 (by omega), wD_ww] at cC
        rw [hop c5, b_I, if_neg (by decide), g_k (by decide), g_f (by decide), g_k (by decide), g_e, awn3 (by omega)] at cM
        obtain ⟨y1, y2, y3, y4, y5⟩ := hY (-1) (skp B n p + 3) hu
        have x1 : CFr r base Sc (wD Sc 29 0 4 ((skp B n p + 3 : Nat) : Int)) := CFr_pl CFr_rf
        rcases ihF (d - 1) (skp B n p + 3) F L dd s tau (a + 1) (dp + 1) m _ _ (by omega) y1 y2 y3 ht y4 (by omega) (by omega) (by omega) (by omega) (by omega) (by omega) with f | ⟨S1, M1, p1, F1, L1, s1, m1, k1, k2, k3, k4, k5, k6, k7, k8, k9, k10, k11⟩
        · refine Or.inl (FAILo_tr f x1.1 (MFr_F y5 hw) (fun S e => ?_) (fun S e => cM.trans e))
          rw [e, b_I, if_pos rfl] at cC
          exact cC
        · have hp1 : p1 ≤ n := k6.2.2.2.2.2.1
          obtain ⟨S2, v1, v2, v3⟩ := SYN_add (d := d - 1) (v := -1) (dd' := dd + 1) (by omega) k6 (by omega) (stD_n (by rw [stD_cg (fun k hk => xt_l hk)]; exact k6.2.2.2.2.2.2.2.2.2.2.2.2.2.2.2.2.2) xt_e (by omega))
          rw [k1, b_I, if_neg (by decide), v1, b_V] at cC
          refine Or.inr ⟨S2, M1, p1, F1, L1 + 1, xt s1 L1 (-1), m1, cC, cM.trans k2, by omega, CFr_tr (CFr_tr x1 k4) v2, MFr_tr y5 k5, v3, TSL_neg k7, k8, ?_, by omega, by omega⟩
          rw [k9, show dp + 1 - (a + 1) = dp - a by omega]
    | false =>
      rw [hW, if_pos bi_f] at cC
      have e32 : gD (wD Sm 85 0 53 (skp B n p : Int)) 85 0 32 = (r : Int) := by rw [g_k (by decide)]; exact h9
      have e123 : gD (wD Sm 85 0 53 (skp B n p : Int)) 123 0 r = (F : Int) := by rw [g_f (by decide)]; exact h14
      rw [hW, if_pos bi_f, if_neg hc, e32, if_pos (by omega), tn, e123] at cM
      have x1 : CFr r base Sc (wD Sc 29 0 4 (skp B n p : Int)) := CFr_pl CFr_rf
      have y5 : MFr r w Sm (wD Sm 85 0 53 (skp B n p : Int)) := MFr_nx MFr_rf
      rcases L_cmp (w := w) (d := d - 1) (d' := d') (by omega) (by omega) hn hA hr hth hq (by omega) with f | ⟨S1, M1, p1, k1, k2, k3, k4, k5, k6, k7⟩
      · refine Or.inl (FAILo_tr f x1.1 (MFr_F y5 hw) (fun S e => ?_) (fun S e => ?_))
        · rw [e, b_I, if_pos (Or.inl rfl)] at cC
          exact cC
        · rw [e, b_I, if_pos rfl] at cM
          exact cM
      · have hp1 : p1 ≤ n := k6.2.2.2.2.2.1
        have hT1 : TSL r w L 0 s M1 := TSL_O k4 (TSL_nx hT)
        have hS1 : STK (List.replicate a (-1) ++ tau) M1 := STK_O k4 hSt
        have r1 : (gD M1 85 0 32) = (r : Int) := k6.2.2.2.2.2.2.2.2.1
        rw [k1, b_I, if_pos (Or.inr rfl)] at cC
        rw [k2, b_I, if_neg (by decide), q_lays (d := d') (L := L) (a := 0) (by omega) hr hw r1 hT1.1 (by omega), b_V] at cM
        have oX : MFr r w M1 (wD (wD M1 126 0 (200 * r + 100 * w + (L + 0)) (F : Int)) 125 0 (2 * r + w) ((L + 0 + 1 : Nat) : Int)) := MFr_w (MFr_w MFr_rf (Or.inr (Or.inr (Or.inr (Or.inl ⟨rfl, by omega, by omega⟩))))) (Or.inr (Or.inr (Or.inl ⟨rfl, rfl⟩)))
        obtain ⟨S', u1, u2, u3, u4, u5, u6, u7⟩ := q_ended (d := d') (b := a) (tau := tau) (dp := dp) (L := L + 1) (by omega) hr hw ht (by omega) ha (by omega) hdp5 (by rw [g_f (by decide), g_f (by decide)]; exact r1) (by rw [g_f (by decide), g_f (by decide), k4.2 85 0 58 (by unfold ofm; omega)]; exact f58) (TSL_l (v := (F : Int)) hT1) (STK_w (STK_w hS1 (by decide)) (by decide))
        rw [u1, b_V] at cM
        refine Or.inr ⟨S1, S', p1, F + 1, L + 1, xt s L (F : Int), m, cC, cM, by omega, CFr_tr x1 k3, MFr_tr (MFr_tr (MFr_tr y5 (MFr_O k4 k5)) oX) u2, ?_, u4, u5, u3, by omega, by omega⟩
        refine SYN_m k6 hp1 ?_ (fun k hk k3 => ?_) (fun g hg k => ?_)
        · rw [u6 53 (by decide), g_f (by decide), g_f (by decide)]
          exact k6.2.2.2.1
        · rw [u6 k hk, g_f (by decide), g_f (by decide)]
        · rw [u7 g (by omega) (by omega) (by omega), g_f (by omega), g_f (by omega)]
theorem PFT {r base w d' : Nat} {lo : Int} (hd' : 8 ≤ d') (hn : n ≤ 200) (hA : TAB A B) (hr : r < 20) (hw : w < 2) (hth : 0 ≤ th) : ∀ N, PFs A B n th r base lo w d' N ∧ PTs A B n th r base lo w d' N
  | 0 => ⟨fun d p F L dd s tau a dp m Sc Sm hN => absurd hN (Nat.not_lt_zero _), fun d p F L dd0 s sg dp an or i mc m Sc Sm hN => absurd hN (Nat.not_lt_zero _)⟩
  | N + 1 => ⟨PF_step hd' hn hA hr hw hth (PFT hd' hn hA hr hw hth N).1 (PFT hd' hn hA hr hw hth N).2, PT_step hd' hn hA hr hw (PFT hd' hn hA hr hw hth N).1 (PFT hd' hn hA hr hw hth N).2⟩
end
