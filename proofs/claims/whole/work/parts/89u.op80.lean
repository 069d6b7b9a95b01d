/-! rule: a whole text, read on both sides -/
section
variable {d : Nat} {A B : Nat → Int} {n : Nat} {th : Int}
theorem SYN_m2 {r base p q q' F L dd : Nat} {lo : Int} {s : Nat → Int} {Sc Sm Sm' : SD} (h : SYN A B n th r base lo p q F L dd s Sc Sm) (hq : q' ≤ n) (hn : (gD Sm' 85 0 53) = (q' : Int)) (h1 : ∀ k, k = 6 ∨ k = 31 ∨ k = 32 ∨ k = 54 → gD Sm' 85 0 k = gD Sm 85 0 k) (h2 : ∀ g, g = 112 ∨ g = 123 ∨ (127 ≤ g ∧ g ≤ 132) → ∀ k, gD Sm' g 0 k = gD Sm g 0 k) : SYN A B n th r base lo p q' F L dd s Sc Sm' := by
  obtain ⟨a1, a2, a3, a4, a5, a6, a7, a8, a9, a10, a11, a12, a13, a14, a15, a16, a17, a18⟩ := h
  exact ⟨a1, ⟨(h1 31 (by decide)).trans a2.1, fun k => (h2 112 (by omega) k).trans (a2.2 k)⟩, a3, hn, a5, hq, (h1 54 (by decide)).trans a7, a8, (h1 32 (by decide)).trans a9, a10, (h1 6 (by decide)).trans a11, a12, a13, (h2 123 (by omega) r).trans a14, fun k hk => FCT_cg (fun g a b => rfl) (fun g a b => h2 g (by omega) _) (a15 k hk), a16, a17, a18⟩
theorem SYN_c {r base p p' q F L dd : Nat} {lo : Int} {s : Nat → Int} {C : List (Nat × Nat)} {Sc Sm Sc' : SD} (h : SYN A B n th r base lo p q F L dd s Sc Sm) (x : EqG [] C Sc Sc') (hc : C.all (fun c => (c.1 == 29) && Nat.ble 4 c.2) = true) (hp : p' ≤ n) (hpl : (gD Sc' 29 0 4) = (p' : Int)) : SYN A B n th r base lo p' q F L dd s Sc' Sm := by
  have y := ACf_G (r := r) ACf_rf x hc
  obtain ⟨h1, h2, h3, h4, h5, h6, h7, h8, h9, h10, h11, h12, h13, h14, h15, h16, h17, h18⟩ := h
  have z : ∀ f j k, f ≠ 29 → gD Sc' f j k = gD Sc f j k := fun f j k hf => x.1.2 f j k (fun q => by cases q) (fun q => by
    have := (Bool.and_eq_true _ _).mp (List.all_eq_true.mp hc _ q)
    exact hf (eq_of_beq this.1))
  exact ⟨TPc_A y h1, h2, hpl, h4, hp, h6, h7, (gR_A y).trans h8, h9, (z 3 0 10 (by decide)).trans h10, h11, (z 47 r 7 (by decide)).trans h12, h13, h14, fun k hk => FCT_cg (fun g a b => z g r k (by omega)) (fun g a b => rfl) (h15 k hk), (z 47 r 9 (by decide)).trans h16, fun k hk => (z 54 r _ (by decide)).trans (h17 k hk), h18⟩
theorem TSL_c {r w L a g k : Nat} {s : Nat → Int} {S : SD} {v : Int} (h : TSL r w L a s S) (hg : g ≠ 125 ∧ g ≠ 126) : TSL r w L a s (wD S g 0 k v) := by
  obtain ⟨h1, h2, h3⟩ := h
  exact ⟨by rw [g_f (fun q => hg.1 q.symm)]; exact h1, fun k hk => by rw [g_f (fun q => hg.2 q.symm)]; exact h2 k hk, fun i hi => by rw [g_f (fun q => hg.2 q.symm)]; exact h3 i hi⟩
def CLS (d : Nat) (S : SD) : Option RR := (bI (EE false d 66 [vr (some (29, 0)), vr (some (1, 0))] S) (fun x4 S3 =>
    (if x4 = 0 then
     some (vi (gD (wD S3 29 0 2 0) 29 0 5), wD S3 29 0 2 0)
    else
     (bI (EE false d 71 [vr (some (29, 0)), vi 0] S3) (fun x6 S5 =>
      (if x6 = 0 then
       some (vi (gD (wD S5 29 0 2 0) 29 0 5), wD S5 29 0 2 0)
      else
       (bI (EE false d 81 [vr (some (29, 0))] S5) (fun x8 S7 =>
        (if x8 = 0 then
         some (vi (gD (wD S7 29 0 2 0) 29 0 5), wD S7 29 0 2 0)
        else
          CREST d S7)))))))))
theorem L_read {d' r : Nat} {Sc Sm : SD} (hd : 19 ≤ d) (hd' : 11 ≤ d') (hn : n ≤ 200) (hA : TAB A B) (hr : r < 20) (hth : 0 ≤ th) (h1 : TPc B n Sc) (h2 : TPm A n Sm) (h3 : (gD Sc 29 0 4) = 0) (h4 : (gD Sm 85 0 53) = 0) (h7 : (gD Sm 85 0 54) = 0) (h8 : gR Sc 29 0 3 = some (47, r)) (h9 : (gD Sm 85 0 32) = (r : Int)) (h10 : (gD Sc 3 0 10) = th) (h11 : (gD Sm 85 0 6) = th) (h12 : (gD Sc 47 r 7) = 0) (hz : (gD Sc 47 r 9) = 0) (hl0 : (gD Sc 47 r 11) = 0) (hf : (gD Sc 47 r 13) = -1) : OUT r (RRX r) (CLS d Sc) (EE false d' 245 [vr (some (85, 0))] Sm) Sc Sm := by
  have cM := (E245 (d := d') (by omega) Sm).trans (b245_0 oo (EE false (d' - 1)) 999999 Sm)
  have e : aw oo (aw oo (2 * (r : Int)) + 1) = ((2 * r + 1 : Nat) : Int) := awA (w := 1) ⟨hr, by decide⟩
  have f1 : gD (wD Sm 123 0 r 0) 85 0 32 = (r : Int) := by rw [g_f (by decide)]; exact h9
  have f2 : gD (wD (wD Sm 123 0 r 0) 125 0 (2 * r + 1) 0) 85 0 32 = (r : Int) := by rw [g_f (by decide)]; exact f1
  have f3 : gD (wD (wD (wD Sm 123 0 r 0) 125 0 (2 * r + 1) 0) 116 0 r 0) 85 0 32 = (r : Int) := by rw [g_f (by decide)]; exact f2
  rw [h9, if_pos (by clear e; omega), tn, f1, e, if_pos (by clear e; omega), tn, f2, if_pos (by clear e; omega), tn, f3, if_pos (by clear e; omega), tn] at cM
  clear e
  obtain ⟨Y, eY⟩ : ∃ Y, Y = wD (wD (wD (wD Sm 123 0 r 0) 125 0 (2 * r + 1) 0) 116 0 r 0) 115 0 r 1 := ⟨_, rfl⟩
  rw [← eY] at cM
  have z : ∀ g, g ≠ 123 → g ≠ 125 → g ≠ 116 → g ≠ 115 → ∀ j k, gD Y g j k = gD Sm g j k := fun g a b c d j k => by rw [eY, g_f d, g_f c, g_f b, g_f a]
  have y : SYN A B n th r 0 0 0 0 0 0 0 (fun _ => 0) Sc Y := ⟨h1, ⟨(z 85 (by decide) (by decide) (by decide) (by decide) 0 31).trans h2.1, fun k => (z 112 (by decide) (by decide) (by decide) (by decide) 0 k).trans (h2.2 k)⟩, h3, (z 85 (by decide) (by decide) (by decide) (by decide) 0 53).trans h4, Nat.zero_le _, Nat.zero_le _, (z 85 (by decide) (by decide) (by decide) (by decide) 0 54).trans h7, h8, (z 85 (by decide) (by decide) (by decide) (by decide) 0 32).trans h9, h10, (z 85 (by decide) (by decide) (by decide) (by decide) 0 6).trans h11, h12, by omega, by rw [eY, g_f (by decide), g_f (by decide), g_f (by decide), g_e]; rfl, fun k hk => absurd hk (Nat.not_lt_zero _), hz, fun k hk => absurd hk (Nat.not_lt_zero _), rfl⟩
  have xY : FRm r Sm Y := by
    rw [eY]
    exact FRm_w (FRm_w (FRm_w (FRm_w FRm_rf (Or.inr (Or.inr (Or.inr (Or.inl ⟨by decide, by decide, rfl⟩))))) (Or.inl ⟨rfl, by omega⟩)) (Or.inr (Or.inr (Or.inr (Or.inl ⟨by decide, by decide, rfl⟩))))) (Or.inr (Or.inr (Or.inr (Or.inl ⟨by decide, by decide, rfl⟩))))
  have hs := sk_n (B := B) (n := n) (p := 0) (Nat.zero_le _)
  have c66 := q_needsWC (d := d) (j := 0) (p := 0) (by omega) hn h1 (by decide) (by omega) h3
  have c229 := q_takesWM (d := d' - 1) (j := 0) (p := 0) (by omega) hn hA y.2.1 (by decide) (by omega) y.2.2.2.1
  have c229 : EE false (d' - 1) 229 [vr (some (85, 0)), vl 2003330414] Y = _ := c229
  rw [c229, b_I] at cM
  cases hW : WRD B n 0 0 with
  | false =>
    rw [hW, if_neg Bool.false_ne_true] at c66
    rw [hW, if_pos bi_f, if_neg Bool.false_ne_true, g_e, q_fails (by omega) 0 _ (by omega) (by omega) (by rw [g_k (by decide)]; exact y.2.2.2.2.2.2.1), b_I, if_pos (Or.inl rfl), Int.add_zero] at cM
    have cC : CLS d Sc = some (vi (1 + 8 * (skp B n 0 : Int)), wD (wD (wD Sc 29 0 4 (skp B n 0 : Int)) 29 0 5 (1 + 8 * (skp B n 0 : Int))) 29 0 2 0) := by
      unfold CLS
      rw [show EE false d 66 [vr (some (29, 0)), vr (some (1, 0))] Sc = _ from c66, b_I, if_pos rfl, g_k (by decide), g_e]
    exact Or.inl ⟨_, _, _, cC, cM, FRc_w (FRc_w FRc_rf (Or.inl ⟨rfl, by decide⟩)) (Or.inl ⟨rfl, by decide⟩), FRm_w (FRm_w xY (Or.inr (Or.inr (Or.inr (Or.inr (Or.inl ⟨rfl, by decide, by decide⟩)))))) (Or.inr (Or.inr (Or.inr (Or.inr (Or.inl ⟨rfl, by decide, by decide⟩))))), g_e, by omega, by omega⟩
  | true =>
    obtain ⟨p1, e1⟩ : ∃ x, x = skp B n 0 + (strT 0).length := ⟨_, rfl⟩
    have hp1 : p1 ≤ n := by rw [e1]; exact WRD_n (by decide) hW
    have hp4 : 4 ≤ p1 := by rw [e1, show (strT 0).length = 4 from rfl]; omega
    rw [hW, if_pos rfl, ← e1] at c66
    rw [hW, if_neg (show ¬ bi true = 0 by decide), if_pos (rfl : true = true), ← e1] at cM
    have x1 : FRc r Sc (wD Sc 29 0 4 (p1 : Int)) := FRc_w FRc_rf (Or.inl ⟨rfl, by decide⟩)
    have xM1 : FRm r Sm (wD Y 85 0 53 (p1 : Int)) := FRm_w xY (Or.inr (Or.inr (Or.inr (Or.inr (Or.inl ⟨rfl, by decide, by decide⟩)))))
    rcases L_test (d := d) (d' := d' - 1) (w := 0) (by omega) (by omega) hn hA hr (by decide) hth (SYN_nx (SYN_pl y hp1) hp1) (by omega) with f | ⟨S1, M1, p2, F, L, s, k1, k2, k3, k4, k5, k6, k7⟩
    · refine OUT_F f x1 xM1 (fun S e => ?_) (fun S e => ?_)
      · unfold CLS
        rw [show EE false d 66 [vr (some (29, 0)), vr (some (1, 0))] Sc = _ from c66, b_I, if_neg (by decide), show EE false d 71 [vr (some (29, 0)), vi 0] _ = _ from e, b_I, if_pos rfl, g_k (by decide)]
      · rw [show EE false (d' - 1) 242 [vr (some (85, 0)), vi 0] _ = _ from e, b_I, if_pos rfl] at cM
        exact cM
    · have hp2 : p2 ≤ n := k5.2.2.2.2.1
      have hs2 := sk_n (B := B) hp2
      have hsl2 := skp_le (B := B) (n := n) (p := p2)
      have r1 : gD M1 85 0 32 = (r : Int) := k5.2.2.2.2.2.2.2.2.1
      have q1 : gD M1 123 0 r = (F : Int) := k5.2.2.2.2.2.2.2.2.2.2.2.2.2.1
      rw [show EE false (d' - 1) 242 [vr (some (85, 0)), vi 0] _ = _ from k2, b_I, if_neg (by decide), r1, if_pos (by omega), if_pos (by omega), tn, q1] at cM
      have y2 : SYN A B n th r 0 0 p2 p2 F L 1 s S1 (wD M1 124 0 r (F : Int)) := SYN_mw k5 (by decide)
      have t2 : TSL r 0 L 0 s (wD M1 124 0 r (F : Int)) := TSL_c k6 (by decide)
      have x2 := FRc_tr x1 k3.1
      have xM2 : FRm r Sm (wD M1 124 0 r (F : Int)) := FRm_w (FRm_tr xM1 (MFr_F k4 (by decide))) (Or.inr (Or.inr (Or.inr (Or.inl ⟨by decide, by decide, rfl⟩))))
      have c229b := q_takesWM (d := d' - 1) (j := 8) (p := p2) (by omega) hn hA y2.2.1 (by decide) (by omega) y2.2.2.2.1
      have c229b : EE false (d' - 1) 229 [vr (some (85, 0)), vl 6713202] (wD M1 124 0 r (F : Int)) = _ := c229b
      have cF := (E81 (d := d) (by omega) S1).trans (b81_0 oo (EE false (d - 1)) 999999 S1)
      rw [q_takesWC (by omega) hn k5.1 (by decide) (by omega) k5.2.2.1, b_I] at cF
      have c13 : gD S1 47 r 13 = -1 := by rw [k3.2.2 13 (by decide) (by decide), g_f (by decide)]; exact hf
      have c11 : gD S1 47 r 11 = 0 := by rw [k3.2.2 11 (by decide) (by decide), g_f (by decide)]; exact hl0
      have m125 : gD M1 125 0 (2 * r + 1) = 0 := by
        rw [k4.2 125 0 (2 * r + 1) (by unfold mok; omega), g_f (by decide), eY, g_f (by decide), g_f (by decide), g_e]
      have m116 : gD M1 116 0 r = 0 := by
        rw [k4.2 116 0 r (by unfold mok; omega), g_f (by decide), eY, g_f (by decide), g_e]
      have m115 : gD M1 115 0 r = 1 := by
        rw [k4.2 115 0 r (by unfold mok; omega), g_f (by decide), eY, g_e]
      have base : ∀ x8 S7, EE false d 81 [vr (some (29, 0))] S1 = some (vi x8, S7) → CLS d Sc = if x8 = 0 then some (vi (gD S7 29 0 5), wD S7 29 0 2 0) else CREST d S7 := fun x8 S7 e => by
        unfold CLS
        rw [show EE false d 66 [vr (some (29, 0)), vr (some (1, 0))] Sc = _ from c66, b_I, if_neg (by decide), show EE false d 71 [vr (some (29, 0)), vi 0] _ = _ from k1, b_I, if_neg (by decide), e, b_I, g_k (by decide)]
      rw [c229b, b_I] at cM
      cases h8w : WRD B n 8 p2 with
      | false =>
        rw [h8w, if_pos bi_f, if_neg Bool.false_ne_true] at cF
        rw [h8w, if_pos bi_f, if_neg Bool.false_ne_true] at cM
        have cC := base _ _ cF
        rw [if_neg (by decide)] at cC
        refine OUT_tr (L_rest (d := d) (d' := d' - 1) (by omega) (by omega) hn hA hr hth (SYN_nx (SYN_pl y2 hs2) hs2) (TSL_nx t2) (by omega) (by rw [g_f (by decide), g_e]) (by rw [g_f (by decide), g_f (by decide)]; exact m125) ?_ (by rw [g_f (by decide)]; exact c13)) (FRc_w x2 (Or.inl ⟨rfl, by decide⟩)) (FRm_w xM2 (Or.inr (Or.inr (Or.inr (Or.inr (Or.inl ⟨rfl, by decide, by decide⟩)))))) cC (fun v S _ e => cM.trans e)
        unfold LAST
        rw [g_f (by decide), g_f (by decide), g_f (by decide), g_f (by decide), g_f (by decide), c11, m116, m115]
        exact ⟨by decide, by decide, rfl, rfl⟩
      | true =>
        obtain ⟨p3, e3⟩ : ∃ x, x = skp B n p2 + (strT 8).length := ⟨_, rfl⟩
        have hp3 : p3 ≤ n := by rw [e3]; exact WRD_n (by decide) h8w
        have hp23 : p2 ≤ p3 := by omega
        rw [h8w, if_neg (show ¬ bi true = 0 by decide), if_pos (rfl : true = true), ← e3] at cF
        rw [h8w, if_neg (show ¬ bi true = 0 by decide), if_pos (rfl : true = true), ← e3] at cM
        have y3 := SYN_nx (SYN_pl y2 hp3) hp3
        have x3 : FRc r Sc (wD S1 29 0 4 (p3 : Int)) := FRc_w x2 (Or.inl ⟨rfl, by decide⟩)
        have xM3 : FRm r Sm (wD (wD M1 124 0 r (F : Int)) 85 0 53 (p3 : Int)) := FRm_w xM2 (Or.inr (Or.inr (Or.inr (Or.inr (Or.inl ⟨rfl, by decide, by decide⟩)))))
        obtain ⟨S2, b1, b2, b3, b4⟩ := q_nC (d := d - 1) (p := p3) (by omega) hn y3.1 hp3 g_e
        obtain ⟨M2, n1, n2, n3, n4⟩ := q_nM (d := d' - 1) (p := p3) (by omega) hn hA y3.2.1 hp3 g_e y3.2.2.2.2.2.2.1
        have x4 := FRc_tr x3 (FRc_G (r := r) b2 rfl)
        have xM4 := FRm_tr xM3 (FRm_G (r := r) n2 rfl)
        rw [b1, b_I] at cF
        rw [n1, b_I] at cM
        cases hN : NOK B n p3 with
        | false =>
          rw [hN, if_pos bi_f] at cF cM
          have fb := dfl_b (B := B) (n := n) (q := skp B n p3) (by have := sk_n (B := B) hp3; omega)
          have cC := base _ _ cF
          rw [if_pos rfl, b4 hN] at cC
          exact Or.inl ⟨_, _, _, cC, cM, x4, xM4, n4 hN, by omega, by omega⟩
        | true =>
          obtain ⟨u1, u2, u3, u4⟩ := NOK_n hp3 hN
          obtain ⟨b5, b6⟩ := b3 hN
          obtain ⟨n5, n6, n7⟩ := n3 hN
          have w32 : gD M2 85 0 32 = (r : Int) := (EqX_c n2.1 85 32 rfl 0).trans y3.2.2.2.2.2.2.2.2.1
          have w32b : gD (wD M2 116 0 r 1) 85 0 32 = (r : Int) := by rw [g_f (by decide)]; exact w32
          rw [hN, if_neg (show ¬ bi true = 0 by decide), show gR S2 29 0 3 = some (47, r) from (gR_G b2).trans y3.2.2.2.2.2.2.2.1, rR_s, b6] at cF
          rw [hN, if_neg (show ¬ bi true = 0 by decide), w32, if_pos (by omega), tn, w32b, if_pos (by omega), tn, g_f (by decide), n6] at cM
          have y4 : SYN A B n th r 0 0 (de B n (skp B n p3)) (de B n (skp B n p3)) F L 1 s (wD S2 47 r 11 (dnu B n (skp B n p3))) (wD (wD M2 116 0 r 1) 115 0 r (dnu B n (skp B n p3))) := SYN_mw (SYN_mw (SYN_m2 (SYN_r (SYN_c y3 b2 rfl u1 b5) (by decide)) u1 n5 (fun k hk => by
            by_cases e : k = 54
            · rw [e, n7]
              exact y3.2.2.2.2.2.2.1.symm
            · exact EqX_c n2.1 85 k (by rcases hk with rfl | rfl | rfl | rfl <;> first | rfl | exact absurd rfl e) 0) (fun g hg k => EqX_a n2.1 g (by
              have : g ≠ 85 := by omega
              show (true && (!((85 : Nat) == g) && (!((85 : Nat) == g) && (!((85 : Nat) == g) && true)))) = true
              rw [beq_eq_false_iff_ne.mpr (fun q => this q.symm)]
              rfl) 0 k)) (by decide)) (by decide)
          have t4 : TSL r 0 L 0 s (wD (wD M2 116 0 r 1) 115 0 r (dnu B n (skp B n p3))) := by
            refine TSL_c (TSL_c ?_ (by decide)) (by decide)
            have t3 := TSL_nx (k := 53) (v := (p3 : Int)) t2
            exact ⟨(EqX_a n2.1 125 rfl 0 _).trans t3.1, fun k hk => (EqX_a n2.1 126 rfl 0 _).trans (t3.2.1 k hk), fun i hi => (EqX_a n2.1 126 rfl 0 _).trans (t3.2.2 i hi)⟩
          have cC := base _ _ cF
          rw [if_neg (by decide)] at cC
          refine OUT_tr (L_rest (d := d) (d' := d' - 1) (by omega) (by omega) hn hA hr hth y4 t4 (by omega) (by rw [g_f (by decide), g_f (by decide), EqX_a n2.1 124 rfl 0 r, g_f (by decide), g_e]) (by rw [g_f (by decide), g_f (by decide), EqX_a n2.1 125 rfl 0 _, g_f (by decide), g_f (by decide)]; exact m125) ?_ (by rw [g_k (by decide), EqX_c b2.1 47 13 rfl r, g_f (by decide)]; exact c13)) (FRc_w x4 (Or.inr ⟨by decide, by decide, rfl⟩)) (FRm_w (FRm_w xM4 (Or.inr (Or.inr (Or.inr (Or.inl ⟨by decide, by decide, rfl⟩))))) (Or.inr (Or.inr (Or.inr (Or.inl ⟨by decide, by decide, rfl⟩))))) cC (fun v S _ e => cM.trans e)
          unfold LAST
          rw [g_e, g_f (by decide), g_e, g_e]
          refine ⟨by omega, by omega, ?_, by omega⟩
          rw [if_neg (by omega)]
end
