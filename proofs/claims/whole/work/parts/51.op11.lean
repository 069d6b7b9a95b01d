/-! layer 2: feed -/
theorem iand255 (y : Int) : ab oo 0 y 255 = y % 256 := by
  show (Int32.ofInt y &&& Int32.ofInt 255).toInt = _
  have e1 : (Int32.ofInt y &&& Int32.ofInt 255).toInt = (Int32.ofInt y &&& Int32.ofInt 255).toBitVec.toInt := rfl
  rw [e1, Int32.toBitVec_and]
  have e2 : (Int32.ofInt 255).toBitVec = 255#32 := by decide
  have e3 : (Int32.ofInt y).toBitVec = BitVec.ofInt 32 y := rfl
  rw [e2, e3]
  have e4 : (BitVec.ofInt 32 y &&& 255#32).toNat = (y % 4294967296).toNat % 256 := by
    rw [BitVec.toNat_and, BitVec.toNat_ofInt]
    have : (255#32).toNat = 2 ^ 8 - 1 := by decide
    rw [this, Nat.and_two_pow_sub_one_eq_mod]
    rfl
  rw [BitVec.toInt_eq_toNat_cond, e4]
  split
  · omega
  · omega
theorem bm256 (x : Int) : ab oo 13 x 256 = Int.bmod x 256 := rfl
section
variable {d : Nat}
theorem IP_put {N : Nat} {y : Int} {Tc Tm : SD} (hP : IP Tc Tm) (hN : (gD Tc 29 0 2) = (N : Int)) (h : N < 200) : IP (wD (wD Tc 30 0 N (ab oo 0 y 255)) 29 0 2 ((N + 1 : Nat) : Int)) (wD (wD Tm 112 0 N (ab oo 13 y 256)) 85 0 31 ((N + 1 : Nat) : Int)) := by
  have uIP := hP; unfold IP at uIP; obtain ⟨p1, p2, p3, p4, p5⟩ := uIP
  have b1 := Int.le_bmod (x := y) (m := 256) (by decide)
  have b2 := Int.bmod_lt (x := y) (m := 256) (by decide)
  unfold IP
  refine ⟨?_, ?_, ?_, ?_, ?_⟩ <;> (try simp (disch := omega) only [g_f, g_e, g_k, g_i, if_true])
  · omega
  · omega
  · intro k
    by_cases e : k = N
    · rw [if_pos e, if_pos e, iand255, bm256]
      exact (Int.bmod_emod (x := y) (m := 256)).symm
    · rw [if_neg e, if_neg e]; exact p4 k
  · intro k
    by_cases e : k = N
    · rw [if_pos e, bm256]; omega
    · rw [if_neg e]; exact p5 k
theorem w_put {N : Nat} {a s s' : Int} {Tc Tm : SD} (hN : (gD Tc 29 0 2) = (N : Int)) (hM : (gD Tm 85 0 31) = (N : Int)) (h : N < 200) (hs : ¬ s < 0) (hs' : vi (aw oo (s + (-8))) = vi s') {K K' : KT} : (∀ n, run oo K false mi_58 (n + 1) 3 [(0, vr (some (29, 0))), (1, vi a), (2, vi s)] [] Tc = run oo K false mi_58 n 3 [(0, vr (some (29, 0))), (1, vi a), (2, vi s')] [] (wD (wD Tc 30 0 N (ab oo 0 (ab oo 4 a s) 255)) 29 0 2 ((N + 1 : Nat) : Int))) ∧ (∀ n, run oo K' false mi_221 (n + 1) 3 [(0, vr (some (85, 0))), (1, vi a), (2, vi s)] [] Tm = run oo K' false mi_221 n 3 [(0, vr (some (85, 0))), (1, vi a), (2, vi s')] [] (wD (wD Tm 112 0 N (ab oo 13 (ab oo 4 a s) 256)) 85 0 31 ((N + 1 : Nat) : Int))) := by
  have b1 : (0 ≤ (N : Int) ∧ (N : Int) < 200) = True := eq_true (by omega)
  have b2 : (-128 ≤ ab oo 13 (ab oo 4 a s) 256 ∧ ab oo 13 (ab oo 4 a s) 256 < 128) = True := eq_true (by
    rw [bm256]
    have b1 := Int.le_bmod (x := ab oo 4 a s) (m := 256) (by decide)
    have b2 := Int.bmod_lt (x := ab oo 4 a s) (m := 256) (by decide)
    omega)
  refine ⟨fun n => ?_, fun n => ?_⟩
  · rw [b58_3, if_neg hs, hN, if_pos (show (N : Int) < 200 by omega)]
    simp (disch := decide) only [b1, if_true, tn, g_f, hN, hs', awn (show N < 1000000 by omega)]
  · rw [b221_3, if_neg hs, hM]
    simp (disch := decide) only [b1, b2, if_true, tn, g_f, hM, hs', awn (show N < 1000000 by omega)]
theorem w_four {N : Nat} {a : Int} {Tc Tm : SD} (hP : IP Tc Tm) (hN : (gD Tc 29 0 2) = (N : Int)) (h : N + 4 ≤ 200) (hd : 1 ≤ d) {d' : Nat} (hd' : 1 ≤ d') : ∃ Tc' Tm', EE false d 58 [vr (some (29, 0)), vi a] Tc = some (vi 0, Tc') ∧ EE false d' 221 [vr (some (85, 0)), vi a] Tm = some (vi 0, Tm') ∧ IP Tc' Tm' ∧ (gD Tc' 29 0 2) = ((N + 4 : Nat) : Int) ∧ EqX [30] [(29, 2)] Tc Tc' ∧ EqX [112] [(85, 31)] Tm Tm' := by
  have hM : (gD Tm 85 0 31) = (N : Int) := by unfold IP at hP; exact hP.1.trans hN
  rw [E58 hd, b58_0, E221 hd', b221_0]
  have s1 := w_put (a := a) (s := 24) (s' := 16) (K := EE false (d - 1)) (K' := EE false (d' - 1)) hN hM (by omega) (by decide) (by decide)
  have h1 := IP_put (y := ab oo 4 a 24) hP hN (by omega)
  have s2 := w_put (a := a) (s := 16) (s' := 8) (K := EE false (d - 1)) (K' := EE false (d' - 1)) (N := N + 1) (Tc := wD (wD Tc 30 0 N (ab oo 0 (ab oo 4 a 24) 255)) 29 0 2 ((N + 1 : Nat) : Int)) (Tm := wD (wD Tm 112 0 N (ab oo 13 (ab oo 4 a 24) 256)) 85 0 31 ((N + 1 : Nat) : Int)) g_e g_e (by omega) (by decide) (by decide)
  have h2 := IP_put (N := N + 1) (y := ab oo 4 a 16) h1 g_e (by omega)
  have s3 := w_put (a := a) (s := 8) (s' := 0) (K := EE false (d - 1)) (K' := EE false (d' - 1)) (N := N + 2) (Tc := wD (wD (wD (wD Tc 30 0 N (ab oo 0 (ab oo 4 a 24) 255)) 29 0 2 ((N + 1 : Nat) : Int)) 30 0 (N + 1) (ab oo 0 (ab oo 4 a 16) 255)) 29 0 2 ((N + 2 : Nat) : Int)) (Tm := wD (wD (wD (wD Tm 112 0 N (ab oo 13 (ab oo 4 a 24) 256)) 85 0 31 ((N + 1 : Nat) : Int)) 112 0 (N + 1) (ab oo 13 (ab oo 4 a 16) 256)) 85 0 31 ((N + 2 : Nat) : Int)) g_e g_e (by omega) (by decide) (by decide)
  have h3 := IP_put (N := N + 2) (y := ab oo 4 a 8) h2 g_e (by omega)
  have s4 := w_put (a := a) (s := 0) (s' := -8) (K := EE false (d - 1)) (K' := EE false (d' - 1)) (N := N + 3) (Tc := wD (wD (wD (wD (wD (wD Tc 30 0 N (ab oo 0 (ab oo 4 a 24) 255)) 29 0 2 ((N + 1 : Nat) : Int)) 30 0 (N + 1) (ab oo 0 (ab oo 4 a 16) 255)) 29 0 2 ((N + 2 : Nat) : Int)) 30 0 (N + 2) (ab oo 0 (ab oo 4 a 8) 255)) 29 0 2 ((N + 3 : Nat) : Int)) (Tm := wD (wD (wD (wD (wD (wD Tm 112 0 N (ab oo 13 (ab oo 4 a 24) 256)) 85 0 31 ((N + 1 : Nat) : Int)) 112 0 (N + 1) (ab oo 13 (ab oo 4 a 16) 256)) 85 0 31 ((N + 2 : Nat) : Int)) 112 0 (N + 2) (ab oo 13 (ab oo 4 a 8) 256)) 85 0 31 ((N + 3 : Nat) : Int)) g_e g_e (by omega) (by decide) (by decide)
  have h4 := IP_put (N := N + 3) (y := ab oo 4 a 0) h3 g_e (by omega)
  refine ⟨_, _, ?_, ?_, h4, g_e, ?_, ?_⟩
  · refine (s1.1 999998).trans ((s2.1 999997).trans ((s3.1 999996).trans ((s4.1 999995).trans ?_)))
    show run oo (EE false (d - 1)) false mi_58 (999994 + 1) 3 _ [] _ = _
    rw [b58_3, if_pos (by decide)]
  · refine (s1.2 999998).trans ((s2.2 999997).trans ((s3.2 999996).trans ((s4.2 999995).trans ?_)))
    show run oo (EE false (d' - 1)) false mi_221 (999994 + 1) 3 _ [] _ = _
    rw [b221_3, if_pos (by decide)]
  · repeat (first | exact EqX_rf | refine EqX_wA ?_ (by decide) | refine EqX_wC ?_ (by decide))
  · repeat (first | exact EqX_rf | refine EqX_wA ?_ (by decide) | refine EqX_wC ?_ (by decide))
theorem o_feed (hd : 12 ≤ d) (a1 a2 a3 a4 a5 : Int) : PI2 d CI2 160 222 vi [vi a1, vi a2, vi a3, vi a4, vi a5] := by
  intro i Sc Sm hi' hC
  have hC' := hC
  obtain ⟨hN, hT, hS, hW, hK, hO, hX, hP, hR, hF, hA, hH, hQ, hG⟩ := hC
  have uP := hP; unfold IP at uP
  obtain ⟨N, hNN⟩ : ∃ N : Nat, (gD Sc 29 0 2) = (N : Int) := Int.eq_ofNat_of_zero_le uP.2.1
  have hM : (gD Sm 85 0 31) = (N : Int) := uP.1.trans hNN
  have c2 := (E160 (d := d) (by omega) Sc a1 a2 a3 a4 a5).trans (b160_0 oo (EE false (d - 1)) 999999 Sc a1 a2 a3 a4 a5)
  have m2 := (E222 (d := d) (by omega) Sm a1 a2 a3 a4 a5).trans (b222_0 oo (EE false (d - 1)) 999999 Sm a1 a2 a3 a4 a5)
  rw [E57 (by omega), b57_0, hNN] at c2
  rw [hM, aw_id (by omega)] at m2
  by_cases h : N ≤ 180
  · rw [if_neg (by omega), b_I, if_neg (by decide)] at c2
    rw [if_neg (by omega)] at m2
    obtain ⟨C1, M1, f1, f2, f3, f4, f5, f6⟩ := w_four (a := a1) (d := d - 1) (d' := d - 1) hP hNN (by omega) (by omega) (by omega)
    obtain ⟨C2, M2, k1, k2, k3, k4, k5, k6⟩ := w_four (a := a2) (d := d - 1) (d' := d - 1) f3 f4 (by omega) (by omega) (by omega)
    obtain ⟨C3, M3, l1, l2, l3, l4, l5, l6⟩ := w_four (a := a3) (d := d - 1) (d' := d - 1) k3 k4 (by omega) (by omega) (by omega)
    obtain ⟨C4, M4, j1, j2, j3, j4, j5, j6⟩ := w_four (a := a4) (d := d - 1) (d' := d - 1) l3 l4 (by omega) (by omega) (by omega)
    obtain ⟨C5, M5, v1, v2, v3, v4, v5, v6⟩ := w_four (a := a5) (d := d - 1) (d' := d - 1) j3 j4 (by omega) (by omega) (by omega)
    rw [f1, b_V, k1, b_V, l1, b_V, j1, b_V, v1, b_V] at c2
    rw [f2, b_V, k2, b_V, l2, b_V, j2, b_V, v2, b_V] at m2
    have x1 := EqX_tr (EqX_tr (EqX_tr (EqX_tr f5 k5) l5) j5) v5
    have x2 := EqX_tr (EqX_tr (EqX_tr (EqX_tr f6 k6) l6) j6) v6
    have e : (gD M5 85 0 31) = (gD C5 29 0 2) := by unfold IP at v3; exact v3.1
    rw [e] at m2
    exact ⟨_, _, _, c2, EqC_of x1 rfl, m2, EqM_of x2 rfl, ⟨IN_fr (AgX x1 rfl) (AgX x2 rfl) hN, IT_fr (AgX x1 rfl) (AgX x2 rfl) hT, IS_up (IS_fr (AgX x1 rfl) (AgX x2 rfl) hS), IW_fr (AgX x1 rfl) (AgX x2 rfl) hW, IC_fr (AgX x1 rfl) (AgX x2 rfl) hK, IO_fr (AgX x1 rfl) (AgX x2 rfl) hO, IX_up (IX_fr (AgX x1 rfl) (AgX x2 rfl) hX), v3, IR_fr (AgX x1 rfl) (AgX x2 rfl) hR, IF_fr (AgX x1 rfl) (AgX x2 rfl) hF, IA_fr (AgX x1 rfl) (AgX x2 rfl) hA, IH_fr (AgX x1 rfl) (AgX x2 rfl) hH, IQ_fr (AgX x1 rfl) (AgX x2 rfl) hQ, IG_fr (AgX x1 rfl) (AgX x2 rfl) hG⟩⟩
  · rw [if_pos (by omega), b_I, if_pos rfl] at c2
    rw [if_pos (by omega)] at m2
    exact ⟨-1, Sc, Sm, c2, EqC_rf, m2, EqM_rf, CI2_up hC'⟩
end
