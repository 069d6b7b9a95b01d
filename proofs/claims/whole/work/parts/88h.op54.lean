/-! ring: the rows, on both sides -/
section
variable {d : Nat}
abbrev RCA : List Nat := [64, 63, 65, 66, 67, 56, 57, 58]
abbrev RCC : List (Nat × Nat) := [(62, 7), (55, 8)]
abbrev RMA : List Nat := [156, 149, 147, 148, 151, 150, 152, 153, 134, 154, 155, 161, 162]
abbrev RMC : List (Nat × Nat) := [(85, 79), (85, 90), (85, 63), (85, 87)]
abbrev RCA3 : List Nat := [64, 63, 65, 66, 67, 56, 57, 58, 59, 60, 61]
abbrev RCC3 : List (Nat × Nat) := [(62, 7), (55, 8), (55, 9), (55, 10)]
abbrev RMA3 : List Nat := [156, 149, 147, 148, 151, 150, 152, 153, 134, 154, 155, 161, 162, 157, 158, 159, 160]
abbrev RMC3 : List (Nat × Nat) := [(85, 79), (85, 90), (85, 63), (85, 87), (85, 92), (85, 96)]
theorem FIN_rg {i : Nat} {Sc Sm Sc' Sm' : SD} {A C A' C'} (hC : CI2 i Sc Sm) (x1 : EqX A C Sc Sc') (x2 : EqX A' C' Sm Sm') (hA : A = RCA3 ∧ C = RCC3) (hA' : A' = RMA3 ∧ C' = RMC3) (hH' : IH Sc' Sm') (h0 : (gD Sm' 85 0 63) = 0) : EqC Sc Sc' ∧ EqM Sm Sm' ∧ CI2 (i + 1) Sc' Sm' := by
  obtain ⟨rfl, rfl⟩ := hA
  obtain ⟨rfl, rfl⟩ := hA'
  obtain ⟨hN, hT, hS, hW, hK, hO, hX, hP, hR, hF, hA, hH, hQ, hG⟩ := hC
  exact ⟨EqC_of x1 rfl, EqM_of x2 rfl, ⟨IN_fr (AgX x1 rfl) (AgX x2 rfl) hN, IT_fr (AgX x1 rfl) (AgX x2 rfl) hT, IS_up (IS_fr (AgX x1 rfl) (AgX x2 rfl) hS), IW_fr (AgX x1 rfl) (AgX x2 rfl) hW, IC_fr (AgX x1 rfl) (AgX x2 rfl) hK, IO_fr (AgX x1 rfl) (AgX x2 rfl) hO, IX_up (IX_fr (AgX x1 rfl) (AgX x2 rfl) hX), IP_fr (AgX x1 rfl) (AgX x2 rfl) hP, IR_tr x1 x2 rfl rfl rfl rfl rfl rfl rfl rfl hR h0, IF_fr (AgX x1 rfl) (AgX x2 rfl) hF, IA_fr (AgX x1 rfl) (AgX x2 rfl) hA, hH', IQ_fr (AgX x1 rfl) (AgX x2 rfl) hQ, IG_fr (AgX x1 rfl) (AgX x2 rfl) hG⟩⟩
theorem w_go5 {K : KT} {S0 : SD} {R U : Nat} (hU : U ≤ 32) (hu : (gD S0 85 0 87) = (U : Int)) : ∀ (n j : Nat) (S : SD), R ≤ j → j ≤ U → U - j < n → EqX [153] [] S0 S → (∀ s, s < R → (gD S 153 0 s) = (gD S0 153 0 s)) → (∀ s, R ≤ s → s < j → (gD S 153 0 s) = -1000000) → ∃ m S', n ≤ m + 33 ∧ run oo K false mi_285 n 5 [(0, vr (some (85, 0))), (1, vi (j : Int))] [] S = run oo K false mi_285 m 30 [(0, vr (some (85, 0))), (1, vi 0)] [] S' ∧ EqX [153] [] S0 S' ∧ (∀ s, s < R → (gD S' 153 0 s) = (gD S0 153 0 s)) ∧ ∀ s, R ≤ s → s < U → (gD S' 153 0 s) = -1000000 := by
  suffices H : ∀ (n j : Nat) (S : SD), R ≤ j → j ≤ U → U - j < n → EqX [153] [] S0 S → (∀ s, s < R → (gD S 153 0 s) = (gD S0 153 0 s)) → (∀ s, R ≤ s → s < j → (gD S 153 0 s) = -1000000) → ∃ m S', n ≤ m + (U + 1 - j) ∧ run oo K false mi_285 n 5 [(0, vr (some (85, 0))), (1, vi (j : Int))] [] S = run oo K false mi_285 m 30 [(0, vr (some (85, 0))), (1, vi 0)] [] S' ∧ EqX [153] [] S0 S' ∧ (∀ s, s < R → (gD S' 153 0 s) = (gD S0 153 0 s)) ∧ ∀ s, R ≤ s → s < U → (gD S' 153 0 s) = -1000000 from fun n j S a b c e f g => by
    obtain ⟨m, S', i1, i2⟩ := H n j S a b c e f g
    exact ⟨m, S', by omega, i2⟩
  intro n
  induction n with
  | zero => intro j S z0 z1 z2; omega
  | succ n ih =>
    intro j S z0 z1 z2 x z3 z4
    rw [b285_5, EqX_c x 85 87 rfl, hu]
    by_cases hj : j < U
    · rw [if_pos (by omega), if_pos (by omega), tn, awp (show j < 1000000 by omega)]
      obtain ⟨m, S', i1, i2⟩ := ih (j + 1) (wD S 153 0 j (-1000000)) (by omega) (by omega) (by omega) (EqX_wA x (by decide)) (fun s hs => by rw [g_i, if_neg (by omega)]; exact z3 s hs) (fun s h1 h2 => by
        rw [g_i]
        by_cases e : s = j
        · rw [if_pos e]
        · rw [if_neg e]; exact z4 s h1 (by omega))
      exact ⟨m, S', by omega, i2⟩
    · have e : j = U := by omega
      subst e
      rw [if_neg (by omega)]
      exact ⟨n, S, by omega, rfl, x, z3, z4⟩
theorem w_ring {d' : Nat} {D : DT} {E : AT} {U : Nat} {cc : Nat → Nat} {B0 N0 : SD} {bits : Int} (hT0 : IT B0 N0) (hH : IH B0 N0) (hb : ∀ r, r < 20 → ti bits r = dm D r) (hd : 7 ≤ d) (hd' : 8 ≤ d') (hX : prN (DN D B0) (cnt (hcB D) 120) ≤ 2000) : ∀ (n row n2 : Nat) (Sc Sm : SD), row ≤ prN (DN D B0) (cnt (hcB D) 120) → prN (DN D B0) (cnt (hcB D) 120) - row < n → prN (DN D B0) (cnt (hcB D) 120) - row < n2 → EqX RCA RCC B0 Sc → EqX RMA RMC N0 Sm → RGs D E U cc Sc Sm → CSt D B0 Sc → MSt D B0 Sm → (∀ t, t < cnt (hcB D) 120 → (gD Sc 67 0 t) = (dgt (DN D B0) (cnt (hcB D) 120) row t : Int)) → (gD Sm 85 0 63) = 0 → ∃ v Sc' Sm', run oo (EE false d) false mi_2 n 48 [(0, vr (some (55, 0))), (1, vi bits), (2, vi (prN (DN D B0) (cnt (hcB D) 120) : Int)), (3, vi (row : Int))] [] Sc = some (vi v, Sc') ∧ run oo (EE false d') false mi_286 n2 117 [(0, vr (some (85, 0))), (1, vi (prN (DN D B0) (cnt (hcB D) 120) : Int)), (2, vi (row : Int))] [] Sm = some (vi v, Sm') ∧ EqX RCA3 RCC3 B0 Sc' ∧ EqX RMA3 RMC3 N0 Sm' ∧ IH Sc' Sm' ∧ (gD Sm' 85 0 63) = 0 := by
  intro n
  induction n with
  | zero => intro row n2 Sc Sm z1 z2; omega
  | succ n ih =>
    intro row n2 Sc Sm z1 z2 z3 xc xm hG hC hM ht h0
    obtain ⟨n2, rfl⟩ : ∃ k, n2 = k + 1 := ⟨n2 - 1, by omega⟩
    rw [b2_48, b286_117]
    by_cases hrow : row < prN (DN D B0) (cnt (hcB D) 120)
    · have hGG := hG
      obtain ⟨h1, h2, h3, h4, h5, h6, h7, h8, h9, h10, h11, h12⟩ := hGG
      obtain ⟨S1, i1, i2, i3⟩ := q_put (d := d) (by omega) rfl h10 h9 hC h5.1 ht
      obtain ⟨M1, j1, j2, j3⟩ := q_begins (d := d') (by omega) rfl h10 (show row ≤ 20001 by omega) hM
      have hG1 := RGs_fr (EqX_mo i2 (by decide) (by decide)) (EqX_mo j2 (by decide) (by decide)) hG
      have hGG1 := hG1
      obtain ⟨_, _, _, _, _, g6, _⟩ := hGG1
      have hM1 : MSt D B0 M1 := MSt_fr (AgX j2 rfl) hM
      have hC1 : CSt D B0 S1 := CSt_fr (AgX i2 rfl) hC
      obtain ⟨m, M2, k1, k2, k3, k4, k5⟩ := w_go5 (K := EE false (d' - 1)) (S0 := M1) (R := cnt (hcB D) 120) h9 g6.1 999999 (cnt (hcB D) 120) M1 (Nat.le_refl _) h11 (by omega) EqX_rf (fun s hs => rfl) (fun s a b => by omega)
      have hG2 := RGs_fr (EqX_rf : EqX FCB FCC S1 S1) (EqX_mo k3 (by decide) (by decide)) hG1
      have hv : VCs D U S1 M2 := ⟨fun s hs => by
        rw [i3 s hs]
        by_cases e : s < cnt (hcB D) 120
        · rw [k4 s e, (j3 s e).2]
        · rw [k5 s (by omega) hs]
          unfold VAL
          rw [if_neg e], fun s hs => by
        rw [i3 s (by omega)]
        exact VAL_ne hT0 hs⟩
      have ht1 : ∀ t, t < cnt (hcB D) 120 → (gD S1 67 0 t) = (dgt (DN D B0) (cnt (hcB D) 120) row t : Int) := fun t h => (EqX_a i2 67 rfl 0 t).trans (ht t h)
      have h02 : (gD M2 85 0 63) = 0 := by
        rw [EqX_c k3 85 63 rfl, EqX_c j2 85 63 rfl]
        exact h0
      obtain ⟨vc, vm, S3, M3, l1, l2, l3, l4⟩ := w_follow (d := d - 1) (d' := d' - 1) hb (by omega) (by omega) hG2 hC1 ht1 999999 0 m S1 M2 (by omega) (by omega) (by omega) EqX_rf EqX_rf hv (fun k s hk => by omega) (fun k hk => by omega) h02
      have c2 := (E11 (d := d) (by omega) S1 bits).trans ((b11_0 oo (EE false (d - 1)) 999999 S1 bits).trans l1)
      have k2' : run oo (EE false (d' - 1)) false mi_285 999999 5 [(0, vr (some (85, 0))), (1, vi ((cnt (hcB D) 120 : Nat) : Int))] [] M1 = some (vi vm, M3) := k2.trans l2
      rw [← hM1.1.1] at k2'
      have m2 := (E285 (d := d') (by omega) M1).trans ((b285_0 oo (EE false (d' - 1)) 999999 M1).trans k2')
      have xc1 : EqX RCA RCC B0 S1 := EqX_tr xc (EqX_mo i2 (by decide) (by decide))
      have xm1 : EqX RMA RMC N0 M1 := EqX_tr xm (EqX_mo j2 (by decide) (by decide))
      have xm2 : EqX RMA RMC N0 M2 := EqX_tr xm1 (EqX_mo k3 (by decide) (by decide))
      rw [if_pos (by omega), if_pos (by omega), i1, b_V, c2, b_I, j1, b_V, m2, b_I]
      rcases l4 with ⟨l5, l6, l7⟩ | ⟨mm, n1, n2, n3, rfl, n4, n5, n6, n7, n8, n9, n10⟩
      · have xc3 : EqX RCA RCC B0 S3 := EqX_tr xc1 (EqX_mo l6 (by decide) (by decide))
        have xm3 : EqX RMA RMC N0 M3 := EqX_tr xm2 (EqX_mo l7 (by decide) (by decide))
        have hC3 : CSt D B0 S3 := CSt_fr (AgX l6 rfl) hC1
        rcases l5 with ⟨rfl, rfl⟩ | ⟨rfl, rfl⟩
        · rw [if_neg (by decide), if_pos rfl, if_neg (by decide), if_pos rfl]
          obtain ⟨S4, p1, p2, p3⟩ := q_turn (d := d) (by omega) rfl h10 hC3 (fun t h => (EqX_a l6 67 rfl 0 t).trans (ht1 t h))
          rw [p1, b_V, awp (show row < 1000000 by omega)]
          exact ih (row + 1) n2 S4 M3 (by omega) (by omega) (by omega) (EqX_tr xc3 (EqX_mo p2 (by decide) (by decide))) xm3 (RGs_fr (EqX_tr (EqX_mo l6 (by decide) (by decide)) (EqX_mo p2 (by decide) (by decide))) (EqX_mo l7 (by decide) (by decide)) hG2) (CSt_fr (AgX p2 rfl) hC3) (MSt_fr (AgX l7 rfl) (MSt_fr (AgX k3 rfl) hM1)) p3 l3
        · rw [if_pos rfl, if_pos rfl]
          exact ⟨-2, S3, M3, rfl, rfl, EqX_mo xc3 (by decide) (by decide), EqX_mo xm3 (by decide) (by decide), IH_tr xc3 xm3 rfl rfl hH (hC3.2.2.1 0 (by omega)), l3⟩
      · have hM3 : MSt D B0 M3 := MSt_fr (AgX n5 rfl) (MSt_fr (AgX k3 rfl) hM1)
        obtain ⟨M4, p1, p2, p3⟩ := q_begins (d := d') (by omega) rfl h10 (show row ≤ 20001 by omega) hM3
        obtain ⟨M5, q1, q2, q3, q4⟩ := q_shows (d := d') (row := row) (by omega) rfl h10 (MSt_fr (AgX p2 rfl) hM3) (fun t h => (p3 t h).1)
        rw [if_neg (by omega), if_neg (by omega), n6, if_neg (by omega), if_neg (by omega), p1, b_V, q1, b_V]
        refine ⟨(mm : Int), S3, M5, rfl, rfl, EqX_tr (EqX_mo xc1 (by decide) (by decide)) (EqX_mo n4 (by decide) (by decide)), EqX_tr (EqX_tr (EqX_mo xm2 (by decide) (by decide)) (EqX_mo n5 (by decide) (by decide))) (EqX_tr (EqX_mo p2 (by decide) (by decide)) (EqX_mo q2 (by decide) (by decide))), ?_, ?_⟩
        · have e1 : (gD M5 85 0 96) = (mm : Int) := by rw [EqX_c q2 85 96 rfl, EqX_c p2 85 96 rfl]; exact n7
          have e2 : (gD S3 66 0 0) = 0 := by rw [EqX_a n4 66 rfl]; exact hC1.2.2.1 0 (by omega)
          have e3 : ∀ k, (gD M5 160 0 k) = (gD M3 160 0 k) := fun k => by rw [EqX_a q2 160 rfl, EqX_a p2 160 rfl]
          unfold IH
          rw [n9, n6, q3, e1, e2]
          refine ⟨rfl, by omega, by omega, rfl, by omega, by omega, fun k hk => ?_, fun k hk => ?_, rfl⟩
          · obtain ⟨u1, u2⟩ := n10 k (by omega)
            obtain ⟨w1, w2, w3⟩ := q4 k (by omega)
            obtain ⟨c1, c2, c3⟩ := clD_sp (D := D) (show k < cnt (hcB D) 120 by omega)
            rw [u1, u2, w1, w2, w3]
            refine ⟨?_, ?_, ?_, ?_, ?_, rfl⟩ <;> omega
          · rw [e3]
            exact n8 k (by omega)
        · rw [EqX_c q2 85 63 rfl, EqX_c p2 85 63 rfl]
          exact l3
    · rw [if_neg (by omega), if_neg (by omega), E3 (by omega), b3_0, b_V]
      refine ⟨0, _, _, rfl, rfl, EqX_wC (EqX_wC (EqX_mo xc (by decide) (by decide)) (by decide)) (by decide), EqX_wC (EqX_wC (EqX_mo xm (by decide) (by decide)) (by decide)) (by decide), ?_, by rw [g_k (by decide), g_k (by decide)]; exact h0⟩
      have e2 : (gD Sc 66 0 0) = 0 := hC.2.2.1 0 (by omega)
      unfold IH
      simp (disch := decide) only [g_e, g_k, g_f, e2]
      refine ⟨trivial, by omega, by omega, trivial, by omega, by omega, fun k hk => absurd hk (by omega), fun k hk => absurd hk (by omega), trivial⟩
end
