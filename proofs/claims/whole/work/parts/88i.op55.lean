/-! ring -/
section
variable {d : Nat}
theorem ite_c {c : Prop} [Decidable c] {α : Type} {a b x : α} (h : c) (e : a = x) : (if c then a else b) = x := by rw [if_pos h]; exact e
def mkE (S : SD) : AT := (fun r => ((gD S 47 r 12)).toNat, fun r => ((gD S 47 r 13)).toNat, fun r => (gD S 47 r 14))
theorem ADT_of {Sc Sm : SD} {D : DT} (hT : IT Sc Sm) (hm : ∀ r, r < 20 → dm D r = true → (r : Int) < (gD Sc 41 0 8) ∧ RR3 r Sc Sm ∧ PLN Sc r) : ADT D (mkE Sc) Sc Sm := by
  unfold IT at hT
  obtain ⟨t1, t2, t3, _⟩ := hT
  unfold ADT
  intro r hr hmr
  obtain ⟨g1, g2, g3⟩ := hm r hr hmr
  unfold RR3 at g2
  obtain ⟨l1, l2, l3, l4, l5, l6, l7, l8, l9⟩ := g2
  obtain ⟨p1, p2, p3, p4, p5, p6⟩ := l9.elim id (fun q => absurd q.2.1 g3.1)
  have et : ((eat (mkE Sc) r : Nat) : Int) = (gD Sc 47 r 12) := Int.toNat_of_nonneg l6
  have ef : ((eaf (mkE Sc) r : Nat) : Int) = (gD Sc 47 r 13) := Int.toNat_of_nonneg p3
  have en : ean (mkE Sc) r = (gD Sc 47 r 14) := rfl
  rw [et, ef, en]
  exact ⟨rfl, by omega, rfl, by omega, rfl, p5, p6, l5, p2, l8, g1⟩
theorem w_next0 {K : KT} {S : SD} {bits : Int} (hb : ∀ r, r < 20 → ti bits r = false) : ∀ n r : Nat, r ≤ 20 → 20 - r < n → run oo K false mi_10 n 2 [(0, vr (some (55, 0))), (1, vi bits), (2, vi (r : Int))] [] S = some (vi (-1), S) := by
  intro n
  induction n with
  | zero => intro r z1 z2; omega
  | succ n ih =>
    intro r z1 z2
    rw [b10_2]
    by_cases hr : r < 20
    · rw [if_pos (by omega), bit32 _ _ (by omega), hb r hr, if_neg (by decide), awp (show r < 1000000 by omega)]
      exact ih (r + 1) (by omega) (by omega)
    · rw [if_neg (by omega)]
/-- nothing acts where no rule is looked at -/
theorem q_follow0 {S : SD} {bits : Int} (hd : 2 ≤ d) (hb : ∀ r, r < 20 → ti bits r = false) (hu : (gD S 55 0 8) = 0) : EE false d 11 [vr (some (55, 0)), vi bits] S = some (vi (-1), S) := by
  have s1 := (E12 (d := d - 1) (by omega) S 0).trans (b12_0 oo (EE false (d - 1 - 1)) 999999 S 0)
  rw [show (999999 : Nat) = 999998 + 1 from rfl, b12_2, if_neg (by decide)] at s1
  have s2 := (E10 (d := d - 1) (by omega) S bits).trans ((b10_0 oo (EE false (d - 1 - 1)) 999999 S bits).trans (w_next0 hb 999999 0 (by omega) (by omega)))
  rw [E11 (by omega), b11_0, show (999999 : Nat) = 999998 + 1 from rfl, b11_2, if_neg (by decide), s1, b_I, if_pos rfl, s2, b_I, q_ruleAt0 (by omega) _ (by omega), b_R0]
theorem o_ring (hd : 12 ≤ d) : PI2 d CI2 174 286 vi [] := by
  intro i Sc Sm hi' hC
  have hC' := hC
  obtain ⟨hN, hT, hS, hW, hK, hO, hX, hP, hR, hF, hA, hH, hQ, hG⟩ := hC
  have uR := hR; unfold IR at uR
  obtain ⟨r1, r2, r3, r4, r5⟩ := uR
  have uH := hH; unfold IH at uH
  obtain ⟨u1, u2, u3, u4, u5, u6, u7, u8, u9⟩ := uH
  have hT' := hT
  unfold IT at hT'
  obtain ⟨t1, t2, t3, _⟩ := hT'
  obtain ⟨N, hNs⟩ := Int.eq_ofNat_of_zero_le r2
  have c2 := (E174 (d := d) (by omega) Sc).trans (b174_0 oo (EE false (d - 1)) 999999 Sc)
  have m2 := (E286 (d := d) (by omega) Sm).trans (b286_0 oo (EE false (d - 1)) 999999 Sm)
  have c3 := (E2 (d := d - 1) (by omega) Sc).trans (b2_0 oo (EE false (d - 1 - 1)) 999999 Sc)
  obtain ⟨bits, q1, q2⟩ := q_plainIn (d := d - 1 - 1) hR (by omega)
  rw [q1, b_I] at c3
  have y0 : EqX [] [(85, 90)] Sm (wD Sm 85 0 90 0) := EqX_wC EqX_rf (by decide)
  obtain ⟨m, M1, k1, k2, k3, k4, k5⟩ := w_looks (d := d - 1) (IR_fr AgA_rf (AgX y0 rfl) hR) (IF_fr AgA_rf (AgX y0 rfl) hF) (by omega) hNs 999999 0 (wD Sm 85 0 90 0) (by omega) (by omega) EqX_rf (by rw [g_e]; rfl) (fun l h => absurd h (by show ¬ l < 0; omega))
  have m2 := m2.trans k2
  obtain ⟨m, rfl⟩ : ∃ k, m = k + 1 := ⟨m - 1, by omega⟩
  have y1 : EqX RMA RMC Sm M1 := EqX_tr (EqX_mo y0 (by decide) (by decide)) (EqX_mo k3 (by decide) (by decide))
  have eL : cnt (memR Sc) 20 = cnt (memR Sc) N := cnt_s (by omega) (fun r a b => memR_f (fun q => by omega))
  rw [← eL] at k4 k5
  have hT1 := IT_fr AgA_rf (AgX y1 rfl) hT
  have hL20 := cnt_le (p := memR Sc) 20
  have hD := DAT_of (mem := memR Sc) (L := cnt (memR Sc) 20) (lk := nthP (memR Sc) 20) hT1 (fun r hr hm => by
    have := memR_t.mp hm
    exact ⟨this.1, RR1_fr AgA_rf (AgX y1 rfl) (r5 r this.1).1, this.2.2⟩) k4 hL20 (fun l hl => by
    obtain ⟨a1, a2, a3⟩ := nthP_sp hl
    exact ⟨k5 l hl, a1, a2⟩) (fun l m hl hm => nthP_lt hl hm) (fun r hr hm => ⟨cnt (memR Sc) r, cnt_in hr hm, nthP_cnt hm hr⟩)
  have hDm : ∀ r, dm (mkD (memR Sc) Sc (cnt (memR Sc) 20) (nthP (memR Sc) 20)) r = memR Sc r := fun r => rfl
  have hDL : dL (mkD (memR Sc) Sc (cnt (memR Sc) 20) (nthP (memR Sc) 20)) = cnt (memR Sc) 20 := rfl
  generalize hDD : mkD (memR Sc) Sc (cnt (memR Sc) 20) (nthP (memR Sc) 20) = D at hD hDm hDL
  have hb : ∀ r, r < 20 → ti bits r = dm D r := fun r hr => by rw [q2 r hr, hDm]
  have hE : ADT D (mkE Sc) Sc M1 := ADT_of hT1 (fun r hr hm => by
    rw [hDm] at hm
    have := memR_t.mp hm
    exact ⟨this.1, RR3_fr AgA_rf (AgX y1 rfl) (r5 r this.1).2.2, this.2.2⟩)
  obtain ⟨S1, S2, v1, v2, v3, v4⟩ := q_gather (d := d - 1 - 1) (by omega) hT1 hD hb u9
  rw [v1, b_I] at c3
  have eR : (gD M1 85 0 32) = (N : Int) := by rw [EqX_c y1 85 32 rfl, r1, hNs]
  have tr1 : (gD M1 85 0 63) = 0 := by rw [EqX_c k3 85 63 rfl, g_k (by decide)]; exact r4
  rw [b286_7, eR, if_neg (by omega), k4] at m2
  have spent : ∀ M5, EqX RMA RMC Sm M5 → (gD M5 85 0 63) = 0 → EE false (d - 1) 2 [vr (some (55, 0))] Sc = some (vi (-2), S2) → EE false d 286 [vr (some (85, 0))] Sm = some (vi (-2), M5) → ∃ (x : Int) (Sc' Sm' : SD), EE false d 174 (vr (some (2, 0)) :: []) Sc = some (vi x, Sc') ∧ EqC Sc Sc' ∧ EE false d 286 (vr (some (85, 0)) :: []) Sm = some (vi x, Sm') ∧ EqM Sm Sm' ∧ CI2 (i + 1) Sc' Sm' := fun M5 xm h0 q1 q2 => by
    rw [q1, b_I] at c2
    obtain ⟨f1, f2, f3⟩ := FIN_rg hC' (EqX_mo v2 (by decide) (by decide) : EqX RCA3 RCC3 Sc S2) (EqX_mo xm (by decide) (by decide) : EqX RMA3 RMC3 Sm M5) ⟨rfl, rfl⟩ ⟨rfl, rfl⟩ (IH_tr v2 xm rfl rfl hH v3) h0
    exact ⟨-2, S2, M5, c2, f1, q2, f2, f3⟩
  -- the slots of the class
  have give : cnt (hcB D) 120 ≤ 12 → FNd D S2 → ∃ S3, EE false (d - 1 - 1) 5 [vr (some (55, 0)), vi bits] (wD S2 55 0 8 (gD S2 62 0 7)) = some (vi 0, S3) ∧ EqX [64] [(55, 8)] S2 S3 ∧ SLc (tabs (dm D) (eac (mkE Sc)) (cnt (hcB D) 120) (clD D) 20).1 (tabs (dm D) (eac (mkE Sc)) (cnt (hcB D) 120) (clD D) 20).2 S3 := fun h12 n1 => by
    rw [E5 (by omega), b5_0]
    refine w_give (d := d - 1 - 1 - 1) (Sc0 := S2) (Sm := M1) (ADT_fr (AgX v2 rfl) AgA_rf hE) hb h12 (by omega) 999999 0 _ (by omega) (by omega) (EqX_wC EqX_rf (by decide)) ?_
    refine ⟨?_, fun s hs => ?_, fun c hc => ?_⟩
    · rw [g_e]; exact n1.1
    · obtain ⟨a1, a2, a3⟩ := clD_sp (D := D) hs
      refine ⟨a1, ?_⟩
      rw [g_f (by decide)]
      show gD S2 64 0 (clD D s) = _
      rw [n1.2.1 _ a1, a2, if_pos rfl, a3]
    · rw [g_f (by decide), n1.2.1 c hc]
      cases hh : hcB D c with
      | false => exact Or.inl rfl
      | true => exact Or.inr ⟨cnt (hcB D) c, cnt_in hc hh, clD_cnt hh hc⟩
  by_cases hL : cnt (memR Sc) 20 = 0
  · -- no rule
    have hn : ∀ r, r < 20 → dm D r = false := fun r hr => by
      cases hh : dm D r with
      | false => rfl
      | true =>
        rw [hDm] at hh
        have := cnt_in hr hh
        omega
    have hF0 : ∀ j, j < 320 → iF D j = false := fun j hj => by
      unfold iF
      rw [hn (j / 16) (by omega)]
      rfl
    have hc0 : ∀ c, hcB D c = false := fun c => by
      unfold hcB
      have : cnt (fF D c) 320 = cnt (fF D c) 0 := cnt_s (by omega) (fun j _ hj => by unfold fF; rw [hF0 j hj]; rfl)
      rw [this]
      rfl
    have hR0 : cnt (hcB D) 120 = 0 := cnt_s (p := hcB D) (n := 0) (by omega) (fun c _ _ => hc0 c)
    have ht0 : (tabs (dm D) (eac (mkE Sc)) (cnt (hcB D) 120) (clD D) 20).1 = 0 := by
      rw [tabs_s (a := 0) (by omega) (fun r _ hr => hn r hr)]
      exact hR0
    rw [hL] at m2
    rw [if_neg (by decide), if_pos (by decide), if_neg (by decide)] at m2
    obtain ⟨m', rfl⟩ : ∃ k, m = k + 1 := ⟨m - 1, by omega⟩
    rw [b286_117, if_neg (by decide)] at m2
    have hp1 : prN (DN D Sc) (cnt (hcB D) 120) = 1 := by rw [hR0]; rfl
    rw [if_pos (show cnt (hcB D) 120 ≤ 12 by omega), hp1, if_pos (show 1 ≤ 20000 by omega), if_neg (by decide), if_neg (by decide)] at c3
    obtain ⟨n1, n2⟩ := v4 (by omega) (by omega)
    obtain ⟨S3, w1, w2, w3⟩ := give (by omega) n1
    rw [w1, b_V] at c3
    have hu3 : (gD S3 55 0 8) = 0 := by rw [w3.1, ht0]; rfl
    have hCS : CSt D Sc S3 := CSt_fr (AgX w2 rfl) ⟨n1.1, n1.2.2, fun t ht => n2.2.1 t ht, fun t i ht hi => n2.2.2.1 t i ht hi⟩
    obtain ⟨S4, x1, x2, x3⟩ := q_put (d := d - 1 - 1) (row := 0) (U := 0) (by omega) hR0 (by omega) (by omega) hCS hu3 (fun t h => by omega)
    have f0 := q_follow0 (d := d - 1 - 1) (S := S4) (by omega) (fun r hr => by rw [hb r hr]; exact hn r hr) (by rw [EqX_c x2 55 8 rfl]; exact hu3)
    obtain ⟨S5, z1, z2, z3⟩ := q_turn (d := d - 1 - 1) (row := 0) (by omega) hR0 (by omega) (CSt_fr (AgX x2 rfl) hCS) (fun t h => by omega)
    have e999 : (999999 : Nat) = 999998 + 1 := rfl
    have e998 : (999998 : Nat) = 999997 + 1 := rfl
    rw [e999, b2_48, if_pos (by decide), x1, b_V, f0, b_I, if_neg (by decide), if_pos rfl, z1, b_V, e998, b2_48, if_neg (by decide), E3 (by omega), b3_0, b_V] at c3
    rw [c3, b_I] at c2
    have xx : EqX RCA3 RCC3 Sc (wD (wD S5 55 0 9 0) 55 0 10 0) := EqX_wC (EqX_wC (EqX_tr (EqX_tr (EqX_mo v2 (by decide) (by decide)) (EqX_mo w2 (by decide) (by decide))) (EqX_tr (EqX_mo x2 (by decide) (by decide)) (EqX_mo z2 (by decide) (by decide)))) (by decide)) (by decide)
    have xy : EqX RMA3 RMC3 Sm (wD (wD M1 85 0 92 0) 85 0 96 0) := EqX_wC (EqX_wC (EqX_mo y1 (by decide) (by decide)) (by decide)) (by decide)
    have e2 : (gD S5 66 0 0) = 0 := by rw [EqX_a z2 66 rfl, EqX_a x2 66 rfl, EqX_a w2 66 rfl]; exact v3
    obtain ⟨f1, f2, f3⟩ := FIN_rg hC' xx xy ⟨rfl, rfl⟩ ⟨rfl, rfl⟩ (by
      unfold IH
      simp (disch := decide) only [g_e, g_k, g_f, e2]
      exact ⟨trivial, by omega, by omega, trivial, by omega, by omega, fun k hk => absurd hk (by omega), fun k hk => absurd hk (by omega), trivial⟩) (by rw [g_k (by decide), g_k (by decide)]; exact tr1)
    exact ⟨0, _, _, c2, f1, m2, f2, f3⟩
  · obtain ⟨M2, w1, w2, w3⟩ := q_gathers (d := d - 1) (by omega) hD t2
    have y2 : EqX RMA RMC Sm M2 := EqX_tr y1 (EqX_mo w2 (by decide) (by decide))
    have tr2 : (gD M2 85 0 63) = 0 := by rw [EqX_c w2 85 63 rfl]; exact tr1
    rw [if_pos (by omega), w1, b_I] at m2
    by_cases h12 : cnt (hcB D) 120 ≤ 12
    · rw [if_pos h12] at c3 m2
      have hG := GMd_of hD (w3 h12)
      have hT2 := IT_fr AgA_rf (AgX y2 rfl) hT
      have hD2 := DAT_fr AgA_rf (AgX w2 rfl) hD
      have eL2 : (gD M2 85 0 90) = (cnt (memR Sc) 20 : Int) := by rw [EqX_c w2 85 90 rfl]; exact k4
      obtain ⟨M3, s1, s2⟩ := q_rowsOf (d := d - 1) (by omega) hT2 hD2 hG h12
      have y3 : EqX RMA RMC Sm M3 := EqX_tr y2 (EqX_mo s2.1 (by decide) (by decide))
      have tr3 : (gD M3 85 0 63) = 0 := (EqX_c s2.1 85 63 rfl 0).trans tr2
      have eL3 : (gD M3 85 0 90) = (cnt (memR Sc) 20 : Int) := by rw [EqX_c s2.1 85 90 rfl]; exact eL2
      rw [if_neg (by decide), eL2, if_neg (by omega), s1, b_I] at m2
      by_cases hp : prN (DN D Sc) (cnt (hcB D) 120) ≤ 2000
      · rw [if_pos (show prN (DN D Sc) (cnt (hcB D) 120) ≤ 20000 by omega), if_neg (by omega), if_neg (by omega)] at c3
        rw [if_neg (by omega), eL3, if_pos (by omega), Nat.min_eq_right (by omega)] at m2
        obtain ⟨n1, n2⟩ := v4 h12 (by omega)
        obtain ⟨S3, g1, g2, g3⟩ := give h12 n1
        have hT3 := IT_fr AgA_rf (AgX y3 rfl) hT
        have hD3 := DAT_fr AgA_rf (AgX s2.1 rfl) hD2
        have hE3 : ADT D (mkE Sc) Sc M3 := ADT_fr AgA_rf (AgX s2.1 rfl) (ADT_fr AgA_rf (AgX w2 rfl) hE)
        have hG3 := GMd_fr s2.1 rfl rfl rfl rfl hG
        obtain ⟨M4, j1, j2, j3⟩ := q_fieldsOf (d := d - 1) hD3 hE3 hG3 rfl h12 (by omega)
        rw [g1, b_V] at c3
        rw [j1, b_V] at m2
        have x3 : EqX RCA RCC Sc S3 := EqX_tr (EqX_mo v2 (by decide) (by decide)) (EqX_mo g2 (by decide) (by decide))
        have y4 : EqX RMA RMC Sm M4 := EqX_tr y3 (EqX_mo j2 (by decide) (by decide))
        have tr4 : (gD M4 85 0 63) = 0 := (EqX_c j2 85 63 rfl 0).trans tr3
        have hCS : CSt D Sc S3 := CSt_fr (AgX g2 rfl) ⟨n1.1, n1.2.2, fun t ht => n2.2.1 t ht, fun t i ht hi => n2.2.2.1 t i ht hi⟩
        have hMS : MSt D Sc M4 := MSt_fr (AgX j2 rfl) ⟨hG3, s2.2⟩
        obtain ⟨b1, b2, b3⟩ := tabs_le (mem := dm D) (ac := eac (mkE Sc)) (R := cnt (hcB D) 120) (cl := clD D) 20
        have b4 := cnt_le (p := dm D) 20
        have hRG : RGs D (mkE Sc) (tabs (dm D) (eac (mkE Sc)) (cnt (hcB D) 120) (clD D) 20).1 (tabs (dm D) (eac (mkE Sc)) (cnt (hcB D) 120) (clD D) 20).2 S3 M4 := by
          refine ⟨IT_fr (AgX x3 rfl) (AgX y4 rfl) hT, fun r hr hm => ?_, DAT_fr (AgX x3 rfl) (AgX j2 rfl) hD3, ADT_fr (AgX x3 rfl) (AgX j2 rfl) hE3, g3, j3, hMS.1, fun c hc hh => ?_, by omega, h12, b2, fun r hm hr => tabs_has hm 20 hr⟩
          · rw [hDm] at hm
            have := memR_t.mp hm
            exact ⟨RR1_fr (AgX x3 rfl) (AgX y4 rfl) (r5 r this.1).1, RR2_fr (AgX x3 rfl) (AgX y4 rfl) (r5 r this.1).2.1⟩
          · have h9 := cnt_in hc hh
            have := (g3.2.1 (cnt (hcB D) c) (by omega)).2
            rw [b3 _ h9, clD_cnt hh hc] at this
            exact this
        obtain ⟨v, S9, M9, f1, f2, f3, f4, f5, f6⟩ := w_ring (d := d - 1 - 1) (d' := d - 1) hT hH hb (by omega) (by omega) hp 999999 0 m S3 M4 (by omega) (by omega) (by omega) x3 y4 hRG hCS hMS (fun t ht => by rw [EqX_a g2 67 rfl, n2.2.2.2 t ht, dgt_0]; rfl) tr4
        have c3 := c3.trans f1
        have m2 := m2.trans f2
        rw [c3, b_I] at c2
        obtain ⟨e1, e2, e3⟩ := FIN_rg hC' f3 f4 ⟨rfl, rfl⟩ ⟨rfl, rfl⟩ f5 f6
        exact ⟨v, S9, M9, c2, e1, m2, e2, e3⟩
      · rw [if_pos (by omega)] at m2
        by_cases hp2 : prN (DN D Sc) (cnt (hcB D) 120) ≤ 20000
        · rw [if_pos hp2, if_neg (by omega), if_pos (by omega)] at c3
          exact spent M3 y3 tr3 c3 m2
        · rw [if_neg hp2, if_pos rfl] at c3
          exact spent M3 y3 tr3 c3 m2
    · rw [if_neg h12] at c3 m2
      rw [if_pos rfl] at c3 m2
      exact spent M2 y2 tr2 c3 m2
end
