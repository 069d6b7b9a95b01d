/-! two that pull, both sides -/
section
variable {d : Nat}
theorem IR_tr {A C A' C'} {Sc Sc' Sm Sm' : SD} (x1 : EqX A C Sc Sc') (x2 : EqX A' C' Sm Sm') (k1 : frOK RR1_ac RR1_cc A C = true) (k2 : frOK RR2_ac RR2_cc A C = true) (k3 : frOK RR3_ac RR3_cc A C = true) (k4 : frOK [] [(41, 8)] A C = true) (m1 : frOK RR1_am RR1_cm A' C' = true) (m2 : frOK RR2_am RR2_cm A' C' = true) (m3 : frOK RR3_am RR3_cm A' C' = true) (m4 : frOK [] [(85, 32)] A' C' = true) (h : IR Sc Sm) (h0 : (gD Sm' 85 0 63) = 0) : IR Sc' Sm' := by
  unfold IR at h ⊢
  obtain ⟨r1, r2, r3, r4, r5⟩ := h
  have e1 : (gD Sc' 41 0 8) = (gD Sc 41 0 8) := (AgX x1 k4).2 (41, 8) (by decide) 0
  have e2 : (gD Sm' 85 0 32) = (gD Sm 85 0 32) := (AgX x2 m4).2 (85, 32) (by decide) 0
  rw [e1, e2]
  exact ⟨r1, r2, r3, h0, fun r hr => ⟨RR1_fr (AgX x1 k1) (AgX x2 m1) (r5 r hr).1, RR2_fr (AgX x1 k2) (AgX x2 m2) (r5 r hr).2.1, RR3_fr (AgX x1 k3) (AgX x2 m3) (r5 r hr).2.2⟩⟩
theorem IH_tr {A C A' C'} {Sc Sc' Sm Sm' : SD} (x1 : EqX A C Sc Sc') (x2 : EqX A' C' Sm Sm') (k1 : frOK [59, 60, 61] [(55, 9), (55, 10)] A C = true) (m1 : frOK IH_am IH_cm A' C' = true) (h : IH Sc Sm) (h0 : (gD Sc' 66 0 0) = 0) : IH Sc' Sm' := by
  have a1 := AgX x1 k1
  have a2 := AgX x2 m1
  have e1 : ∀ k, (gD Sc' 59 0 k) = (gD Sc 59 0 k) := fun k => a1.1 _ (by decide) 0 k
  have e2 : ∀ k, (gD Sc' 60 0 k) = (gD Sc 60 0 k) := fun k => a1.1 _ (by decide) 0 k
  have e3 : ∀ k, (gD Sc' 61 0 k) = (gD Sc 61 0 k) := fun k => a1.1 _ (by decide) 0 k
  have e4 : (gD Sc' 55 0 9) = (gD Sc 55 0 9) := a1.2 (55, 9) (by decide) 0
  have e5 : (gD Sc' 55 0 10) = (gD Sc 55 0 10) := a1.2 (55, 10) (by decide) 0
  have f1 : ∀ k, (gD Sm' 157 0 k) = (gD Sm 157 0 k) := fun k => a2.1 _ (by decide) 0 k
  have f2 : ∀ k, (gD Sm' 158 0 k) = (gD Sm 158 0 k) := fun k => a2.1 _ (by decide) 0 k
  have f3 : ∀ k, (gD Sm' 159 0 k) = (gD Sm 159 0 k) := fun k => a2.1 _ (by decide) 0 k
  have f4 : ∀ k, (gD Sm' 160 0 k) = (gD Sm 160 0 k) := fun k => a2.1 _ (by decide) 0 k
  have f5 : (gD Sm' 85 0 92) = (gD Sm 85 0 92) := a2.2 (85, 92) (by decide) 0
  have f6 : (gD Sm' 85 0 96) = (gD Sm 85 0 96) := a2.2 (85, 96) (by decide) 0
  unfold IH at h ⊢
  simp only [e1, e2, e3, e4, e5, f1, f2, f3, f4, f5, f6]
  obtain ⟨h1, h2, h3, h4, h5, h6, h7, h8, h9⟩ := h
  exact ⟨h1, h2, h3, h4, h5, h6, h7, h8, h0⟩
def mkD (mem : Nat → Bool) (S : SD) (L : Nat) (lk : Nat → Nat) : DT := (mem, fun r => ((gD S 47 r 7)).toNat, fun j => ((gD S 49 (j / 16) (j % 16))).toNat, fun j => ((gD S 50 (j / 16) (j % 16))).toNat, fun j => (gD S 53 (j / 16) (j % 16)), L, lk)
theorem DAT_of {Sc Sm : SD} {mem : Nat → Bool} {L : Nat} {lk : Nat → Nat} (hT : IT Sc Sm) (hm : ∀ r, r < 20 → mem r = true → (r : Int) < (gD Sc 41 0 8) ∧ RR1 r Sc Sm ∧ PLN Sc r) (h1 : (gD Sm 85 0 90) = (L : Int)) (h2 : L ≤ 20) (h3 : ∀ l, l < L → (gD Sm 156 0 l) = (lk l : Int) ∧ lk l < 20 ∧ mem (lk l) = true) (h4 : ∀ l m, l < m → m < L → lk l < lk m) (h5 : ∀ r, r < 20 → mem r = true → ∃ l, l < L ∧ lk l = r) : DAT (mkD mem Sc L lk) Sc Sm := by
  unfold IT at hT
  obtain ⟨t1, t2, t3, _⟩ := hT
  unfold DAT
  refine ⟨fun r hr hmr => ?_, fun r k hr hmr hk => ?_, h1, h2, h3, h4, h5, t3, t1⟩
  · obtain ⟨g1, g2, g3⟩ := hm r hr hmr
    unfold RR1 at g2
    obtain ⟨a1, a2, a3, a4, a5, a6⟩ := g2
    have e : (((gD Sc 47 r 7)).toNat : Int) = (gD Sc 47 r 7) := Int.toNat_of_nonneg (by omega)
    show _ ∧ _ = (((gD Sc 47 r 7)).toNat : Int) ∧ ((gD Sc 47 r 7)).toNat ≤ 16 ∧ _ = (((gD Sc 47 r 7)).toNat : Int)
    rw [e]
    exact ⟨g1, rfl, by omega, a1⟩
  · obtain ⟨g1, g2, g3⟩ := hm r hr hmr
    unfold RR1 at g2
    obtain ⟨a1, a2, a3, a4, a5, a6⟩ := g2
    have hk : k < ((gD Sc 47 r 7)).toNat := hk
    have hk2 : (k : Int) < (gD Sc 47 r 7) := by omega
    obtain ⟨f1, f2, f3, f4, f5, f6, f7, f8, f9, f10, f11, f12, f13, f14, f15⟩ := a6 k hk2
    have v0 := g3.2.2 k hk2
    obtain ⟨q1, q2⟩ := f8 (by omega)
    have ed : (16 * r + k) / 16 = r := by omega
    have em : (16 * r + k) % 16 = k := by omega
    have et : ((dt (mkD mem Sc L lk) (16 * r + k) : Nat) : Int) = (gD Sc 49 r k) := by
      show (((gD Sc 49 ((16 * r + k) / 16) ((16 * r + k) % 16))).toNat : Int) = _
      rw [ed, em]
      exact Int.toNat_of_nonneg f5
    have ef : ((df (mkD mem Sc L lk) (16 * r + k) : Nat) : Int) = (gD Sc 50 r k) := by
      show (((gD Sc 50 ((16 * r + k) / 16) ((16 * r + k) % 16))).toNat : Int) = _
      rw [ed, em]
      exact Int.toNat_of_nonneg q1
    have ev : dv (mkD mem Sc L lk) (16 * r + k) = (gD Sc 53 r k) := by
      show (gD Sc 53 ((16 * r + k) / 16) ((16 * r + k) % 16)) = _
      rw [ed, em]
    rw [et, ef, ev]
    exact ⟨v0, rfl, f6, rfl, by omega, rfl, f14, f15, f4, f7, f13⟩
theorem SLT_of {D : DT} {Sc Sm : SD} (hD : DAT D Sc Sm) (h12 : cnt (hcB D) 120 ≤ 12) (hs : ∀ c : Nat, c < 120 → hcB D c = true → (gD Sc 64 0 c) = (cnt (hcB D) c : Int)) (hG : GMd D Sm) (hv : ∀ s : Nat, s < cnt (hcB D) 120 → (gD Sm 153 0 s) = (gD Sc 56 0 s) ∧ (gD Sc 56 0 s) ≠ -1000000) {r : Nat} (hr : r < 20) (hm : dm D r = true) : SLT Sc Sm r := fun k hk => by
  have hD' := hD
  unfold DAT at hD'
  obtain ⟨D1, D2, D3, D4, D5, D6, D7, D8, D9⟩ := hD'
  obtain ⟨g1, g2, g3, g4⟩ := D1 r hr hm
  have hk2 : k < dn D r := by omega
  obtain ⟨f1, f2, f3, f4, f5, f6, f7, f8, f9, f10, f11⟩ := D2 r k hr hm hk2
  have hI := iF_t hm hk2 (by omega)
  have hj : 16 * r + k < 320 := by omega
  have hh := hcB_i hj hI
  have hc : cel D (16 * r + k) < 120 := by unfold cel; omega
  have hlt := cnt_in hc hh
  refine ⟨f1, cnt (hcB D) (cel D (16 * r + k)), by omega, ?_, hG.2.2 _ hj hI, hv _ hlt⟩
  rw [f2, f4, show ((dt D (16 * r + k) : Nat) : Int) * 3 + ((df D (16 * r + k) : Nat) : Int) = ((cel D (16 * r + k) : Nat) : Int) by unfold cel; omega, tn]
  exact hs _ hc hh
theorem VAL_ne {D : DT} {S0 Sm : SD} (hT : IT S0 Sm) {R row s : Nat} (hs : s < R) : VAL D S0 R row s ≠ -1000000 := by
  unfold IT at hT
  have hb := hT.2.2.2.2.2.2.2.2.2.2.1
  have h1 : -100000 ≤ lowC S0 (clD D s) := (hb _).1
  have h2 : lowC S0 (clD D s) ≤ higC S0 (clD D s) := (hb _).2.1
  have h3 := DP_in (D := D) (S := S0) (s := s) (i := dgt (DN D S0) R row s) h2 (dgt_lt DN_1)
  unfold VAL
  rw [if_pos hs]
  omega
abbrev PCA : List Nat := [64, 63, 65, 66, 67, 56]
abbrev PCC : List (Nat × Nat) := [(62, 7), (55, 8), (55, 9), (55, 10)]
abbrev PCA2 : List Nat := [64, 63, 65, 66, 67, 56, 59, 60]
abbrev PMA : List Nat := [156, 149, 147, 148, 151, 150, 152, 153, 134]
abbrev PMC : List (Nat × Nat) := [(85, 79), (85, 90), (85, 63)]
abbrev PMA2 : List Nat := [156, 149, 147, 148, 151, 150, 152, 153, 134, 157, 158, 159]
abbrev PMC2 : List (Nat × Nat) := [(85, 79), (85, 90), (85, 63), (85, 92), (85, 96)]
theorem w_pull {d' : Nat} {S0 M0 : SD} {D : DT} {a b R : Nat} (hT : IT S0 M0) (a1 : RR1 a S0 M0) (a2 : RR2 a S0 M0) (b1 : RR1 b S0 M0) (b2 : RR2 b S0 M0) (ha : a < 20) (hb : b < 20) (hma : dm D a = true) (hmb : dm D b = true) (hR : cnt (hcB D) 120 = R) (h12 : R ≤ 12) (hd : 5 ≤ d) (hd' : 6 ≤ d') (hX : prN (DN D S0) R ≤ 20000) : ∀ (n row : Nat) (Sc Sm : SD), row ≤ prN (DN D S0) R → prN (DN D S0) R - row < n → EqX PCA PCC S0 Sc → EqX PMA PMC M0 Sm → DAT D Sc Sm → CSt D S0 Sc → (∀ c : Nat, c < 120 → hcB D c = true → (gD Sc 64 0 c) = (cnt (hcB D) c : Int)) → (∀ t, t < R → (gD Sc 67 0 t) = (dgt (DN D S0) R row t : Int)) → (gD Sc 55 0 8) = (R : Int) → (gD Sc 55 0 9) = 0 → (gD Sc 55 0 10) = 0 → MSt D S0 Sm → (gD Sm 85 0 63) = 0 → ∃ v Sc' Sm', run oo (EE false d) false mi_1 n 134 [(0, vr (some (55, 0))), (3, vr (some (47, a))), (4, vr (some (47, b))), (6, vi (prN (DN D S0) R : Int)), (7, vi (row : Int))] [] Sc = some (vi v, Sc') ∧ run oo (EE false d') false mi_280 n 151 [(0, vr (some (85, 0))), (1, vi (a : Int)), (2, vi (b : Int)), (4, vi (prN (DN D S0) R : Int)), (5, vi (row : Int))] [] Sm = some (vi v, Sm') ∧ EqX PCA2 PCC S0 Sc' ∧ EqX PMA2 PMC2 M0 Sm' ∧ IH Sc' Sm' ∧ (gD Sm' 85 0 63) = 0 := by
  intro n
  induction n with
  | zero => intro row Sc Sm z1 z2; omega
  | succ n ih =>
    intro row Sc Sm z1 z2 xc xm hD hC hs ht hu hr1 hr2 hM h0
    rw [b1_134, b280_151]
    by_cases hrow : row < prN (DN D S0) R
    · obtain ⟨S1, i1, i2, i3⟩ := q_put (d := d) (by omega) hR h12 (show R ≤ 32 by omega) hC hu ht
      obtain ⟨M1, j1, j2, j3⟩ := q_begins (d := d') (by omega) hR h12 (show row ≤ 20001 by omega) hM
      have xc1 : EqX PCA PCC S0 S1 := EqX_tr xc (EqX_mo i2 (by decide) (by decide))
      have xm1 : EqX PMA PMC M0 M1 := EqX_tr xm (EqX_mo j2 (by decide) (by decide))
      have hD1 : DAT D S1 M1 := DAT_fr (AgX i2 rfl) (AgX j2 rfl) hD
      have hT1 : IT S1 M1 := IT_fr (AgX xc1 rfl) (AgX xm1 rfl) hT
      have hM1 : MSt D S0 M1 := MSt_fr (AgX j2 rfl) hM
      have hC1 : CSt D S0 S1 := CSt_fr (AgX i2 rfl) hC
      have hs1 : ∀ c : Nat, c < 120 → hcB D c = true → (gD S1 64 0 c) = (cnt (hcB D) c : Int) := fun c p q => (EqX_a i2 64 rfl 0 c).trans (hs c p q)
      have hv1 : ∀ s : Nat, s < cnt (hcB D) 120 → (gD M1 153 0 s) = (gD S1 56 0 s) ∧ (gD S1 56 0 s) ≠ -1000000 := fun s hs => by
        rw [(j3 s (by omega)).2, i3 s (by omega)]
        exact ⟨rfl, VAL_ne hT (by omega)⟩
      have sa := SLT_of hD1 (by omega) hs1 hM1.1 hv1 ha hma
      have sb := SLT_of hD1 (by omega) hs1 hM1.1 hv1 hb hmb
      have ra1 := RR1_fr (AgX xc1 rfl) (AgX xm1 rfl) a1
      have ra2 := RR2_fr (AgX xc1 rfl) (AgX xm1 rfl) a2
      have rb1 := RR1_fr (AgX xc1 rfl) (AgX xm1 rfl) b1
      have rb2 := RR2_fr (AgX xc1 rfl) (AgX xm1 rfl) b2
      have k1 := q_holds (d := d) hT1 ra1 ra2 sa (by omega)
      have k2 := q_holds (d := d) hT1 rb1 rb2 sb (by omega)
      obtain ⟨M2, l1, l2, l3⟩ := q_isMet (d' := d') ra1 ra2 ha sa (by omega)
      have xm2 : EqX PMA PMC M0 M2 := EqX_tr xm1 (EqX_mo l2 (by decide) (by decide))
      obtain ⟨M3, m1, m2, m3⟩ := q_isMet (d' := d') (RR1_fr AgA_rf (AgX l2 rfl) rb1) (RR2_fr AgA_rf (AgX l2 rfl) rb2) hb (SLT_fr l2 rfl rfl sb) (by omega)
      have xm3 : EqX PMA PMC M0 M3 := EqX_tr xm2 (EqX_mo m2 (by decide) (by decide))
      rw [if_pos (by omega), if_pos (by omega), i1, b_V, k1, b_I, j1, b_V, l1, b_I]
      have next : ∀ M4, EqX [134] [(85, 63)] M1 M4 → (gD M4 85 0 63) = 0 → ∃ v Sc' Sm', bV (EE false d 91 [vr (some (62, 0))] S1) (fun S4 => run oo (EE false d) false mi_1 n 134 [(0, vr (some (55, 0))), (3, vr (some (47, a))), (4, vr (some (47, b))), (6, vi (prN (DN D S0) R : Int)), (7, vi (aw oo ((row : Int) + 1)))] [] S4) = some (vi v, Sc') ∧ run oo (EE false d') false mi_280 n 151 [(0, vr (some (85, 0))), (1, vi (a : Int)), (2, vi (b : Int)), (4, vi (prN (DN D S0) R : Int)), (5, vi (aw oo ((row : Int) + 1)))] [] M4 = some (vi v, Sm') ∧ EqX PCA2 PCC S0 Sc' ∧ EqX PMA2 PMC2 M0 Sm' ∧ IH Sc' Sm' ∧ (gD Sm' 85 0 63) = 0 := by
        intro M4 y1 y2
        obtain ⟨S4, p1, p2, p3⟩ := q_turn (d := d) (by omega) hR h12 hC1 (fun t h => (EqX_a i2 67 rfl 0 t).trans (ht t h))
        rw [p1, b_V, awp (show row < 1000000 by omega)]
        exact ih (row + 1) S4 M4 (by omega) (by omega) (EqX_tr xc1 (EqX_mo p2 (by decide) (by decide))) (EqX_tr xm1 (EqX_mo y1 (by decide) (by decide))) (DAT_fr (AgX p2 rfl) (AgX y1 rfl) hD1) (CSt_fr (AgX p2 rfl) hC1) (fun c p q => (EqX_a p2 64 rfl 0 c).trans (hs1 c p q)) p3 ((EqX_c p2 55 8 rfl 0).trans ((EqX_c i2 55 8 rfl 0).trans hu)) ((EqX_c p2 55 9 rfl 0).trans ((EqX_c i2 55 9 rfl 0).trans hr1)) ((EqX_c p2 55 10 rfl 0).trans ((EqX_c i2 55 10 rfl 0).trans hr2)) (MSt_fr (AgX y1 rfl) hM1) y2
      cases hva : HV S1 a (FN S1 a) with
      | false =>
        rw [if_pos (by decide), if_pos (by decide)]
        exact next M2 l2 l3
      | true =>
        rw [if_neg (by decide), if_neg (by decide), k2, b_I, m1, b_I]
        cases hvb : HV S1 b (FN S1 b) with
        | false =>
          rw [if_pos (by decide), if_pos (by decide)]
          exact next M3 (EqX_tr l2 m2) m3
        | true =>
          rw [if_neg (by decide), if_neg (by decide)]
          have y3 : EqX PMA2 PMC2 M0 (wD M3 85 0 96 0) := EqX_wC (EqX_mo xm3 (by decide) (by decide)) (by decide)
          have y4 : EqX [134] [(85, 63), (85, 96)] M1 (wD M3 85 0 96 0) := EqX_wC (EqX_tr (EqX_mo l2 (by decide) (by decide)) (EqX_mo m2 (by decide) (by decide))) (by decide)
          obtain ⟨S5, p1, p2, p3, p4, p5⟩ := q_keep (d := d) (row := row) (by omega) hR h12 hC1 (fun t h => (EqX_a i2 67 rfl 0 t).trans (ht t h))
          obtain ⟨M5, q1, q2, q3, q4⟩ := q_shows (d := d') (row := row) (by omega) hR h12 (MSt_fr (AgX y4 rfl) hM1) (fun t h => (EqX_a y4 152 rfl 0 t).trans (j3 t h).1)
          rw [p1, b_V, q1, b_V]
          refine ⟨1, S5, M5, rfl, rfl, EqX_tr (EqX_mo xc1 (by decide) (by decide)) (EqX_mo p2 (by decide) (by decide)), EqX_tr y3 (EqX_mo q2 (by decide) (by decide)), ?_, ?_⟩
          · have e1 : (gD M5 85 0 96) = 0 := (EqX_c q2 85 96 rfl 0).trans g_e
            have e2 : (gD S5 66 0 0) = 0 := (EqX_a p2 66 rfl 0 0).trans (hC1.2.2.1 0 (by omega))
            unfold IH
            rw [p3, p4, q3, e1, e2]
            refine ⟨rfl, by omega, by omega, rfl, by omega, by omega, fun k hk => ?_, fun k hk => by omega, rfl⟩
            obtain ⟨u1, u2⟩ := p5 k (by omega)
            obtain ⟨w1, w2, w3⟩ := q4 k (by omega)
            obtain ⟨c1, c2, c3⟩ := clD_sp (D := D) (show k < cnt (hcB D) 120 by omega)
            rw [u1, u2, w1, w2, w3]
            refine ⟨?_, ?_, ?_, ?_, ?_, rfl⟩ <;> omega
          · rw [EqX_c q2 85 63 rfl 0, g_k (by decide)]
            exact m3
    · rw [if_neg (by omega), if_neg (by omega)]
      refine ⟨0, Sc, _, rfl, rfl, EqX_mo xc (by decide) (by decide), EqX_wC (EqX_wC (EqX_mo xm (by decide) (by decide)) (by decide)) (by decide), ?_, by rw [g_k (by decide), g_k (by decide)]; exact h0⟩
      have e2 : (gD Sc 66 0 0) = 0 := hC.2.2.1 0 (by omega)
      unfold IH
      simp (disch := decide) only [g_e, g_k, g_f, hr1, hr2, e2]
      refine ⟨trivial, by omega, by omega, trivial, by omega, by omega, fun k hk => absurd hk (by omega), fun k hk => absurd hk (by omega), trivial⟩
end
