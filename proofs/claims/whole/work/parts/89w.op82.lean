/-! rule, on both sides -/
section
variable {d : Nat}
theorem q_free {S : SD} {r : Nat} (hd : 1 ≤ d) (h : (gD S 41 0 8) = (r : Int)) (hr : r < 20) : EE false d 108 [vr (some (41, 0))] S = some (vr (some (47, r)), S) := by
  rw [E108 hd, b108_0, h, if_pos (by omega), if_pos (by omega), tn]
theorem q_full {S : SD} (hd : 1 ≤ d) (h : (gD S 41 0 8) = 20) : EE false d 108 [vr (some (41, 0))] S = some (vr none, S) := by
  rw [E108 hd, b108_0, h, if_neg (by omega)]
theorem gR_wR {S : SD} {f j k : Nat} {v : Option (Nat × Nat)} : gR (wR S f j k v) f j k = v := by
  show (if f = f ∧ j = j ∧ k = k then v else S.2.1 f j k) = v
  rw [if_pos ⟨rfl, rfl, rfl⟩]
theorem o_rule (hd : 40 ≤ d) (a1 : Int) : PI2 d CI2 162 246 vi [vi a1] := by
  intro i Sc Sm hi' hC
  have hC' := hC
  obtain ⟨hN, hT, hS, hW, hK, hO, hX, hP, hR, hF, hA, hH, hQ, hG⟩ := hC
  have uR := hR; unfold IR at uR
  obtain ⟨r1, r2, r3, r4, r5⟩ := uR
  have uN := hN; unfold IN at uN
  obtain ⟨n1, n2, n3⟩ := uN
  have uT := hT; unfold IT at uT
  obtain ⟨t1, t2, t3, _⟩ := uT
  have uP := hP; unfold IP at uP
  obtain ⟨p1, p2, p3, p4, p5⟩ := uP
  obtain ⟨r, hrs⟩ := Int.eq_ofNat_of_zero_le r2
  obtain ⟨n, hns⟩ := Int.eq_ofNat_of_zero_le p2
  have c2 := (E162 (d := d) (by omega) Sc a1).trans (b162_0 oo (EE false (d - 1)) 999999 Sc a1)
  have m2 := (E246 (d := d) (by omega) Sm a1).trans (b246_0 oo (EE false (d - 1)) 999999 Sm a1)
  by_cases ha : 0 ≤ a1 ∧ a1 ≤ 7
  · rw [q_in1 (by omega) a1 0 7 ha, b_I, if_neg (by decide)] at c2
    by_cases h20 : r = 20
    · rw [q_full (by omega) (by rw [hrs, h20]; rfl), b_R0] at c2
      rw [if_pos (by rw [r1, hrs, h20]; rfl)] at m2
      exact ⟨-1, Sc, Sm, c2, EqC_rf, m2, EqM_rf, CI2_up hC'⟩
    · have hr : r < 20 := by omega
      rw [q_free (by omega) hrs hr, b_R1] at c2
      rw [if_neg (by rw [r1, hrs]; omega), q_M_in1 (by omega) a1 0 7 ha, b_I, if_neg (by decide)] at m2
      have c60 := (E60 (d := d - 1) (by omega) Sc r).trans (b60_0 oo (EE false (d - 1 - 1)) 999999 Sc r)
      have c47 := (E47 (d := d - 1 - 1) (by omega) (wR Sc 29 0 3 (some (47, r))) r).trans (b47_0 oo (EE false (d - 1 - 1 - 1)) 999999 _ r)
      rw [gR_wR, rR_s, c47, b_V] at c60
      obtain ⟨X, eX⟩ : ∃ X, X = wD (wD (wD (wD (wD (wD (wD (wD (wD (wD (wR Sc 29 0 3 (some (47, r))) 47 r 7 0) 47 r 8 0) 47 r 9 0) 47 r 10 0) 47 r 11 0) 47 r 12 (-1)) 47 r 13 (-1)) 47 r 14 0) 29 0 4 0) 29 0 5 0 := ⟨_, rfl⟩
      rw [← eX] at c60
      have c60 : EE false (d - 1) 60 [vr (some (29, 0)), vr (some (47, r))] Sc = CLS (d - 1 - 1) X := c60
      obtain ⟨Y, eY⟩ : ∃ Y, Y = wD (wD Sm 85 0 53 0) 85 0 54 0 := ⟨_, rfl⟩
      rw [← eY] at m2
      have zX : ∀ f j k, f ≠ 29 → ¬ (f = 47 ∧ j = r) → gD X f j k = gD Sc f j k := fun f j k h1 h2 => by
        rw [eX, g_f h1, g_f h1, gD_ne (by omega), gD_ne (by omega), gD_ne (by omega), gD_ne (by omega), gD_ne (by omega), gD_ne (by omega), gD_ne (by omega), gD_ne (by omega)]
        rfl
      have x0 : EqX [29, 47, 48, 49, 50, 51, 52, 53, 54] [(41, 8)] Sc X := by
        rw [eX]
        exact EqX_wA (EqX_wA (EqX_wA (EqX_wA (EqX_wA (EqX_wA (EqX_wA (EqX_wA (EqX_wA (EqX_wA (EqX_wR EqX_rf) (by decide)) (by decide)) (by decide)) (by decide)) (by decide)) (by decide)) (by decide)) (by decide)) (by decide)) (by decide)
      have zY : ∀ f j k, ¬ (f = 85 ∧ (k = 53 ∨ k = 54)) → gD Y f j k = gD Sm f j k := fun f j k h1 => by
        rw [eY, gD_ne (by omega), gD_ne (by omega)]
      have rY : FRm r Sm Y := by
        rw [eY]
        exact FRm_w (FRm_w FRm_rf (Or.inr (Or.inr (Or.inr (Or.inr (Or.inl ⟨rfl, by decide, by decide⟩)))))) (Or.inr (Or.inr (Or.inr (Or.inr (Or.inl ⟨rfl, by decide, by decide⟩)))))
      have hTPc : TPc (fun k => (gD Sc 30 0 k)) n X := ⟨by rw [eX]; simp (disch := decide) only [g_f, g_k]; exact hns, fun k => zX 30 0 k (by decide) (by omega)⟩
      have hTPm : TPm (fun k => (gD Sm 112 0 k)) n Y := ⟨(zY 85 0 31 (by omega)).trans (p1.trans hns), fun k => zY 112 0 k (by omega)⟩
      have hTAB : TAB (fun k => (gD Sm 112 0 k)) (fun k => (gD Sc 30 0 k)) := fun k => ⟨p4 k, p5 k⟩
      have hread := L_read (d := d - 1 - 1) (d' := d - 1) (th := (gD Sc 3 0 10)) (by omega) (by omega) (by omega) hTAB hr t2 hTPc hTPm (by rw [eX, g_k (by decide), g_e]) (by rw [eY, g_k (by decide), g_e]) (by rw [eY, g_e]) (by rw [eX]; exact gR_wR) ((zY 85 0 32 (by omega)).trans (r1.trans hrs)) (zX 3 0 10 (by decide) (by omega)) ((zY 85 0 6 (by omega)).trans t1) (by rw [eX]; simp (disch := decide) only [g_f, g_k, g_e]) (by rw [eX]; simp (disch := decide) only [g_f, g_k, g_e]) (by rw [eX]; simp (disch := decide) only [g_f, g_k, g_e]) (by rw [eX]; simp (disch := decide) only [g_f, g_k, g_e])
      rcases hread with ⟨S', M', fl, k1, k2, k3, k4, k5, k6, k7⟩ | ⟨S', M', k1, k2, k3, k4, k5⟩
      · rw [c60, k1, b_I, if_neg (by omega)] at c2
        rw [k2, b_I, if_pos rfl, g_k (by decide), k5] at m2
        obtain ⟨f1, f2, f3⟩ := FIN_rl (N' := r) (Sc' := wD S' 29 0 2 0) (Sm' := wD M' 85 0 31 0) hC' hr hrs (EqX_wA (EqX_tr x0 (FRc_X k3)) (by decide)) (EqX_wC (FRm_X (FRm_tr rY k4)) (by decide)) (fun f j k a b c => by
          rw [g_f (by omega), k3.2 f j k (by omega) (by omega)]
          exact zX f j k (by omega) (by omega)) (fun f k a b c => by
          rw [g_f (by omega)]
          exact (FRm_tr rY k4).2 f 0 k c) (by rw [g_f (by decide), k3.2 41 0 8 (by omega) (by omega)]; exact (zX 41 0 8 (by decide) (by omega)).trans hrs) (by rw [g_k (by decide), (FRm_tr rY k4).2 85 0 32 (by unfold own; omega)]; exact r1.trans hrs) g_e g_e (Or.inl rfl)
        exact ⟨_, _, _, c2, f1, m2, f2, f3⟩
      · obtain ⟨T, eT⟩ : ∃ T, T = wD S' 29 0 2 0 := ⟨_, rfl⟩
        obtain ⟨U, eU⟩ : ∃ U, U = wD M' 85 0 31 0 := ⟨_, rfl⟩
        rw [← eT] at k1
        have rM := FRm_tr rY k4
        have zT : ∀ f j k, f ≠ 29 → gD T f j k = gD S' f j k := fun f j k h => by rw [eT, g_f h]
        have zU : ∀ f j k, ¬ (f = 85 ∧ k = 31) → gD U f j k = gD M' f j k := fun f j k h => by rw [eU, gD_ne (by omega)]
        have s41 : gD T 41 0 8 = (r : Int) := by
          rw [zT 41 0 8 (by decide), k3.2 41 0 8 (by omega) (by omega)]
          exact (zX 41 0 8 (by decide) (by omega)).trans hrs
        have s2 : gD T 2 0 9 = (gD Sc 2 0 9) := by
          rw [zT 2 0 9 (by decide), k3.2 2 0 9 (by omega) (by omega)]
          exact zX 2 0 9 (by decide) (by omega)
        have u32 : gD U 85 0 32 = (r : Int) := by
          rw [zU 85 0 32 (by omega), rM.2 85 0 32 (by unfold own; omega)]
          exact r1.trans hrs
        have u00 : gD U 85 0 0 = (gD Sc 2 0 9) := by
          rw [zU 85 0 0 (by omega), rM.2 85 0 0 (by unfold own; omega)]
          exact n1
        have c109 := (E109 (d := d - 1) (by omega) T a1 (gD Sc 2 0 9)).trans (b109_0 oo (EE false (d - 1 - 1)) 999999 T a1 (gD Sc 2 0 9))
        have v41 : gD (wD (wD (wD (wD T 47 r 15 a1) 47 r 16 (gD Sc 2 0 9)) 47 r 17 1) 47 r 18 0) 41 0 8 = (r : Int) := by
          rw [g_f (by decide), g_f (by decide), g_f (by decide), g_f (by decide)]
          exact s41
        rw [q_free (by omega) s41 hr, b_R1, v41, awn (by omega), g_e] at c109
        rw [c60, k1, b_I, if_pos rfl, s2, c109, b_I] at c2
        have w1 : gD (wD U 113 0 r a1) 85 0 32 = (r : Int) := by rw [g_f (by decide)]; exact u32
        have w2 : gD (wD U 113 0 r a1) 85 0 0 = (gD Sc 2 0 9) := by rw [g_f (by decide)]; exact u00
        have w3 : gD (wD (wD U 113 0 r a1) 114 0 r (gD Sc 2 0 9)) 85 0 32 = (r : Int) := by rw [g_f (by decide)]; exact w1
        have w4 : gD (wD (wD (wD U 113 0 r a1) 114 0 r (gD Sc 2 0 9)) 117 0 r 1) 85 0 32 = (r : Int) := by rw [g_f (by decide)]; exact w3
        have w5 : gD (wD (wD (wD (wD U 113 0 r a1) 114 0 r (gD Sc 2 0 9)) 117 0 r 1) 118 0 r 0) 85 0 32 = (r : Int) := by rw [g_f (by decide)]; exact w4
        rw [k2, b_I, if_neg (by decide), ← eU, u32, if_pos (by omega), tn, w1, if_pos (by omega), tn, w2, w3, if_pos (by omega), tn, w4, if_pos (by omega), tn, w5, awn (by omega), g_e] at m2
        obtain ⟨q1, q2, q3⟩ := k5
        have hcR : ∀ f k, 47 ≤ f → f ≤ 54 → (f = 47 → k ≤ 14) → gD (wD (wD (wD (wD (wD T 47 r 15 a1) 47 r 16 (gD Sc 2 0 9)) 47 r 17 1) 47 r 18 0) 41 0 8 ((r + 1 : Nat) : Int)) f r k = gD S' f r k := fun f k a b c => by
          rw [gD_ne (by omega), gD_ne (by omega), gD_ne (by omega), gD_ne (by omega), gD_ne (by omega)]
          exact zT f r k (by omega)
        have hmR : ∀ f k, 115 ≤ f → f ≤ 132 → f ≠ 117 → f ≠ 118 → gD (wD (wD (wD (wD (wD U 113 0 r a1) 114 0 r (gD Sc 2 0 9)) 117 0 r 1) 118 0 r 0) 85 0 32 ((r + 1 : Nat) : Int)) f 0 k = gD M' f 0 k := fun f k a b c e => by
          rw [gD_ne (by omega), gD_ne (by omega), gD_ne (by omega), gD_ne (by omega), gD_ne (by omega)]
          exact zU f 0 k (by omega)
        have hT3 : gD (wD (wD (wD (wD (wD T 47 r 15 a1) 47 r 16 (gD Sc 2 0 9)) 47 r 17 1) 47 r 18 0) 41 0 8 ((r + 1 : Nat) : Int)) 3 0 10 = gD S' 3 0 10 := by
          rw [g_f (by decide), g_f (by decide), g_f (by decide), g_f (by decide), g_f (by decide)]
          exact zT 3 0 10 (by decide)
        obtain ⟨f1, f2, f3⟩ := FIN_rl (N' := r + 1) (Sc' := wD (wD (wD (wD (wD T 47 r 15 a1) 47 r 16 (gD Sc 2 0 9)) 47 r 17 1) 47 r 18 0) 41 0 8 ((r + 1 : Nat) : Int)) (Sm' := wD (wD (wD (wD (wD U 113 0 r a1) 114 0 r (gD Sc 2 0 9)) 117 0 r 1) 118 0 r 0) 85 0 32 ((r + 1 : Nat) : Int)) hC' hr hrs
          (EqX_wC (EqX_wA (EqX_wA (EqX_wA (EqX_wA (by rw [eT]; exact EqX_wA (EqX_tr x0 (FRc_X k3)) (by decide)) (by decide)) (by decide)) (by decide)) (by decide)) (by decide))
          (EqX_wC (EqX_wA (EqX_wA (EqX_wA (EqX_wA (by rw [eU]; exact EqX_wC (FRm_X rM) (by decide)) (by decide)) (by decide)) (by decide)) (by decide)) (by decide))
          (fun f j k a b c => by
            rw [gD_ne (by omega), gD_ne (by omega), gD_ne (by omega), gD_ne (by omega), gD_ne (by omega), zT f j k (by omega), k3.2 f j k (by omega) (by omega)]
            exact zX f j k (by omega) (by omega))
          (fun f k a b c => by
            have hk : ¬ (113 ≤ f ∧ f ≤ 118 ∧ k = r) := fun q => c (by unfold own; omega)
            rw [gD_ne (by omega), gD_ne (by omega), gD_ne (by omega), gD_ne (by omega), gD_ne (by omega), zU f 0 k (by omega)]
            exact rM.2 f 0 k c)
          g_e g_e (by rw [g_f (by decide), g_f (by decide), g_f (by decide), g_f (by decide), g_f (by decide), eT, g_e]) (by rw [g_k (by decide), g_f (by decide), g_f (by decide), g_f (by decide), g_f (by decide), eU, g_e])
          (Or.inr ⟨rfl, ⟨RR1_cg (hcR 47 7 (by decide) (by decide) (by decide)) (hcR 47 8 (by decide) (by decide) (by decide)) (fun g k a b => hcR g k (by omega) (by omega) (by omega)) hT3 (fun g a => hmR g r (by omega) (by omega) (by omega) (by omega)) (fun g k a b _ => hmR g _ (by omega) (by omega) (by omega) (by omega)) q1, RR2_cg (fun k a b => hcR 47 k (by decide) (by decide) (fun _ => by omega)) (fun k => hcR 54 k (by decide) (by decide) (by omega)) (fun w _ => hmR 125 _ (by decide) (by decide) (by decide) (by decide)) (fun k _ => hmR 126 _ (by decide) (by decide) (by decide) (by decide)) q2, RR3_cg (fun k a b => hcR 47 k (by decide) (by decide) (fun _ => by omega)) hT3 (fun g a b => by
            by_cases e : g = 117 ∨ g = 118
            · exact Or.inr e
            · exact Or.inl (hmR g r (by omega) (by omega) (by omega) (by omega))) q3⟩, by
            unfold IFr
            simp (disch := decide) only [g_f, g_k, g_e, s2]
            exact ⟨trivial, ha.1, ha.2, trivial, n2, Int.le_refl _, trivial, trivial, Or.inr trivial, Or.inl trivial, fun _ => trivial⟩⟩)
        exact ⟨_, _, _, c2, f1, m2, f2, f3⟩
  · rw [q_in0 (by omega) a1 0 7 (by omega), b_I, if_pos rfl] at c2
    by_cases h20 : r = 20
    · rw [if_pos (by rw [r1, hrs, h20]; rfl)] at m2
      exact ⟨-1, Sc, Sm, c2, EqC_rf, m2, EqM_rf, CI2_up hC'⟩
    · rw [if_neg (by rw [r1, hrs]; omega), q_M_in0 (by omega) a1 0 7 (by omega), b_I, if_pos rfl] at m2
      exact ⟨-1, Sc, Sm, c2, EqC_rf, m2, EqM_rf, CI2_up hC'⟩
end
