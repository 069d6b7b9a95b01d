/-! acts of rules -/
section
variable {d : Nat}
abbrev LA1 : List Nat := [36, 37, 38, 33, 34]
abbrev LC1 : List (Nat × Nat) := [(35, 5), (31, 3)]
abbrev MA1 : List Nat := [142, 143, 144, 145, 146, 140, 141, 138]
abbrev MC1 : List (Nat × Nat) := [(85, 72), (85, 73)]
abbrev LA2 : List Nat := [36, 37, 38, 33, 34, 43, 44, 45, 46]
abbrev LC2 : List (Nat × Nat) := [(35, 5), (31, 3), (41, 9)]
abbrev MA2 : List Nat := [142, 143, 144, 145, 146, 140, 141, 138, 135, 136, 137]
abbrev MC2 : List (Nat × Nat) := [(85, 72), (85, 73), (85, 64)]
abbrev acC (G : SD) (A : Nat) (r now L x : Int) : SD := wD (wD (wD (wD (wD G 43 0 A r) 44 0 A now) 45 0 A L) 46 0 A x) 41 0 9 ((A : Int) + 1)
abbrev acM (S : SD) (A : Nat) (r now L : Int) : SD := wD (wD (wD (wD S 135 0 A r) 136 0 A now) 137 0 A L) 138 0 A (-1)
theorem act_fin {b A r : Nat} {now L x : Int} {Sc Sm G H : SD} (hA : IA Sc Sm) (hAc : (gD Sc 41 0 9) = (A : Int)) (hA3 : A < 300) (hr : (r : Int) < (gD Sc 41 0 8)) (hn : now = (gD Sc 2 0 9) ∧ 0 ≤ now) (xG : EqX LA1 LC1 Sc G) (xH : EqX MA1 MC1 (acM Sm A r now L) H) (hO : IO G H) (hX : IX b G H) (h8 : ∀ k : Nat, gD H 138 0 k = if k = A then x else (gD Sm 138 0 k)) : EqX LA2 LC2 Sc (acC G A r now L x) ∧ EqX MA2 MC2 Sm (wD H 85 0 64 ((A : Int) + 1)) ∧ IO (acC G A r now L x) (wD H 85 0 64 ((A : Int) + 1)) ∧ IX b (acC G A r now L x) (wD H 85 0 64 ((A : Int) + 1)) ∧ IA (acC G A r now L x) (wD H 85 0 64 ((A : Int) + 1)) := by
  have y1 : EqX [43, 44, 45, 46] [(41, 9)] G (acC G A r now L x) := EqX_wC (EqX_wA (EqX_wA (EqX_wA (EqX_wA EqX_rf (by decide)) (by decide)) (by decide)) (by decide)) (by decide)
  have y2 : EqX [] [(85, 64)] H (wD H 85 0 64 ((A : Int) + 1)) := EqX_wC EqX_rf (by decide)
  have y3 : EqX MA2 MC2 Sm (acM Sm A r now L) := EqX_wA (EqX_wA (EqX_wA (EqX_wA EqX_rf (by decide)) (by decide)) (by decide)) (by decide)
  have z1 : EqX LA2 LC2 Sc (acC G A r now L x) := EqX_tr (EqX_mo xG (by decide) (by decide)) (EqX_mo y1 (by decide) (by decide))
  have z2 : EqX MA2 MC2 Sm (wD H 85 0 64 ((A : Int) + 1)) := EqX_tr (EqX_tr y3 (EqX_mo xH (by decide) (by decide))) (EqX_mo y2 (by decide) (by decide))
  refine ⟨z1, z2, IO_fr (AgX y1 rfl) (AgX y2 rfl) hO, IX_fr (AgX y1 rfl) (AgX y2 rfl) hX, ?_⟩
  unfold IA at hA
  obtain ⟨ac1, ac2, ac3, ac4, ac5, ac6, ac7, ac8⟩ := hA
  have e8 : (gD G 41 0 8) = (gD Sc 41 0 8) := EqX_c xG 41 8 rfl 0
  have e9 : gD G 2 0 9 = (gD Sc 2 0 9) := EqX_c xG 2 9 rfl 0
  have k1 : ∀ k, gD G 43 0 k = (gD Sc 43 0 k) := fun k => EqX_a xG 43 rfl 0 k
  have k2 : ∀ k, gD G 44 0 k = (gD Sc 44 0 k) := fun k => EqX_a xG 44 rfl 0 k
  have k3 : ∀ k, gD G 45 0 k = (gD Sc 45 0 k) := fun k => EqX_a xG 45 rfl 0 k
  have k4 : ∀ k, gD G 46 0 k = (gD Sc 46 0 k) := fun k => EqX_a xG 46 rfl 0 k
  have j1 : ∀ k, gD H 135 0 k = if k = A then (r : Int) else (gD Sm 135 0 k) := fun k => by
    rw [EqX_a xH 135 rfl]
    simp (disch := decide) only [g_f, g_i]
  have j2 : ∀ k, gD H 136 0 k = if k = A then now else (gD Sm 136 0 k) := fun k => by
    rw [EqX_a xH 136 rfl]
    simp (disch := decide) only [g_f, g_i]
  have j3 : ∀ k, gD H 137 0 k = if k = A then L else (gD Sm 137 0 k) := fun k => by
    rw [EqX_a xH 137 rfl]
    simp (disch := decide) only [g_f, g_i]
  unfold IA
  simp (disch := decide) only [g_f, g_e, g_i, g_k, k1, k2, k3, k4, j1, j2, j3, h8, e8, e9, ac4, ac5, ac6, ac7]
  refine ⟨trivial, by omega, by omega, fun k => trivial, fun k => trivial, fun k => trivial, fun k => trivial, fun k hk => ?_⟩
  by_cases e : k = A
  · simp only [e, if_true]
    omega
  · simp only [e, if_false]
    exact ac8 k (by omega)
theorem q_actCell {S : SD} (hd : 3 ≤ d) (r t f : Nat) (h1 : (gD S 47 r 12) = (t : Int)) (h2 : (gD S 47 r 13) = (f : Int)) (ht : t < 40) (hf : f < 3) : EE false d 51 [vr (some (47, r))] S = some (vi ((t : Int) * 3 + (f : Int)), S) := by
  rw [E51 (by omega), b51_0, h1, h2, E52 (by omega), b52_0, q_in1 (by omega) _ _ _ (by omega), b_I, if_neg (by decide), q_in1 (by omega) _ _ _ (by omega), b_I, if_neg (by decide), aw3x (by omega), b_I]
theorem act_both {d' i b : Nat} {Sc Sm : SD} {r : Nat} (hN : IN Sc Sm) (hT : IT Sc Sm) (hW : IW Sc Sm) (hK : IC Sc Sm) (hO : IO Sc Sm) (hX : IX b Sc Sm) (hb : b ≤ 100000) (hR : IR Sc Sm) (hF : IF Sc Sm) (hA : IA Sc Sm) (hr : (r : Int) < (gD Sc 41 0 8)) (hd : 5 ≤ d) (hd' : 3 ≤ d') : ∃ Sc' Sm', EE false d 112 [vr (some (41, 0)), vi (r : Int), vr (some (47, r)), vi (gD Sc 2 0 9)] Sc = some (vi 0, Sc') ∧ EE false d' 258 [vr (some (85, 0)), vi (r : Int)] Sm = some (vi 0, Sm') ∧ EqX LA2 LC2 Sc Sc' ∧ EqX MA2 MC2 Sm Sm' ∧ IO Sc' Sm' ∧ IX (b + 1) Sc' Sm' ∧ IA Sc' Sm' := by
  have hX1 := IX_mo hX (show b ≤ b + 1 by omega)
  have uR := hR; unfold IR at uR
  obtain ⟨r1, r2, r3, r4, r5⟩ := uR
  obtain ⟨h1, h2, h3⟩ := r5 r hr
  unfold RR3 at h3
  obtain ⟨l1, l2, l3, l4, l5, l6, l7, l8, l9⟩ := h3
  have hr2 : r < 20 := by omega
  have uF := hF; unfold IF at uF
  obtain ⟨f1, f2, f3, _⟩ := uF r hr
  have uN := hN; unfold IN at uN
  obtain ⟨n1, n2, n3⟩ := uN
  have uA := hA; unfold IA at uA
  obtain ⟨ac1, ac2, ac3, ac4, ac5, ac6, ac7, ac8⟩ := uA
  have uT := hT; unfold IT at uT
  have tt : (gD Sc 3 0 10) ≤ 40 := uT.2.2.1
  obtain ⟨A, hAc⟩ := Int.eq_ofNat_of_zero_le ac2
  obtain ⟨L, ld1, ld2⟩ := lead_both (d := d - 1) (d' := d' - 1) hT hW hK h1 hr2 (by omega) (by omega)
  have c2 := (E112 (d := d) (by omega) Sc (r : Int) r (gD Sc 2 0 9)).trans (b112_0 oo (EE false (d - 1)) 999999 Sc (r : Int) r (gD Sc 2 0 9))
  have m2 := (E258 (d := d') (by omega) Sm (r : Int)).trans (b258_0 oo (EE false (d' - 1)) 999999 Sm (r : Int))
  rw [ac1, hAc] at m2
  rw [hAc] at c2
  by_cases hA3 : A < 300
  · have bA : (0 ≤ (A : Int) ∧ (A : Int) < 300) = True := eq_true (by omega)
    have br : (0 ≤ (r : Int) ∧ (r : Int) < 20) = True := eq_true (by omega)
    have mA : (gD Sm 85 0 64) = (A : Int) := ac1.trans hAc
    rw [if_pos (by omega)] at c2
    rw [if_neg (by omega)] at m2
    have xT : EqX [135, 136] [] Sm (wD (wD Sm 135 0 A (r : Int)) 136 0 A (gD Sc 2 0 9)) := EqX_wA (EqX_wA EqX_rf (by decide)) (by decide)
    have mL := ld2 _ _ _ xT rfl rfl
    rcases l9 with ⟨p1, p2, p3, p4, p5, p6⟩ | ⟨p1, p2, p3, p4⟩
    · obtain ⟨o, ho⟩ := Int.eq_ofNat_of_zero_le f2
      obtain ⟨t, ht⟩ := Int.eq_ofNat_of_zero_le l6
      obtain ⟨f, hf⟩ := Int.eq_ofNat_of_zero_le p3
      have hq : o < 8 ∧ t < 40 ∧ f < 3 := by omega
      have uX := hX; unfold IX at uX
      obtain ⟨y1, y2, y3, y4, y5, y6, y7, _⟩ := uX
      rw [if_neg (by omega), q_actCell (by omega) r t f ht hf (by omega) (by omega), b_I, ho, q_note (by omega) hq _ (by omega), b_V] at c2
      obtain ⟨G, hG⟩ : ∃ G, G = wD (wD (wD Sc 31 0 3 ((gD Sc 31 0 3) + 1)) 33 0 (120 * o + 3 * t + f) (gD Sc 47 r 14)) 34 0 (120 * o + 3 * t + f) ((gD Sc 31 0 3) + 1) := ⟨_, rfl⟩
      rw [← hG] at c2
      have xG : EqX LA1 LC1 Sc G := by rw [hG]; exact EqX_wA (EqX_wA (EqX_wC EqX_rf (by decide)) (by decide)) (by decide)
      have xGo : EqX [33, 34] [(31, 3)] Sc G := by rw [hG]; exact EqX_wA (EqX_wA (EqX_wC EqX_rf (by decide)) (by decide)) (by decide)
      have hGA : gD G 41 0 9 = (A : Int) := (EqX_c xG 41 9 rfl 0).trans hAc
      have xG2 : EqX LA2 LC2 Sc (wD (wD G 43 0 A (r : Int)) 44 0 A (gD Sc 2 0 9)) := EqX_wA (EqX_wA (EqX_mo xG (by decide) (by decide)) (by decide)) (by decide)
      simp (disch := decide) only [g_f, g_e, hGA, bA, if_true, tn] at c2
      rw [ld1 _ _ _ xG2 rfl rfl rfl rfl, b_I] at c2
      simp (disch := decide) only [g_f, g_e, hGA, bA, if_true, tn] at c2
      rw [aw0 (by omega)] at c2
      simp (disch := decide) only [br, if_true, tn, p1, e10, if_false, mA, bA, g_f, g_e, n1] at m2
      rw [mL, b_I] at m2
      simp (disch := decide) only [br, if_true, tn, p1, e10, if_false, mA, bA, g_f, g_e, n1, l5, p2, l8, f1, ho, ht, hf] at m2
      have xM : EqX [135, 136, 137, 138] [] Sm (acM Sm A (r : Int) (gD Sc 2 0 9) L) := EqX_wA (EqX_wA (EqX_wA (EqX_wA EqX_rf (by decide)) (by decide)) (by decide)) (by decide)
      have eh := q_M_wishes (d := d' - 1) (S := acM Sm A (r : Int) (gD Sc 2 0 9) L) (by omega) hq (gD Sc 47 r 14) (by rw [EqX_c xM 85 72 rfl]; omega)
      obtain ⟨H, hH⟩ : ∃ H, H = wD (wD (wD (acM Sm A (r : Int) (gD Sc 2 0 9) L) 85 0 72 (gD (acM Sm A (r : Int) (gD Sc 2 0 9) L) 85 0 72 + 1)) 140 0 (120 * o + 3 * t + f) (gD Sc 47 r 14)) 141 0 (120 * o + 3 * t + f) (gD (acM Sm A (r : Int) (gD Sc 2 0 9) L) 85 0 72 + 1) := ⟨_, rfl⟩
      rw [← hH] at eh
      rw [eh, b_V] at m2
      have xH : EqX MA1 MC1 (acM Sm A (r : Int) (gD Sc 2 0 9) L) H := by rw [hH]; exact EqX_wA (EqX_wA (EqX_wC EqX_rf (by decide)) (by decide)) (by decide)
      have hHA : gD H 85 0 64 = (A : Int) := (EqX_c xH 85 64 rfl 0).trans ((EqX_c xM 85 64 rfl 0).trans mA)
      rw [hHA, aw0 (by omega)] at m2
      have xHo : EqX [135, 136, 137, 138, 140, 141] [(85, 72)] Sm H := by rw [hH]; exact EqX_wA (EqX_wA (EqX_wC (EqX_mo xM (by decide) (by decide)) (by decide)) (by decide)) (by decide)
      have y0 : EqX [] [] Sc Sc := EqX_rf
      obtain ⟨w1, w2, w3, w4, w5⟩ := act_fin (b := b + 1) (now := (gD Sc 2 0 9)) (x := -1) hA hAc hA3 hr ⟨rfl, n2⟩ xG xH (IO_fr (AgX xGo rfl) (AgX xHo rfl) hO) (IX_note (IX_fr (AgX y0 rfl) (AgX xM rfl) hX) (by omega) hG hH) (fun k => by
        rw [hH]
        simp (disch := decide) only [g_f, g_i])
      exact ⟨_, _, c2, m2, w1, w2, w3, w4, w5⟩
    · rw [if_pos p2] at c2
      obtain ⟨N, hNo⟩ : ∃ N : Nat, (gD Sc 35 0 5) = (N : Int) := Int.eq_ofNat_of_zero_le (by unfold IO at hO; exact hO.2.1)
      have o1 : (gD Sm 85 0 73) = (gD Sc 35 0 5) := by unfold IO at hO; exact hO.1
      rw [bnd (by omega), tn, p1, if_pos rfl, o1, hNo] at m2
      by_cases hN2 : N < 200
      · rw [abmin] at c2
        have eg := q_give (d := d - 1) (S := Sc) (by omega) hNo hN2 (gD Sc 47 r 12) (gD Sc 47 r 14) (min (aw oo ((gD Sc 2 0 9) + 50)) 3999)
        rw [if_neg (by omega)] at m2
        obtain ⟨G, hG⟩ : ∃ G, G = wD (wD (wD (wD Sc 36 0 N (gD Sc 47 r 12)) 37 0 N (gD Sc 47 r 14)) 38 0 N (min (aw oo ((gD Sc 2 0 9) + 50)) 3999)) 35 0 5 ((N : Int) + 1) := ⟨_, rfl⟩
        rw [← hG] at eg
        rw [eg, b_I, if_neg (by omega)] at c2
        have xGo : EqX [36, 37, 38] [(35, 5)] Sc G := by rw [hG]; exact EqX_wC (EqX_wA (EqX_wA (EqX_wA EqX_rf (by decide)) (by decide)) (by decide)) (by decide)
        have xG : EqX LA1 LC1 Sc G := EqX_mo xGo (by decide) (by decide)
        have hGA : gD G 41 0 9 = (A : Int) := (EqX_c xG 41 9 rfl 0).trans hAc
        have xG2 : EqX LA2 LC2 Sc (wD (wD G 43 0 A (r : Int)) 44 0 A (gD Sc 2 0 9)) := EqX_wA (EqX_wA (EqX_mo xG (by decide) (by decide)) (by decide)) (by decide)
        simp (disch := decide) only [g_f, g_e, hGA, bA, if_true, tn] at c2
        rw [ld1 _ _ _ xG2 rfl rfl rfl rfl, b_I] at c2
        simp (disch := decide) only [g_f, g_e, hGA, bA, if_true, tn] at c2
        rw [aw0 (by omega)] at c2
        simp (disch := decide) only [br, if_true, tn, p1, e10, if_false, mA, bA, g_f, g_e, n1] at m2
        rw [mL, b_I] at m2
        simp (disch := decide) only [br, if_true, tn, p1, e10, if_false, mA, bA, g_f, g_e, n1, l5, l8] at m2
        have xM : EqX [135, 136, 137, 138] [] Sm (acM Sm A (r : Int) (gD Sc 2 0 9) L) := EqX_wA (EqX_wA (EqX_wA (EqX_wA EqX_rf (by decide)) (by decide)) (by decide)) (by decide)
        have eh := q_M_gives (d := d' - 1) (S := acM Sm A (r : Int) (gD Sc 2 0 9) L) (by omega) (N := N) (by rw [EqX_c xM 85 73 rfl, o1, hNo]) hN2 (gD Sc 47 r 12) (gD Sc 47 r 14) (min (aw oo ((gD Sc 2 0 9) + 50)) 3999)
        obtain ⟨H, hH⟩ : ∃ H, H = wD (wD (wD (wD (wD (wD (acM Sm A (r : Int) (gD Sc 2 0 9) L) 142 0 N (gD Sc 47 r 12)) 143 0 N (gD Sc 47 r 14)) 144 0 N (min (aw oo ((gD Sc 2 0 9) + 50)) 3999)) 145 0 N 0) 146 0 N 0) 85 0 73 ((N : Int) + 1) := ⟨_, rfl⟩
        rw [← hH] at eh
        rw [q_M_less _ (show 1 ≤ d' - 1 by omega), b_I, eh, b_I] at m2
        have y0 : EqX [] [] Sc Sc := EqX_rf
        have hOG : IO G H := IO_give (IO_fr (AgX y0 rfl) (AgX xM rfl) hO) hNo hN2 hG hH
        have xH0 : EqX MA1 MC1 (acM Sm A (r : Int) (gD Sc 2 0 9) L) H := by rw [hH]; exact EqX_wC (EqX_wA (EqX_wA (EqX_wA (EqX_wA (EqX_wA EqX_rf (by decide)) (by decide)) (by decide)) (by decide)) (by decide)) (by decide)
        have xHo : EqX [135, 136, 137, 138, 142, 143, 144, 145, 146] [(85, 73)] Sm (wD H 138 0 A (N : Int)) := by rw [hH]; exact EqX_wA (EqX_wC (EqX_wA (EqX_wA (EqX_wA (EqX_wA (EqX_wA (EqX_mo xM (by decide) (by decide)) (by decide)) (by decide)) (by decide)) (by decide)) (by decide)) (by decide)) (by decide)
        have hHA : gD H 85 0 64 = (A : Int) := (EqX_c xH0 85 64 rfl 0).trans ((EqX_c xM 85 64 rfl 0).trans mA)
        have xh8 : EqX [138] [] H (wD H 138 0 A (N : Int)) := EqX_wA EqX_rf (by decide)
        have yG : EqX [] [] G G := EqX_rf
        simp (disch := decide) only [g_f, mA, bA, if_true, tn, hHA] at m2
        rw [aw0 (by omega)] at m2
        obtain ⟨w1, w2, w3, w4, w5⟩ := act_fin (b := b + 1) (now := (gD Sc 2 0 9)) (x := (N : Int)) hA hAc hA3 hr ⟨rfl, n2⟩ xG (EqX_wA xH0 (by decide)) (IO_fr (AgX yG rfl) (AgX xh8 rfl) hOG) (IX_fr (AgX xGo rfl) (AgX xHo rfl) hX1) (fun k => by
          rw [g_i]
          by_cases e : k = A
          · rw [if_pos e, if_pos e]
          · rw [if_neg e, if_neg e, hH]
            simp (disch := decide) only [g_f, g_i]
            rw [if_neg e])
        exact ⟨_, _, c2, m2, w1, w2, w3, w4, w5⟩
      · rw [q_give0 (by omega) (by omega), b_I, if_pos rfl] at c2
        rw [if_pos (by unfold IO at hO; omega)] at m2
        exact ⟨Sc, Sm, c2, m2, EqX_rf, EqX_rf, hO, hX1, hA⟩
  · rw [if_neg (by omega)] at c2
    rw [if_pos (by omega)] at m2
    exact ⟨Sc, Sm, c2, m2, EqX_rf, EqX_rf, hO, hX1, hA⟩
end
