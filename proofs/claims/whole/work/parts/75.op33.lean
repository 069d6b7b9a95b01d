/-! a rule upon numbers of REFS: the reference -/
section
variable {d : Nat}
theorem SLT_fr {Sc Sm Sm' : SD} {r : Nat} {A C} (x : EqX A C Sm Sm') (h1 : (!A.contains 149 && C.all (fun c => !(c.1 == 149))) = true) (h2 : (!A.contains 153 && C.all (fun c => !(c.1 == 153))) = true) (h : SLT Sc Sm r) : SLT Sc Sm' r := fun k hk => by
  obtain ⟨v, s, a1, a2, a3, a4, a5⟩ := h k hk
  exact ⟨v, s, a1, a2, by rw [EqX_a x 149 h1]; exact a3, by rw [EqX_a x 153 h2]; exact a4, a5⟩
theorem q_M_isT {d' : Nat} {Sc Sm : SD} {r : Nat} (h1 : RR1 r Sc Sm) (h2 : RR2 r Sc Sm) (hr : r < 20) (hS : SLT Sc Sm r) (w : Bool) (hw : w = true ∨ (gD Sc 47 r 10) < (gD Sc 47 r 9)) (at' : Int) (h6 : (gD Sm 85 0 63) = 1) (hd' : 4 ≤ d') : ∃ S'', EE false d' 253 [vr (some (85, 0)), vi (r : Int), vi ((w01 w : Nat) : Int), vi at'] Sm = some (vi (bi (evS (TS Sc r w) (FN Sc r) (TL Sc r w) 0)), S'') ∧ EqX [134] [] Sm S'' := by
  obtain ⟨c1, c2, c3, c4, c5, c6, c7⟩ := RR_w h1 h2 w hw
  have h1' := h1
  unfold RR1 at h1'
  obtain ⟨a1, a2, a3, a4, a5, a6⟩ := h1'
  have hw2 : w01 w < 2 := by cases w <;> decide
  have hE : ∀ S', EqX [134] [] Sm S' → (gD S' 125 0 (2 * r + w01 w)) = ((TL Sc r w : Nat) : Int) ∧ ∀ k, k < TL Sc r w → (gD S' 126 0 (200 * r + 100 * w01 w + k)) = TS Sc r w k := fun S' x => ⟨by rw [EqX_a x 125 rfl]; exact c6, fun k hk => by rw [EqX_a x 126 rfl]; exact c7 k hk⟩
  obtain ⟨S'', i1, i2, _⟩ := w_M_is (Sm := Sm) (r := r) (w := w01 w) (L := TL Sc r w) (D := 0) (G := Thi Sc r w) (lo := Tlo Sc r w) (hi := Thi Sc r w) (s := TS Sc r w) (F := FN Sc r) (at' := at') (K := EE false (d' - 1)) (Q := fun S' => EqX [134] [] Sm S') (fun S' dp v x => EqX_wA x (by decide)) hE hr hw2 (by omega) c2 c3 c5 (fun S' n p dp k x hp hs k1 k2 hdp => by
      obtain ⟨q1, q2⟩ := hE S' x
      have en := awp (show 200 * r + 100 * w01 w + p < 1000000 by omega)
      rw [show 200 * r + 100 * w01 w + p + 1 = 200 * r + 100 * w01 w + (p + 1) by omega] at en
      have em := awp (show dp < 1000000 by omega)
      obtain ⟨v0, s, s1, s2, s3, s4, s5⟩ := hS k (by omega)
      obtain ⟨f1, f2, f3, f4, f5, f6, f7, f8, f9, f10, f11, f12, f13, f14, f15⟩ := a6 k (by omega)
      have eF : FN Sc r k = (cmpI (gD Sc 56 0 s) (gD Sc 52 r k) (gD Sc 53 r k) == 1) := by
        unfold FN
        rw [s2, tn]
      rw [b253_17, awA (by omega), if_pos (by omega), tn, q1, awC (by omega), if_pos (by omega), if_pos (by omega), tn, q2 p hp, hs, if_neg (by omega), if_pos (by omega), EqX_c x 85 63 rfl, h6, if_neg (by decide), awB (by omega), if_pos (by omega), tn, EqX_a x 149 rfl, s3, if_pos (by omega), if_pos (by omega), if_pos (by omega), tn, EqX_a x 153 rfl, EqX_a x 131 rfl, EqX_a x 132 rfl, s4, f10, f13, q_M_holds (by omega), b_I, cmpI_b, ← eF, if_pos (by omega), if_pos (bi01 _), tn, en, em]) 999999 0 0 (Tlo Sc r w) Sm (by omega) (by omega) EqX_rf (by show some (0, _) = _; rw [Int.toNat_natCast]) (fun i hi => by omega)
  refine ⟨S'', ?_, i2⟩
  have n1 : aw oo (100 * aw oo (aw oo (2 * (r : Int)) + ((w01 w : Nat) : Int))) = ((200 * r + 100 * w01 w : Nat) : Int) := by rw [aw0 (z := 2 * (r : Int)) (by omega), aw0 (z := 2 * (r : Int) + ((w01 w : Nat) : Int)) (by omega), aw0 (by omega)]; omega
  rw [E253 (by omega), b253_0, n1]
  exact i1
theorem q_isMet {d' : Nat} {Sc Sm : SD} {r : Nat} (h1 : RR1 r Sc Sm) (h2 : RR2 r Sc Sm) (hr : r < 20) (hS : SLT Sc Sm r) (hd' : 5 ≤ d') : ∃ S', EE false d' 278 [vr (some (85, 0)), vi (r : Int)] Sm = some (vi (bi (HV Sc r (FN Sc r))), S') ∧ EqX [134] [(85, 63)] Sm S' ∧ (gD S' 85 0 63) = 0 := by
  have x0 : EqX [] [] Sc Sc := EqX_rf
  have x : EqX [] [(85, 63)] Sm (wD Sm 85 0 63 1) := EqX_wC EqX_rf (by decide)
  have h1a := RR1_fr (AgX x0 rfl) (AgX x rfl) h1
  have h2a := RR2_fr (AgX x0 rfl) (AgX x rfl) h2
  obtain ⟨S1, i1, i2⟩ := q_M_isT (d' := d' - 1) h1a h2a hr (SLT_fr x rfl rfl hS) true (Or.inl rfl) 0 g_e (by omega)
  have i1 : EE false (d' - 1) 253 [vr (some (85, 0)), vi (r : Int), vi 0, vi 0] (wD Sm 85 0 63 1) = _ := i1
  have y1 : EqX [134] [(85, 63)] Sm S1 := EqX_tr (EqX_mo x (by decide) (by decide)) (EqX_mo i2 (by decide) (by decide))
  have m2 := (E278 (d := d') (by omega) Sm (r : Int)).trans (b278_0 oo (EE false (d' - 1)) 999999 Sm (r : Int))
  rw [i1, b_I] at m2
  have w0 : ∀ (S2 : SD), EqX [134] [(85, 63)] Sm S2 → EqX [134] [(85, 63)] Sm (wD S2 85 0 63 0) ∧ gD (wD S2 85 0 63 0) 85 0 63 = 0 := fun S2 y => ⟨EqX_wC y (by decide), g_e⟩
  unfold HV
  cases hv : evS (TS Sc r true) (FN Sc r) (TL Sc r true) 0 with
  | false =>
    rw [hv, if_pos (by decide)] at m2
    exact ⟨_, m2, w0 S1 y1⟩
  | true =>
    rw [hv, if_neg (by decide)] at m2
    have h2' := h2
    unfold RR2 at h2'
    obtain ⟨g1, g2, g3, g4, g5, _⟩ := h2'
    have n2 : vi (aw oo (aw oo (2 * (r : Int)) + 1)) = vi ((2 * r + 1 : Nat) : Int) := congrArg vi (awA (w := 1) (by omega))
    have eU : EE false (d' - 1) 254 [vr (some (85, 0)), vi (r : Int)] S1 = some (vi (if (gD Sc 47 r 10) < (gD Sc 47 r 9) then 1 else 0), S1) := by
      rw [E254 (by omega), b254_0, show aw oo (aw oo (2 * (r : Int)) + 1) = ((2 * r + 1 : Nat) : Int) from awA (w := 1) (by omega), if_pos (by omega), tn, EqX_a y1 125 rfl, g2]
      by_cases hu : (gD Sc 47 r 10) < (gD Sc 47 r 9)
      · rw [if_pos hu, if_pos (by omega)]
      · rw [if_neg hu, if_neg (by omega)]
    rw [eU, b_I] at m2
    by_cases hu : (gD Sc 47 r 10) < (gD Sc 47 r 9)
    · rw [if_pos hu, if_neg (by decide)] at m2
      have y2 : EqX [134] [] (wD Sm 85 0 63 1) S1 := i2
      obtain ⟨S2, j1, j2⟩ := q_M_isT (d' := d' - 1) (RR1_fr (AgX x0 rfl) (AgX y2 rfl) h1a) (RR2_fr (AgX x0 rfl) (AgX y2 rfl) h2a) hr (SLT_fr y2 rfl rfl (SLT_fr x rfl rfl hS)) false (Or.inr hu) 0 (by rw [EqX_c y2 85 63 rfl]; exact g_e) (by omega)
      have j1 : EE false (d' - 1) 253 [vr (some (85, 0)), vi (r : Int), vi 1, vi 0] S1 = _ := j1
      rw [j1, b_I] at m2
      have y3 : EqX [134] [(85, 63)] Sm S2 := EqX_tr y1 (EqX_mo j2 (by decide) (by decide))
      rw [decide_eq_true hu]
      cases hv2 : evS (TS Sc r false) (FN Sc r) (TL Sc r false) 0 with
      | false =>
        rw [hv2, if_pos (by decide)] at m2
        exact ⟨_, m2, w0 S2 y3⟩
      | true =>
        rw [hv2, if_neg (by decide)] at m2
        exact ⟨_, m2, w0 S2 y3⟩
    · rw [if_neg hu, if_pos rfl] at m2
      rw [decide_eq_false hu]
      exact ⟨_, m2, w0 S1 y1⟩
theorem q_holds {Sc Sm : SD} {r : Nat} (hT : IT Sc Sm) (h1 : RR1 r Sc Sm) (h2 : RR2 r Sc Sm) (hS : SLT Sc Sm r) (hd : 4 ≤ d) : EE false d 9 [vr (some (55, 0)), vr (some (47, r))] Sc = some (vi (bi (HV Sc r (FN Sc r))), Sc) := by
  rw [E9 (by omega), b9_0]
  have h1' := h1
  unfold RR1 at h1'
  exact w_holds (d := d - 1) hT h1 h2 hS (by omega) 999999 0 0 (by omega) (by omega) (fun k hk => by omega) (fun k _ _ => ti_0 k)
end
