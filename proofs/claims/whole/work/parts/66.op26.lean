/-! held -/
section
variable {d : Nat}
theorem awA {r w : Nat} (h : r < 20 ∧ w < 2) : aw oo (aw oo (2 * (r : Int)) + (w : Int)) = ((2 * r + w : Nat) : Int) := by rw [aw0 (z := 2 * (r : Int)) (by omega), aw0 (by omega)]; omega
theorem awB {r k : Nat} (h : r < 20 ∧ k < 16) : aw oo (aw oo (16 * (r : Int)) + (k : Int)) = ((16 * r + k : Nat) : Int) := by rw [aw0 (z := 16 * (r : Int)) (by omega), aw0 (by omega)]; omega
theorem awC {a l : Nat} (h : a ≤ 10000 ∧ l ≤ 10000) : aw oo ((a : Int) + (l : Int)) = (a : Int) + (l : Int) := aw0 (by omega)
theorem awD {a m : Int} (h : 0 ≤ a ∧ a ≤ 4000 ∧ 0 ≤ m ∧ m ≤ 1000) : aw oo (aw oo (a - m) + 1) = a - m + 1 := by rw [aw0 (z := a - m) (by omega), aw0 (by omega)]
theorem q_M_is {d' : Nat} {Sc Sm : SD} {N r : Nat} (hN : (gD Sc 13 0 16) = (N : Int)) (hN4 : N ≤ 400) (hT : IT Sc Sm) (hW : IW Sc Sm) (hK : IC Sc Sm) (h1 : RR1 r Sc Sm) (h2 : RR2 r Sc Sm) (hr : r < 20) (w : Bool) (hw : w = true ∨ (gD Sc 47 r 10) < (gD Sc 47 r 9)) (at' kn : Int) (h5 : (gD Sm 85 0 61) = kn) (h6 : (gD Sm 85 0 63) = 0) (hd : 3 ≤ d) (hd' : 4 ≤ d') : ∃ S'', EE false d' 253 [vr (some (85, 0)), vi (r : Int), vi ((w01 w : Nat) : Int), vi at'] Sm = some (vi (bi (TR d Sc r w at' kn)), S'') ∧ EqX [134] [] Sm S'' := by
  obtain ⟨c1, c2, c3, c4, c5, c6, c7⟩ := RR_w h1 h2 w hw
  have hw2 : w01 w < 2 := by cases w <;> decide
  have hE : ∀ S', EqX [134] [] Sm S' → (gD S' 125 0 (2 * r + w01 w)) = ((TL Sc r w : Nat) : Int) ∧ ∀ k, k < TL Sc r w → (gD S' 126 0 (200 * r + 100 * w01 w + k)) = TS Sc r w k := fun S' x => ⟨by rw [EqX_a x 125 rfl]; exact c6, fun k hk => by rw [EqX_a x 126 rfl]; exact c7 k hk⟩
  obtain ⟨S'', i1, i2, _⟩ := w_M_is (Sm := Sm) (r := r) (w := w01 w) (L := TL Sc r w) (D := 0) (G := Thi Sc r w) (lo := Tlo Sc r w) (hi := Thi Sc r w) (s := TS Sc r w) (F := FT d Sc r at' kn) (at' := at') (K := EE false (d' - 1)) (Q := fun S' => EqX [134] [] Sm S') (fun S' dp v x => EqX_wA x (by decide)) hE hr hw2 (by omega) c2 c3 c5 (fun S' n p dp k x hp hs k1 k2 hdp => by
      obtain ⟨q1, q2⟩ := hE S' x
      have en := awp (show 200 * r + 100 * w01 w + p < 1000000 by omega)
      rw [show 200 * r + 100 * w01 w + p + 1 = 200 * r + 100 * w01 w + (p + 1) by omega] at en
      have em := awp (show dp < 1000000 by omega)
      have x0 : EqX [] [] Sc Sc := EqX_rf
      obtain ⟨v, _, _, j3⟩ := FT_sp (d := d) (d' := d' - 1) (Sm := S') hN hN4 (IT_fr (AgX x0 rfl) (AgX x rfl) hT) (IW_fr (AgX x0 rfl) (AgX x rfl) hW) (IC_fr (AgX x0 rfl) (AgX x rfl) hK) (RR1_fr (AgX x0 rfl) (AgX x rfl) h1) hr (k := k) (by omega) at' kn (by rw [EqX_c x 85 61 rfl]; exact h5) hd (by omega)
      rw [b253_17, awA (by omega), if_pos (by omega), tn, q1, awC (by omega), if_pos (by omega), if_pos (by omega), tn, q2 p hp, hs, if_neg (by omega), if_pos (by omega), EqX_c x 85 63 rfl, h6, if_pos rfl, awB (by omega), j3, b_I, if_pos (by omega), if_pos (bi01 _), tn, en, em]) 999999 0 0 (Tlo Sc r w) Sm (by omega) (by omega) EqX_rf (by show some (0, _) = _; rw [Int.toNat_natCast]) (fun i hi => by omega)
  refine ⟨S'', ?_, i2⟩
  have n1 : aw oo (100 * aw oo (aw oo (2 * (r : Int)) + ((w01 w : Nat) : Int))) = ((200 * r + 100 * w01 w : Nat) : Int) := by rw [aw0 (z := 2 * (r : Int)) (by omega), aw0 (z := 2 * (r : Int) + ((w01 w : Nat) : Int)) (by omega), aw0 (by omega)]; omega
  rw [E253 (by omega), b253_0, n1]
  exact i1
def HP (d : Nat) (S : SD) (r : Nat) (at' kn fi : Int) : Prop := (∀ u : Int, fi ≤ u → u ≤ at' → TR d S r true u kn = true) ∧ ((gD S 47 r 10) < (gD S 47 r 9) → TR d S r false at' kn = false)
theorem w_held {Sc Sm : SD} {N r : Nat} (hN : (gD Sc 13 0 16) = (N : Int)) (hN4 : N ≤ 400) (hT : IT Sc Sm) (hW : IW Sc Sm) (hK : IC Sc Sm) (h1 : RR1 r Sc Sm) (h2 : RR2 r Sc Sm) (hr : r < 20) (at' kn fi : Int) (h5 : (gD Sm 85 0 61) = kn) (hd : 4 ≤ d) (ha : -10000 ≤ at' ∧ at' ≤ 10000) (hf : -10000 ≤ fi ∧ fi ≤ at' + 1) : ∀ (n : Nat) (t : Int), fi - 1 ≤ t → t ≤ at' → t - fi + 1 < n → (∀ u : Int, t < u → u ≤ at' → TR (d - 1) Sc r true u kn = true) → ∃ b, run oo (EE false d) false mi_114 n 28 [(0, vr (some (41, 0))), (1, vr (some (47, r))), (2, vi at'), (3, vi kn), (4, vi fi), (5, vi t)] [] Sc = some (vi (bi b), Sc) ∧ (b = true ↔ HP (d - 1) Sc r at' kn fi) := by
  intro n
  induction n with
  | zero => intro t z1 z2 z3; omega
  | succ n ih =>
    intro t z1 z2 z3 z4
    rw [b114_28]
    by_cases ht : t < fi
    · rw [if_pos ht, E48 (by omega), b48_0]
      by_cases hu : (gD Sc 47 r 10) < (gD Sc 47 r 9)
      · rw [if_pos hu, b_I, if_neg (by decide)]
        have i1 := q_isTr (d := d) hN hN4 hT hW hK h1 h2 hr false (Or.inr hu) at' kn h5 (by omega)
        have i1 : EE false d 115 [vr (some (41, 0)), vr (some (47, r)), vi 0, vi at', vi kn] Sc = _ := i1
        rw [i1, b_I]
        cases hb : TR (d - 1) Sc r false at' kn with
        | true => exact ⟨false, by rw [if_neg (by decide)]; rfl, fun q => (by cases q), fun q => by have := q.2 hu; rw [hb] at this; cases this⟩
        | false => exact ⟨true, by rw [if_pos (by decide)]; rfl, fun _ => ⟨fun u u1 u2 => z4 u (by omega) u2, fun _ => hb⟩, fun _ => rfl⟩
      · rw [if_neg hu, b_I, if_pos rfl]
        exact ⟨true, rfl, fun _ => ⟨fun u u1 u2 => z4 u (by omega) u2, fun q => absurd q hu⟩, fun _ => rfl⟩
    · rw [if_neg ht]
      have i1 := q_isTr (d := d) hN hN4 hT hW hK h1 h2 hr true (Or.inl rfl) t kn h5 (by omega)
      have i1 : EE false d 115 [vr (some (41, 0)), vr (some (47, r)), vi 1, vi t, vi kn] Sc = _ := i1
      rw [i1, b_I]
      cases hb : TR (d - 1) Sc r true t kn with
      | false => exact ⟨false, by rw [if_pos (by decide)]; rfl, fun q => (by cases q), fun q => by have := q.1 t (by omega) z2; rw [hb] at this; cases this⟩
      | true =>
        rw [if_neg (by decide), aw0 (by omega)]
        exact ih _ (by omega) (by omega) (by omega) (fun u u1 u2 => by
          by_cases e : u = t
          · subst e; exact hb
          · exact z4 u (by omega) u2)
theorem w_M_held {d' : Nat} {Sc Sm : SD} {N r : Nat} (hN : (gD Sc 13 0 16) = (N : Int)) (hN4 : N ≤ 400) (hT : IT Sc Sm) (hW : IW Sc Sm) (hK : IC Sc Sm) (h1 : RR1 r Sc Sm) (h2 : RR2 r Sc Sm) (hr : r < 20) (at' kn fi : Int) (h5 : (gD Sm 85 0 61) = kn) (h6 : (gD Sm 85 0 63) = 0) (hd : 3 ≤ d) (hd' : 4 ≤ d') (ha : -10000 ≤ at' ∧ at' ≤ 10000) (hf : -10000 ≤ fi ∧ fi ≤ at' + 1) : ∀ (n : Nat) (t : Int) (S' : SD), EqX [134] [] Sm S' → fi ≤ t → t ≤ at' + 1 → at' + 1 - t < n → (∀ u : Int, fi ≤ u → u < t → TR d Sc r true u kn = true) → ∃ b S'', run oo (EE false d') false mi_255 n 38 [(0, vr (some (85, 0))), (1, vi (r : Int)), (2, vi at'), (4, vi t)] [] S' = some (vi (bi b), S'') ∧ (b = true ↔ HP d Sc r at' kn fi) ∧ EqX [134] [] Sm S'' := by
  have x0 : EqX [] [] Sc Sc := EqX_rf
  have is : ∀ (S' : SD) (w : Bool) (t : Int), EqX [134] [] Sm S' → (w = true ∨ (gD Sc 47 r 10) < (gD Sc 47 r 9)) → ∃ S'', EE false d' 253 [vr (some (85, 0)), vi (r : Int), vi ((w01 w : Nat) : Int), vi t] S' = some (vi (bi (TR d Sc r w t kn)), S'') ∧ EqX [134] [] Sm S'' := by
    intro S' w t x hw
    obtain ⟨S'', i1, i2⟩ := q_M_is (d := d) (d' := d') (Sm := S') hN hN4 (IT_fr (AgX x0 rfl) (AgX x rfl) hT) (IW_fr (AgX x0 rfl) (AgX x rfl) hW) (IC_fr (AgX x0 rfl) (AgX x rfl) hK) (RR1_fr (AgX x0 rfl) (AgX x rfl) h1) (RR2_fr (AgX x0 rfl) (AgX x rfl) h2) hr w hw t kn (by rw [EqX_c x 85 61 rfl]; exact h5) (by rw [EqX_c x 85 63 rfl]; exact h6) hd hd'
    exact ⟨S'', i1, EqX_tr x i2⟩
  have h2' := h2
  unfold RR2 at h2'
  obtain ⟨g1, g2, g3, g4, g5, _⟩ := h2'
  intro n
  induction n with
  | zero => intro t S' x z1 z2 z3; omega
  | succ n ih =>
    intro t S' x z1 z2 z3 z4
    rw [b255_38]
    by_cases ht : at' < t
    · have n2 : aw oo (aw oo (2 * (r : Int)) + 1) = ((2 * r + 1 : Nat) : Int) := by rw [aw0 (z := 2 * (r : Int)) (by omega), aw0 (by omega)]; omega
      rw [if_pos ht, E254 (by omega), b254_0, n2, if_pos (by omega), tn, EqX_a x 125 rfl, g2]
      by_cases hu : (gD Sc 47 r 10) < (gD Sc 47 r 9)
      · rw [if_pos (by omega), b_I, if_neg (by decide)]
        obtain ⟨S'', i1, i2⟩ := is S' false at' x (Or.inr hu)
        have i1 : EE false d' 253 [vr (some (85, 0)), vi (r : Int), vi 1, vi at'] S' = _ := i1
        rw [i1, b_I]
        cases hb : TR d Sc r false at' kn with
        | true => exact ⟨false, S'', by rw [if_neg (by decide)]; rfl, ⟨fun q => (by cases q), fun q => by have := q.2 hu; rw [hb] at this; cases this⟩, i2⟩
        | false => exact ⟨true, S'', by rw [if_pos (by decide)]; rfl, ⟨fun _ => ⟨fun u u1 u2 => z4 u u1 (by omega), fun _ => hb⟩, fun _ => rfl⟩, i2⟩
      · rw [if_neg (by omega), b_I, if_pos rfl]
        exact ⟨true, S', rfl, ⟨fun _ => ⟨fun u u1 u2 => z4 u u1 (by omega), fun q => absurd q hu⟩, fun _ => rfl⟩, x⟩
    · rw [if_neg ht]
      obtain ⟨S'', i1, i2⟩ := is S' true t x (Or.inl rfl)
      have i1 : EE false d' 253 [vr (some (85, 0)), vi (r : Int), vi 0, vi t] S' = _ := i1
      rw [i1, b_I]
      cases hb : TR d Sc r true t kn with
      | false => exact ⟨false, S'', by rw [if_pos (by decide)]; rfl, ⟨fun q => (by cases q), fun q => by have := q.1 t (by omega) (by omega); rw [hb] at this; cases this⟩, i2⟩
      | true =>
        rw [if_neg (by decide), aw0 (by omega)]
        exact ih _ S'' i2 (by omega) (by omega) (by omega) (fun u u1 u2 => by
          by_cases e : u = t
          · subst e; exact hb
          · exact z4 u u1 (by omega))
theorem held_both {d' : Nat} {Sc Sm : SD} {r : Nat} (hT : IT Sc Sm) (hW : IW Sc Sm) (hK : IC Sc Sm) (hR : IR Sc Sm) (hr : (r : Int) < (gD Sc 41 0 8)) (hF : (gD Sm 114 0 r) = (gD Sc 47 r 16)) (at' kn : Int) (ha : 0 ≤ at' ∧ at' ≤ 3999) (hd : 5 ≤ d) (hd' : 5 ≤ d') : ∃ b Sm', EE false d 114 [vr (some (41, 0)), vr (some (47, r)), vi at', vi kn] Sc = some (vi (bi b), Sc) ∧ EE false d' 255 [vr (some (85, 0)), vi (r : Int), vi at', vi kn] Sm = some (vi (bi b), Sm') ∧ EqX [134] [(85, 61)] Sm Sm' := by
  have uW := hW
  unfold IW at uW
  obtain ⟨w1, w2, w3, _⟩ := uW
  obtain ⟨N, hN⟩ := Int.eq_ofNat_of_zero_le w2
  have hN4 : N ≤ 400 := by omega
  have uR := hR; unfold IR at uR
  obtain ⟨r1, r2, r3, r4, r5⟩ := uR
  obtain ⟨h1, h2, h3⟩ := r5 r hr
  have h3' := h3; unfold RR3 at h3'
  obtain ⟨l1, l2, l3, l4, _⟩ := h3'
  have hr2 : r < 20 := by omega
  have x0 : EqX [] [] Sc Sc := EqX_rf
  have x : EqX [] [(85, 61)] Sm (wD Sm 85 0 61 kn) := EqX_wC EqX_rf (by decide)
  have c2 := (E114 (d := d) (by omega) Sc r at' kn).trans (b114_0 oo (EE false (d - 1)) 999999 Sc r at' kn)
  have m2 := (E255 (d := d') (by omega) Sm (r : Int) at' kn).trans (b255_0 oo (EE false (d' - 1)) 999999 Sm (r : Int) at' kn)
  rw [abmax, awD (by omega)] at c2
  rw [if_pos (by omega), if_pos (by omega), tn, EqX_a x 115 rfl, EqX_a x 114 rfl, l4, awD (by omega), hF] at m2
  by_cases q : at' - max (gD Sc 47 r 11) 1 + 1 < (gD Sc 47 r 16)
  · rw [if_pos q] at c2 m2
    exact ⟨false, _, c2, m2, EqX_wC EqX_rf (by decide)⟩
  · rw [if_neg q] at c2 m2
    rw [if_pos (by omega)] at m2
    have k6 : gD (wD Sm 85 0 61 kn) 85 0 63 = 0 := by rw [EqX_c x 85 63 rfl]; exact r4
    obtain ⟨b, i1, i2⟩ := w_held (d := d - 1) (Sm := wD Sm 85 0 61 kn) hN hN4 (IT_fr (AgX x0 rfl) (AgX x rfl) hT) (IW_fr (AgX x0 rfl) (AgX x rfl) hW) (IC_fr (AgX x0 rfl) (AgX x rfl) hK) (RR1_fr (AgX x0 rfl) (AgX x rfl) h1) (RR2_fr (AgX x0 rfl) (AgX x rfl) h2) hr2 at' kn (at' - max (gD Sc 47 r 11) 1 + 1) g_e (by omega) (by omega) (by omega) 999999 at' (by omega) (by omega) (by omega) (fun u u1 u2 => by omega)
    obtain ⟨b', S'', j1, j2, j3⟩ := w_M_held (d := d - 1 - 1) (d' := d' - 1) (Sm := wD Sm 85 0 61 kn) hN hN4 (IT_fr (AgX x0 rfl) (AgX x rfl) hT) (IW_fr (AgX x0 rfl) (AgX x rfl) hW) (IC_fr (AgX x0 rfl) (AgX x rfl) hK) (RR1_fr (AgX x0 rfl) (AgX x rfl) h1) (RR2_fr (AgX x0 rfl) (AgX x rfl) h2) hr2 at' kn (at' - max (gD Sc 47 r 11) 1 + 1) g_e k6 (by omega) (by omega) (by omega) (by omega) 999999 (at' - max (gD Sc 47 r 11) 1 + 1) _ EqX_rf (by omega) (by omega) (by omega) (fun u u1 u2 => by omega)
    have e : b' = b := by
      cases b with
      | true => exact j2.mpr (i2.mp rfl)
      | false =>
        cases b' with
        | true => exact (i2.mpr (j2.mp rfl)).symm
        | false => rfl
    rw [e] at j1
    exact ⟨b, S'', c2.trans i1, m2.trans j1, EqX_tr (EqX_wC EqX_rf (by decide)) (EqX_mo j3 (by decide) (by decide))⟩
end
