/-! how many rows: the reference -/
section
variable {d : Nat}
def GMd (D : DT) (S : SD) : Prop := (gD S 85 0 79) = (cnt (hcB D) 120 : Int) ∧ (∀ s : Nat, s < cnt (hcB D) 120 → (gD S 147 0 s) = ((clD D s / 3 : Nat) : Int) ∧ (gD S 148 0 s) = ((clD D s % 3 : Nat) : Int)) ∧ ∀ j : Nat, j < 320 → iF D j = true → (gD S 149 0 j) = (cnt (hcB D) (cel D j) : Int)
theorem GMd_of {D : DT} {Sc S0 S : SD} (hD : DAT D Sc S0) (h : GSm D S0 S 120 0) : GMd D S := by
  have hD' := hD
  unfold DAT at hD'
  have T4 := hD'.2.2.2.2.2.2.2.1
  obtain ⟨h1, h2, h3, h4⟩ := h
  refine ⟨h2, fun s hs => ?_, fun j a b => h4 j a b (Or.inl ?_)⟩
  · obtain ⟨a1, a2, a3⟩ := clD_sp hs
    have := h3 _ a1 a2
    rw [a3] at this
    exact this
  · obtain ⟨q1, q2⟩ := iF_bd hD a b
    unfold cel
    omega
theorem GMd_fr {D : DT} {S S' : SD} {A C} (x : EqX A C S S') (h1 : (!A.contains 85 && !C.contains (85, 79)) = true) (h2 : (!A.contains 147 && C.all (fun c => !(c.1 == 147))) = true) (h3 : (!A.contains 148 && C.all (fun c => !(c.1 == 148))) = true) (h4 : (!A.contains 149 && C.all (fun c => !(c.1 == 149))) = true) (h : GMd D S) : GMd D S' := by
  obtain ⟨a, b, c⟩ := h
  exact ⟨(EqX_c x 85 79 h1 0).trans a, fun s hs => ⟨(EqX_a x 147 h2 0 s).trans (b s hs).1, (EqX_a x 148 h3 0 s).trans (b s hs).2⟩, fun j p q => (EqX_a x 149 h4 0 j).trans (c j p q)⟩
def RAs (D : DT) (Sc S1 S : SD) (r : Nat) : Prop := EqX [151, 150] [] S1 S ∧ ∀ t : Nat, t < r → (gD S 150 0 t) = (DN D Sc t : Int) ∧ ∀ i : Nat, i < DN D Sc t → (gD S 151 0 (1000 * t + i)) = DP D Sc t i
theorem min_st {p n : Nat} (hn : 1 ≤ n) : min 20001 (min 20001 p * n) = min 20001 (p * n) := by
  by_cases h : p ≤ 20001
  · rw [Nat.min_eq_right h]
  · have h1 := Nat.le_mul_of_pos_right p hn
    rw [Nat.min_eq_left (show 20001 ≤ p by omega)]
    omega
theorem w_rows {Sc S1 : SD} {D : DT} (hd : 4 ≤ d) (hT : IT Sc S1) (hD : DAT D Sc S1) (hG : GMd D S1) (h12 : cnt (hcB D) 120 ≤ 12) : ∀ (n r : Nat) (S : SD), r ≤ cnt (hcB D) 120 → 2500 * (cnt (hcB D) 120 - r) < n → RAs D Sc S1 S r → ∃ S', run oo (EE false d) false mi_276 n 4 [(0, vr (some (85, 0))), (1, vi ((min 20001 (prN (DN D Sc) r) : Nat) : Int)), (2, vi (r : Int))] [] S = some (vi ((min 20001 (prN (DN D Sc) (cnt (hcB D) 120)) : Nat) : Int), S') ∧ RAs D Sc S1 S' (cnt (hcB D) 120) := by
  intro n
  induction n using Nat.strongRecOn with
  | ind n ih =>
    intro r S z1 z2 z3
    obtain ⟨x, q2⟩ := z3
    obtain ⟨n1, rfl⟩ : ∃ m, n = m + 1 := ⟨n - 1, by omega⟩
    have hG' := GMd_fr x rfl rfl rfl rfl hG
    rw [b276_4, hG'.1]
    by_cases hs : r < cnt (hcB D) 120
    · obtain ⟨c1, c2, c3⟩ := clD_sp hs
      have y0 : EqX [151, 150] [] S1 (wD S 150 0 r 0) := EqX_wA x (by decide)
      have hT2 : IT Sc (wD S 150 0 r 0) := IT_fr AgA_rf (AgX y0 rfl) hT
      have hD2 : DAT D Sc (wD S 150 0 r 0) := DAT_fr AgA_rf (AgX y0 rfl) hD
      have hG2 := GMd_fr y0 rfl rfl rfl rfl hG
      obtain ⟨e1, e2⟩ := hG2.2.1 r hs
      have hlh : lowC Sc (clD D r) ≤ higC Sc (clD D r) := by
        have hT' := hT
        unfold IT at hT'
        exact (hT'.2.2.2.2.2.2.2.2.2.2.1 _).2.1
      obtain ⟨S2, i1, i2⟩ := q_starts (d := d) (by omega) (lowC Sc (clD D r)) (by omega) (by omega) hT2 e1 e2 (by omega) (by omega) (r := r) (b := 0) (X := fun _ => False) ⟨EqX_rf, ⟨0, fun _ => 0, Nat.le_refl 0, RSL_0, g_e, fun i h => by omega⟩, fun j _ => rfl, fun j _ => rfl⟩
      have hT3 : IT Sc S2 := IT_fr AgA_rf (AgX i2.1 rfl) hT2
      have hG3 := GMd_fr i2.1 rfl rfl rfl rfl hG2
      obtain ⟨e3, e4⟩ := hG3.2.1 r hs
      obtain ⟨S3, j1, j2⟩ := q_starts (d := d) (by omega) (higC Sc (clD D r)) (by omega) (by omega) hT2 e1 e2 (by omega) (by omega) i2
      have hX : ∀ v, ((False ∨ (v = lowC Sc (clD D r) ∧ lowC Sc (clD D r) ≤ lowC Sc (clD D r) ∧ lowC Sc (clD D r) ≤ higC Sc (clD D r))) ∨ (v = higC Sc (clD D r) ∧ lowC Sc (clD D r) ≤ higC Sc (clD D r) ∧ higC Sc (clD D r) ≤ higC Sc (clD D r))) ↔ XS D (lowC Sc (clD D r)) (higC Sc (clD D r)) (clD D r) 0 v := fun v => ⟨fun q => by
        rcases q with (q | q) | q
        · exact q.elim
        · exact Or.inl q.1
        · exact Or.inr (Or.inl q.1), fun q => by
        rcases q with q | q | ⟨j, q, _⟩
        · exact Or.inl (Or.inr ⟨q, Int.le_refl _, hlh⟩)
        · exact Or.inr ⟨q, hlh, Int.le_refl _⟩
        · exact absurd q (by omega)⟩
      rw [if_pos (by omega), if_pos (by omega), if_pos (by omega), if_pos (by omega), tn, e1, e2, q_M_least hT2 (by omega) _ _ (by omega) (by omega), b_I]
      show ∃ S', bV (EE false d 275 [vr (some (85, 0)), vi (r : Int), vi (lowC Sc (clD D r))] (wD S 150 0 r 0)) _ = _ ∧ _
      rw [i1, b_V, if_pos (by omega), if_pos (by omega), e3, e4, q_M_most hT3 (by omega) _ _ (by omega) (by omega), b_I]
      show ∃ S', bV (EE false d 275 [vr (some (85, 0)), vi (r : Int), vi (higC Sc (clD D r))] S2) _ = _ ∧ _
      rw [j1, b_V]
      have D4 := hD2
      unfold DAT at D4
      obtain ⟨_, _, D3, D4, _⟩ := D4
      obtain ⟨m, S4, k1, k2, k3⟩ := (w_rowF (d := d) (r := r) (c := clD D r) (l1 := ((min 20001 (prN (DN D Sc) r) : Nat) : Int)) (by omega) hT2 hD2 (by omega) e1 e2 c1 (fun j a b e => by rw [hG2.2.2 j a b, e, c3]) n1).1 0 S3 (by omega) (by omega) (MLs_mo j2 hX (by show 0 + 1 + 1 ≤ 2 + 3 * 0; omega))
      have k2 : run oo (EE false d) false mi_276 n1 63 [(0, vr (some (85, 0))), (1, vi ((min 20001 (prN (DN D Sc) r) : Nat) : Int)), (2, vi (r : Int)), (3, vi 0)] [] S3 = _ := k2
      rw [k2]
      obtain ⟨m1, rfl⟩ : ∃ m1, m = m1 + 1 := ⟨m - 1, by omega⟩
      obtain ⟨k4, ⟨n', P', j3, j4, j5, j6⟩, j7, j8⟩ := k3
      obtain ⟨e5, e6⟩ := RSL_un (XNP (D := D) (lo := lowC Sc (clD D r)) (hi := higC Sc (clD D r)) (c := clD D r)).1 j4
      have e5 : DN D Sc r = n' := e5
      have e6 : ∀ i, i < DN D Sc r → P' i = DP D Sc r i := e6
      subst e5
      have k962 := DN_962 (D := D) (S := Sc) (s := r)
      have k1' := DN_1 (D := D) (S := Sc) (s := r)
      have eL : (gD S4 85 0 90) = (dL D : Int) := (EqX_c k4 85 90 rfl 0).trans D3
      have hmul : min 20001 (prN (DN D Sc) r) * DN D Sc r ≤ 20001 * 962 := Nat.mul_le_mul (by omega) k962
      have ep : prN (DN D Sc) (r + 1) = prN (DN D Sc) r * DN D Sc r := rfl
      have em := min_st (p := prN (DN D Sc) r) k1'
      rw [← ep] at em
      rw [b276_63, eL, if_neg (by omega), if_pos (by omega), tn, j5, aw_mul (by omega), q_M_less _ (by omega), b_I, awp (show r < 1000000 by omega)]
      rw [show min (20001 : Int) ((min 20001 (prN (DN D Sc) r) * DN D Sc r : Nat) : Int) = ((min 20001 (prN (DN D Sc) (r + 1)) : Nat) : Int) by rw [← em]; omega]
      refine ih m1 (by omega) (r + 1) S4 (by omega) (by omega) ⟨EqX_tr y0 k4, fun t ht => ?_⟩
      by_cases e : t = r
      · subst e
        exact ⟨j5, fun i hi => (j6 i hi).trans (e6 i hi)⟩
      · obtain ⟨p1, p2⟩ := q2 t (by omega)
        refine ⟨?_, fun i hi => ?_⟩
        · rw [j7 t e, g_i, if_neg e]
          exact p1
        · have := DN_962 (D := D) (S := Sc) (s := t)
          rw [j8 _ (by omega), g_f (by decide)]
          exact p2 i hi
    · have e : r = cnt (hcB D) 120 := by omega
      rw [if_neg (by omega), ← e]
      exact ⟨S, rfl, x, q2⟩
theorem q_rowsOf {Sc S1 : SD} {D : DT} (hd : 5 ≤ d) (hT : IT Sc S1) (hD : DAT D Sc S1) (hG : GMd D S1) (h12 : cnt (hcB D) 120 ≤ 12) : ∃ S', EE false d 276 [vr (some (85, 0))] S1 = some (vi ((min 20001 (prN (DN D Sc) (cnt (hcB D) 120)) : Nat) : Int), S') ∧ RAs D Sc S1 S' (cnt (hcB D) 120) := by
  rw [E276 (by omega), b276_0]
  exact w_rows (d := d - 1) (by omega) hT hD hG h12 999999 0 S1 (by omega) (by omega) ⟨EqX_rf, fun t h => by omega⟩
end
