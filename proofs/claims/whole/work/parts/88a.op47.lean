/-! rows of numbers: the class turns them, the reference counts them out -/
section
variable {d : Nat}
def lft (N : Nat → Nat) (R row : Nat) : Nat → Nat
  | 0 => row
  | m + 1 => lft N R row m / N (R - 1 - m)
def dgt (N : Nat → Nat) (R row t : Nat) : Nat := lft N R row (R - 1 - t) % N t
theorem dgt_lt {N : Nat → Nat} {R row t : Nat} (h : 1 ≤ N t) : dgt N R row t < N t := Nat.mod_lt _ h
theorem md_s1 {a n : Nat} (hn : 0 < n) (h : a % n + 1 < n) : (a + 1) % n = a % n + 1 ∧ (a + 1) / n = a / n := by
  have e : a + 1 = n * (a / n) + (a % n + 1) := by have := Nat.div_add_mod a n; omega
  generalize a / n = q at *
  generalize a % n = r at *
  rw [e, Nat.mul_add_mod, Nat.mod_eq_of_lt h, Nat.mul_add_div hn, Nat.div_eq_of_lt h]
  exact ⟨rfl, rfl⟩
theorem md_s2 {a n : Nat} (hn : 0 < n) (h : ¬ a % n + 1 < n) : (a + 1) % n = 0 ∧ (a + 1) / n = a / n + 1 := by
  have h2 := Nat.mod_lt a hn
  have e : a + 1 = n * (a / n + 1) := by
    have := Nat.div_add_mod a n
    rw [Nat.mul_add, Nat.mul_one]
    omega
  generalize a / n = q at *
  rw [e, Nat.mul_mod_right, Nat.mul_div_cancel_left _ hn]
  exact ⟨rfl, rfl⟩
theorem lft_0 {N : Nat → Nat} {R : Nat} : ∀ m, lft N R 0 m = 0
  | 0 => rfl
  | m + 1 => by
    show lft N R 0 m / _ = 0
    rw [lft_0 m, Nat.zero_div]
theorem dgt_0 {N : Nat → Nat} {R t : Nat} : dgt N R 0 t = 0 := by
  unfold dgt
  rw [lft_0, Nat.zero_mod]
theorem lft_sm {N : Nat → Nat} {R r1 r2 m : Nat} (h : lft N R r1 m = lft N R r2 m) : ∀ k, lft N R r1 (m + k) = lft N R r2 (m + k)
  | 0 => h
  | k + 1 => by
    show lft N R r1 (m + k) / _ = lft N R r2 (m + k) / _
    rw [lft_sm h k]
/-- what the class has gathered -/
def CSt (D : DT) (S0 S : SD) : Prop := (gD S 62 0 7) = (cnt (hcB D) 120 : Int) ∧ (∀ s : Nat, s < cnt (hcB D) 120 → (gD S 63 0 s) = (clD D s : Int)) ∧ (∀ t : Nat, t ≤ cnt (hcB D) 120 → (gD S 66 0 t) = (smN (DN D S0) t : Int)) ∧ ∀ t i : Nat, t < cnt (hcB D) 120 → i < DN D S0 t → (gD S 65 0 (smN (DN D S0) t + i)) = DP D S0 t i
theorem CSt_fr {D : DT} {S0 S S' : SD} (h : AgA [63, 66, 65] [(62, 7)] S S') (q : CSt D S0 S) : CSt D S0 S' := by
  obtain ⟨q1, q2, q3, q4⟩ := q
  exact ⟨(h.2 (62, 7) (by decide) 0).trans q1, fun s hs => (h.1 63 (by decide) 0 s).trans (q2 s hs), fun t ht => (h.1 66 (by decide) 0 t).trans (q3 t ht), fun t i ht hi => (h.1 65 (by decide) 0 _).trans (q4 t i ht hi)⟩
/-- what the reference has gathered -/
def MSt (D : DT) (Sc S : SD) : Prop := GMd D S ∧ ∀ t : Nat, t < cnt (hcB D) 120 → (gD S 150 0 t) = (DN D Sc t : Int) ∧ ∀ i : Nat, i < DN D Sc t → (gD S 151 0 (1000 * t + i)) = DP D Sc t i
theorem MSt_fr {D : DT} {Sc S S' : SD} (h : AgA [147, 148, 149, 150, 151] [(85, 79)] S S') (q : MSt D Sc S) : MSt D Sc S' := by
  obtain ⟨⟨a, b, c⟩, e⟩ := q
  exact ⟨⟨(h.2 (85, 79) (by decide) 0).trans a, fun s hs => ⟨(h.1 147 (by decide) 0 s).trans (b s hs).1, (h.1 148 (by decide) 0 s).trans (b s hs).2⟩, fun j p q => (h.1 149 (by decide) 0 j).trans (c j p q)⟩, fun t ht => ⟨(h.1 150 (by decide) 0 t).trans (e t ht).1, fun i hi => (h.1 151 (by decide) 0 _).trans ((e t ht).2 i hi)⟩⟩
theorem w_turn {K : KT} {S0 : SD} {D : DT} {row R : Nat} (hR : cnt (hcB D) 120 = R) (h12 : R ≤ 12) : ∀ (n m : Nat) (S : SD), m ≤ R → R - m < n → CSt D S0 S → lft (DN D S0) R (row + 1) m = lft (DN D S0) R row m + 1 → (∀ t, t + m < R → (gD S 67 0 t) = (dgt (DN D S0) R row t : Int)) → (∀ t, t < R → R ≤ t + m → (gD S 67 0 t) = (dgt (DN D S0) R (row + 1) t : Int)) → ∃ S', run oo K false mi_91 n 7 [(0, vr (some (62, 0))), (1, vi ((R : Int) - 1 - (m : Int)))] [] S = some (vi 0, S') ∧ EqX [67] [] S S' ∧ ∀ t, t < R → (gD S' 67 0 t) = (dgt (DN D S0) R (row + 1) t : Int) := by
  intro n
  induction n with
  | zero => intro m S z1 z2; omega
  | succ n ih =>
    intro m S z1 z2 z3 z4 z5 z6
    rw [b91_7]
    by_cases hm : m < R
    · obtain ⟨s, hs⟩ : ∃ s, s + m + 1 = R := ⟨R - 1 - m, by omega⟩
      have es : (R : Int) - 1 - (m : Int) = (s : Int) := by omega
      have es' : R - 1 - m = s := by omega
      have k1 := DN_1 (D := D) (S := S0) (s := s)
      have k2 := DN_962 (D := D) (S := S0) (s := s)
      have ed : dgt (DN D S0) R row s = lft (DN D S0) R row m % DN D S0 s := by unfold dgt; rw [show R - 1 - s = m by omega]
      have ed' : dgt (DN D S0) R (row + 1) s = (lft (DN D S0) R row m + 1) % DN D S0 s := by unfold dgt; rw [show R - 1 - s = m by omega, z4]
      have hlt := dgt_lt (R := R) (row := row) k1
      have p1 := z3.2.2.1 s (by omega)
      have p2 := z3.2.2.1 (s + 1) (by omega)
      have esm : smN (DN D S0) (s + 1) = smN (DN D S0) s + DN D S0 s := rfl
      have hB : smN (DN D S0) s < 100000 := by
        have h5 := smN_bd (D := D) (S := S0) (s := s) (by omega) (by omega)
        omega
      have t1 := z5 s (by omega)
      have em1 : lft (DN D S0) R (row + 1) (m + 1) = (lft (DN D S0) R row m + 1) / DN D S0 s := by
        show lft (DN D S0) R (row + 1) m / DN D S0 (R - 1 - m) = _
        rw [z4, es']
      have em2 : lft (DN D S0) R row (m + 1) = lft (DN D S0) R row m / DN D S0 s := by
        show lft (DN D S0) R row m / DN D S0 (R - 1 - m) = _
        rw [es']
      rw [es, if_neg (by omega), if_pos (by omega), if_pos (by omega), if_pos (by omega), awn (by omega), if_pos (by omega), if_pos (by omega), tn, tn, g_e, g_f (by decide), g_f (by decide), p1, p2, t1, aw0 (z := ((smN (DN D S0) (s + 1) : Nat) : Int) - ((smN (DN D S0) s : Nat) : Int)) (by omega), awn (by omega)]
      by_cases c : dgt (DN D S0) R row s + 1 < DN D S0 s
      · rw [if_pos (by omega)]
        rw [ed] at c
        obtain ⟨u1, u2⟩ := md_s1 (by omega) c
        refine ⟨_, rfl, EqX_wA EqX_rf (by decide), fun t ht => ?_⟩
        rw [g_i]
        by_cases e : t = s
        · subst e
          rw [if_pos rfl, ed', u1, ed]
        · rw [if_neg e]
          by_cases e2 : t + m < R
          · rw [z5 t e2]
            unfold dgt
            have := lft_sm (N := DN D S0) (R := R) (r1 := row + 1) (r2 := row) (m := m + 1) (by rw [em1, em2, u2]) (R - 1 - t - (m + 1))
            rw [show m + 1 + (R - 1 - t - (m + 1)) = R - 1 - t by omega] at this
            rw [this]
          · exact z6 t ht (by omega)
      · rw [if_neg (by omega), if_pos (by omega)]
        rw [ed] at c
        obtain ⟨u1, u2⟩ := md_s2 (by omega) c
        have el : aw oo ((s : Int) + -1) = (R : Int) - 1 - ((m + 1 : Nat) : Int) := by rw [aw0 (by omega)]; omega
        rw [el]
        have y : EqX [67] [] S (wD (wD S 67 0 s ((dgt (DN D S0) R row s + 1 : Nat) : Int)) 67 0 s 0) := EqX_wA (EqX_wA EqX_rf (by decide)) (by decide)
        obtain ⟨S', i1, i2, i3⟩ := ih (m + 1) (wD (wD S 67 0 s ((dgt (DN D S0) R row s + 1 : Nat) : Int)) 67 0 s 0) (by omega) (by omega) (CSt_fr (AgX y rfl) z3) (by rw [em1, em2, u2]) (fun t ht => by
          rw [g_i, if_neg (by omega), g_i, if_neg (by omega)]
          exact z5 t (by omega)) (fun t ht ht2 => by
          rw [g_i]
          by_cases e : t = s
          · subst e
            rw [if_pos rfl, ed', u1]
            rfl
          · rw [if_neg e, g_i, if_neg e]
            exact z6 t ht (by omega))
        exact ⟨S', i1, EqX_tr y i2, i3⟩
    · have e : m = R := by omega
      subst e
      rw [if_pos (by omega)]
      exact ⟨S, rfl, EqX_rf, fun t ht => z6 t ht (by omega)⟩
theorem q_turn {S0 S : SD} {D : DT} {row R : Nat} (hd : 1 ≤ d) (hR : cnt (hcB D) 120 = R) (h12 : R ≤ 12) (h : CSt D S0 S) (ht : ∀ t, t < R → (gD S 67 0 t) = (dgt (DN D S0) R row t : Int)) : ∃ S', EE false d 91 [vr (some (62, 0))] S = some (vi 0, S') ∧ EqX [67] [] S S' ∧ ∀ t, t < R → (gD S' 67 0 t) = (dgt (DN D S0) R (row + 1) t : Int) := by
  obtain ⟨S', i1, i2⟩ := w_turn (K := EE false (d - 1)) (S0 := S0) (D := D) (row := row) hR h12 999999 0 S (by omega) (by omega) h rfl (fun t h2 => ht t (by omega)) (fun t h2 h3 => by omega)
  refine ⟨S', ?_, i2⟩
  rw [E91 hd, b91_0, h.1, hR, aw0 (by omega)]
  rw [show (R : Int) - 1 - ((0 : Nat) : Int) = (R : Int) - 1 by omega] at i1
  exact i1
theorem awS {a b : Nat} (h : a + b < 1000000) : aw oo ((a : Int) + (b : Int)) = ((a + b : Nat) : Int) := by rw [aw0 (by omega)]; omega
theorem tdv (a b : Nat) : Int.tdiv (a : Int) (b : Int) = ((a / b : Nat) : Int) := rfl
theorem aw_rem {a n : Nat} (h : a < 1000000) : aw oo ((a : Int) - ab oo 12 (a : Int) (n : Int) * (n : Int)) = ((a % n : Nat) : Int) := by
  show aw oo ((a : Int) - Int.tdiv (a : Int) (n : Int) * (n : Int)) = _
  have h9 : (a : Int) = ((a / n : Nat) : Int) * (n : Int) + ((a % n : Nat) : Int) := by
    rw [← Int.natCast_mul, ← Int.natCast_add, Nat.mul_comm, Nat.div_add_mod]
  have h8 := Nat.mod_le a n
  rw [tdv, show (a : Int) - ((a / n : Nat) : Int) * (n : Int) = ((a % n : Nat) : Int) from by omega]
  exact aw0 (by omega)
theorem aw_dvN {a n : Nat} (h : a < 1000000) : aw oo (ab oo 12 (a : Int) (n : Int)) = ((a / n : Nat) : Int) := by
  show aw oo (Int.tdiv (a : Int) (n : Int)) = _
  have h8 := Nat.div_le_self a n
  have h7 : (0 : Int) ≤ ((a / n : Nat) : Int) := Int.natCast_nonneg _
  rw [tdv]
  exact aw0 (by omega)
theorem q_numOf1 {S0 S : SD} {D : DT} {R t x : Nat} (hd : 1 ≤ d) (hR : cnt (hcB D) 120 = R) (h12 : R ≤ 12) (h : CSt D S0 S) (ht : t < R) (hx : (gD S 67 0 t) = (x : Int)) (hN : x < DN D S0 t) : EE false d 90 [vr (some (62, 0)), vi (t : Int)] S = some (vi (DP D S0 t x), S) := by
  have p1 := h.2.2.1 t (by omega)
  have hB := smN_bd (D := D) (S := S0) (s := t) (by omega) (by omega)
  have hN2 := (XNP (D := D) (lo := lowC S0 (clD D t)) (hi := higC S0 (clD D t)) (c := clD D t)).2
  have hN3 : DN D S0 t ≤ 2 + 3 * cnt (fF D (clD D t)) 320 := hN2
  rw [E90 hd, b90_0, h.1, hR, if_neg (by omega), if_pos (by omega), if_pos (by omega), if_pos (by omega), if_pos (by omega), tn, p1, hx, awS (by omega), if_neg (by omega), if_pos (by omega), if_pos (by omega), tn, h.2.2.2 t x (by omega) hN]
theorem q_numOf0 {S0 S : SD} {D : DT} {R t : Nat} (hd : 1 ≤ d) (hR : cnt (hcB D) 120 = R) (h : CSt D S0 S) (ht : R ≤ t) : EE false d 90 [vr (some (62, 0)), vi (t : Int)] S = some (vi (-1000000), S) := by
  rw [E90 hd, b90_0, h.1, hR, if_neg (by omega), if_neg (by omega)]
/-- the numbers of a row, by slot -/
noncomputable def VAL (D : DT) (S0 : SD) (R row s : Nat) : Int := if s < R then DP D S0 s (dgt (DN D S0) R row s) else -1000000
theorem w_putS {S0 : SD} {D : DT} {row R U : Nat} (hd : 1 ≤ d) (hR : cnt (hcB D) 120 = R) (h12 : R ≤ 12) (hU : U ≤ 32) : ∀ (n j : Nat) (S : SD), j ≤ U → U - j < n → (gD S 55 0 8) = (U : Int) → CSt D S0 S → (∀ t, t < R → (gD S 67 0 t) = (dgt (DN D S0) R row t : Int)) → (∀ s, s < j → (gD S 56 0 s) = VAL D S0 R row s) → ∃ S', run oo (EE false d) false mi_6 n 2 [(0, vr (some (55, 0))), (1, vi (j : Int))] [] S = some (vi 0, S') ∧ EqX [56] [] S S' ∧ ∀ s, s < U → (gD S' 56 0 s) = VAL D S0 R row s := by
  intro n
  induction n with
  | zero => intro j S z1 z2; omega
  | succ n ih =>
    intro j S z1 z2 z3 z4 z5 z6
    rw [b6_2, z3]
    by_cases hj : j < U
    · have en : EE false d 90 [vr (some (62, 0)), vi (j : Int)] S = some (vi (VAL D S0 R row j), S) := by
        unfold VAL
        by_cases e : j < R
        · rw [if_pos e]
          exact q_numOf1 hd hR h12 z4 e (z5 j e) (dgt_lt DN_1)
        · rw [if_neg e]
          exact q_numOf0 hd hR z4 (by omega)
      have y : EqX [56] [] S (wD S 56 0 j (VAL D S0 R row j)) := EqX_wA EqX_rf (by decide)
      rw [if_pos (by omega), if_pos (by omega), en, b_I, if_pos (by omega), tn, awp (show j < 1000000 by omega)]
      obtain ⟨S', i1, i2, i3⟩ := ih (j + 1) (wD S 56 0 j (VAL D S0 R row j)) (by omega) (by omega) (by rw [g_f (by decide)]; exact z3) (CSt_fr (AgX y rfl) z4) (fun t ht => by rw [g_f (by decide)]; exact z5 t ht) (fun s hs => by
        rw [g_i]
        by_cases e : s = j
        · rw [if_pos e, e]
        · rw [if_neg e]; exact z6 s (by omega))
      exact ⟨S', i1, EqX_tr y i2, i3⟩
    · have e : j = U := by omega
      subst e
      rw [if_neg (by omega)]
      exact ⟨S, rfl, EqX_rf, z6⟩
theorem q_put {S0 S : SD} {D : DT} {row R U : Nat} (hd : 2 ≤ d) (hR : cnt (hcB D) 120 = R) (h12 : R ≤ 12) (hU : U ≤ 32) (h : CSt D S0 S) (hu : (gD S 55 0 8) = (U : Int)) (ht : ∀ t, t < R → (gD S 67 0 t) = (dgt (DN D S0) R row t : Int)) : ∃ S', EE false d 6 [vr (some (55, 0))] S = some (vi 0, S') ∧ EqX [56] [] S S' ∧ ∀ s, s < U → (gD S' 56 0 s) = VAL D S0 R row s := by
  rw [E6 (by omega), b6_0]
  exact w_putS (d := d - 1) (by omega) hR h12 hU 999999 0 S (by omega) (by omega) hu h ht (fun s h => by omega)
theorem w_keep {S0 : SD} {D : DT} {row R : Nat} (hd : 1 ≤ d) (hR : cnt (hcB D) 120 = R) (h12 : R ≤ 12) : ∀ (n j : Nat) (S : SD), j ≤ R → R - j < n → CSt D S0 S → (∀ t, t < R → (gD S 67 0 t) = (dgt (DN D S0) R row t : Int)) → (gD S 55 0 9) = (j : Int) → (∀ s, s < j → (gD S 59 0 s) = (clD D s : Int) ∧ (gD S 60 0 s) = VAL D S0 R row s) → ∃ S', run oo (EE false d) false mi_7 n 6 [(0, vr (some (55, 0))), (1, vi (j : Int))] [] S = some (vi 0, S') ∧ EqX [59, 60] [(55, 9)] S S' ∧ (gD S' 55 0 9) = (R : Int) ∧ ∀ s, s < R → (gD S' 59 0 s) = (clD D s : Int) ∧ (gD S' 60 0 s) = VAL D S0 R row s := by
  intro n
  induction n with
  | zero => intro j S z1 z2; omega
  | succ n ih =>
    intro j S z1 z2 z4 z5 z7 z6
    rw [b7_6, z4.1, hR]
    by_cases hj : j < R
    · have y1 : EqX [59, 60] [(55, 9)] S (wD S 59 0 j (clD D j : Int)) := EqX_wA EqX_rf (by decide)
      have en : EE false d 90 [vr (some (62, 0)), vi (j : Int)] (wD S 59 0 j (clD D j : Int)) = some (vi (VAL D S0 R row j), (wD S 59 0 j (clD D j : Int))) := by
        unfold VAL
        rw [if_pos hj]
        exact q_numOf1 hd hR h12 (CSt_fr (AgX y1 rfl) z4) hj ((EqX_a y1 67 rfl 0 j).trans (z5 j hj)) (dgt_lt DN_1)
      have y : EqX [59, 60] [(55, 9)] S (wD (wD (wD S 59 0 j (clD D j : Int)) 60 0 j (VAL D S0 R row j)) 55 0 9 ((j + 1 : Nat) : Int)) := EqX_wC (EqX_wA y1 (by decide)) (by decide)
      rw [if_pos (by omega), if_pos (by omega), if_pos (by omega), if_pos (by omega), tn, z4.2.1 j (by omega), en, b_I, if_pos (by omega), g_f (by decide), g_f (by decide), z7, awn (by omega)]
      obtain ⟨S', i1, i2, i3⟩ := ih (j + 1) _ (by omega) (by omega) (CSt_fr (AgX y rfl) z4) (fun t ht => (EqX_a y 67 rfl 0 t).trans (z5 t ht)) g_e (fun s hs => by
        rw [g_f (by decide), g_f (by decide), g_i, g_f (by decide), g_i]
        by_cases e : s = j
        · rw [if_pos e, if_pos e, e]; exact ⟨rfl, rfl⟩
        · rw [if_neg e, if_neg e]; exact z6 s (by omega))
      exact ⟨S', i1, EqX_tr y i2, i3⟩
    · have e : j = R := by omega
      subst e
      rw [if_neg (by omega)]
      exact ⟨S, rfl, EqX_rf, z7, z6⟩
theorem q_keep {S0 S : SD} {D : DT} {row R : Nat} (hd : 2 ≤ d) (hR : cnt (hcB D) 120 = R) (h12 : R ≤ 12) (h : CSt D S0 S) (ht : ∀ t, t < R → (gD S 67 0 t) = (dgt (DN D S0) R row t : Int)) : ∃ S', EE false d 7 [vr (some (55, 0))] S = some (vi 0, S') ∧ EqX [59, 60] [(55, 9), (55, 10)] S S' ∧ (gD S' 55 0 9) = (R : Int) ∧ (gD S' 55 0 10) = 0 ∧ ∀ s, s < R → (gD S' 59 0 s) = (clD D s : Int) ∧ (gD S' 60 0 s) = VAL D S0 R row s := by
  have y : EqX [59, 60] [(55, 9), (55, 10)] S (wD (wD S 55 0 9 0) 55 0 10 0) := EqX_wC (EqX_wC EqX_rf (by decide)) (by decide)
  obtain ⟨S', i1, i2, i3, i4⟩ := w_keep (d := d - 1) (row := row) (by omega) hR h12 999999 0 (wD (wD S 55 0 9 0) 55 0 10 0) (by omega) (by omega) (CSt_fr (AgX y rfl) h) (fun t h2 => (EqX_a y 67 rfl 0 t).trans (ht t h2)) (by rw [g_k (by decide), g_e]; rfl) (fun s h => by omega)
  refine ⟨S', ?_, EqX_tr y (EqX_mo i2 (by decide) (by decide)), i3, ?_, i4⟩
  · rw [E7 (by omega), b7_0, E3 (by omega), b3_0, b_V]
    exact i1
  · rw [EqX_c i2 55 10 rfl 0, g_e]
/-- the reference's row -/
theorem w_begins {K : KT} {Sc : SD} {D : DT} {row R : Nat} (hR : cnt (hcB D) 120 = R) (h12 : R ≤ 12) (hrow : row ≤ 20001) : ∀ (n m : Nat) (S : SD), m ≤ R → R - m < n → lft (DN D Sc) R row m ≤ 20001 → MSt D Sc S → (∀ t, t < R → R ≤ t + m → (gD S 152 0 t) = (dgt (DN D Sc) R row t : Int) ∧ (gD S 153 0 t) = VAL D Sc R row t) → ∃ S', run oo K false mi_277 n 9 [(0, vr (some (85, 0))), (2, vi (lft (DN D Sc) R row m : Int)), (3, vi ((R : Int) - 1 - (m : Int)))] [] S = some (vi 0, S') ∧ EqX [152, 153] [] S S' ∧ ∀ t, t < R → (gD S' 152 0 t) = (dgt (DN D Sc) R row t : Int) ∧ (gD S' 153 0 t) = VAL D Sc R row t := by
  intro n
  induction n with
  | zero => intro m S z1 z2; omega
  | succ n ih =>
    intro m S z1 z2 zb z3 z4
    rw [b277_9]
    by_cases hm : m < R
    · obtain ⟨s, hs⟩ : ∃ s, s + m + 1 = R := ⟨R - 1 - m, by omega⟩
      have es : (R : Int) - 1 - (m : Int) = (s : Int) := by omega
      have es' : R - 1 - m = s := by omega
      have k1 := DN_1 (D := D) (S := Sc) (s := s)
      have k2 := DN_962 (D := D) (S := Sc) (s := s)
      have ed : dgt (DN D Sc) R row s = lft (DN D Sc) R row m % DN D Sc s := by unfold dgt; rw [show R - 1 - s = m by omega]
      have hlt := dgt_lt (R := R) (row := row) k1
      obtain ⟨p1, p2⟩ := z3.2 s (by omega)
      have em2 : lft (DN D Sc) R row (m + 1) = lft (DN D Sc) R row m / DN D Sc s := by
        show lft (DN D Sc) R row m / DN D Sc (R - 1 - m) = _
        rw [es']
      have hq : lft (DN D Sc) R row m / DN D Sc s ≤ lft (DN D Sc) R row m := Nat.div_le_self _ _
      have el : vi (aw oo ((s : Int) + -1)) = vi ((R : Int) - 1 - ((m + 1 : Nat) : Int)) := congrArg vi (by rw [aw0 (by omega)]; omega)
      have eV : VAL D Sc R row s = DP D Sc s (dgt (DN D Sc) R row s) := by unfold VAL; rw [if_pos (by omega)]
      have y : EqX [152, 153] [] S (wD (wD S 152 0 s (dgt (DN D Sc) R row s : Int)) 153 0 s (VAL D Sc R row s)) := EqX_wA (EqX_wA EqX_rf (by decide)) (by decide)
      rw [es, if_neg (by omega), if_pos (by omega), tn, p1, if_neg (by omega), if_pos (by omega), if_pos (by omega), aw_rem (a := lft (DN D Sc) R row m) (n := DN D Sc s) (by omega), ← ed, g_f (by decide), p1, if_neg (by omega), if_pos (by omega), g_e, awK (by omega), if_pos (by omega), if_pos (by omega), tn, g_f (by decide), p2 _ hlt, ← eV, aw_dvN (by omega), ← em2, el]
      obtain ⟨S', i1, i2, i3⟩ := ih (m + 1) _ (by omega) (by omega) (by rw [em2]; omega) (MSt_fr (AgX y rfl) z3) (fun t ht ht2 => by
        rw [g_f (by decide), g_i, g_i]
        by_cases e : t = s
        · rw [if_pos e, if_pos e, e]; exact ⟨rfl, rfl⟩
        · rw [if_neg e, if_neg e, g_f (by decide)]; exact z4 t ht (by omega))
      exact ⟨S', i1, EqX_tr y i2, i3⟩
    · have e : m = R := by omega
      subst e
      rw [if_pos (by omega)]
      exact ⟨S, rfl, EqX_rf, fun t ht => z4 t ht (by omega)⟩
theorem q_begins {Sc S : SD} {D : DT} {row R : Nat} (hd : 1 ≤ d) (hR : cnt (hcB D) 120 = R) (h12 : R ≤ 12) (hrow : row ≤ 20001) (h : MSt D Sc S) : ∃ S', EE false d 277 [vr (some (85, 0)), vi (row : Int)] S = some (vi 0, S') ∧ EqX [152, 153] [] S S' ∧ ∀ t, t < R → (gD S' 152 0 t) = (dgt (DN D Sc) R row t : Int) ∧ (gD S' 153 0 t) = VAL D Sc R row t := by
  obtain ⟨S', i1, i2⟩ := w_begins (K := EE false (d - 1)) (Sc := Sc) (D := D) (row := row) hR h12 hrow 999999 0 S (by omega) (by omega) hrow h (fun t h2 h3 => by omega)
  refine ⟨S', ?_, i2⟩
  rw [E277 hd, b277_0, h.1.1, hR, aw0 (by omega)]
  rw [show (R : Int) - 1 - ((0 : Nat) : Int) = (R : Int) - 1 by omega] at i1
  exact i1
theorem w_shows {K : KT} {Sc : SD} {D : DT} {row R : Nat} (hR : cnt (hcB D) 120 = R) (h12 : R ≤ 12) : ∀ (n j : Nat) (S : SD), j ≤ R → R - j < n → MSt D Sc S → (∀ t, t < R → (gD S 152 0 t) = (dgt (DN D Sc) R row t : Int)) → (∀ s, s < j → (gD S 157 0 s) = ((clD D s / 3 : Nat) : Int) ∧ (gD S 158 0 s) = ((clD D s % 3 : Nat) : Int) ∧ (gD S 159 0 s) = VAL D Sc R row s) → ∃ S', run oo K false mi_279 n 10 [(0, vr (some (85, 0))), (1, vi (j : Int))] [] S = some (vi 0, S') ∧ EqX [157, 158, 159] [] S S' ∧ ∀ s, s < R → (gD S' 157 0 s) = ((clD D s / 3 : Nat) : Int) ∧ (gD S' 158 0 s) = ((clD D s % 3 : Nat) : Int) ∧ (gD S' 159 0 s) = VAL D Sc R row s := by
  intro n
  induction n with
  | zero => intro j S z1 z2; omega
  | succ n ih =>
    intro j S z1 z2 z3 z4 z5
    rw [b279_10, z3.1.1, hR]
    by_cases hj : j < R
    · have k1 := DN_1 (D := D) (S := Sc) (s := j)
      have k2 := DN_962 (D := D) (S := Sc) (s := j)
      have hlt := dgt_lt (R := R) (row := row) k1
      obtain ⟨a1, a2⟩ := z3.1.2.1 j (by omega)
      obtain ⟨p1, p2⟩ := z3.2 j (by omega)
      have eV : VAL D Sc R row j = DP D Sc j (dgt (DN D Sc) R row j) := by unfold VAL; rw [if_pos hj]
      have y : EqX [157, 158, 159] [] S (wD (wD (wD S 157 0 j ((clD D j / 3 : Nat) : Int)) 158 0 j ((clD D j % 3 : Nat) : Int)) 159 0 j (VAL D Sc R row j)) := EqX_wA (EqX_wA (EqX_wA EqX_rf (by decide)) (by decide)) (by decide)
      rw [if_pos (by omega), if_pos (by omega), if_pos (by omega), if_pos (by omega), if_pos (by omega)]
      simp (disch := decide) only [tn, g_f, a1, a2, z4 j hj]
      rw [awK (by omega), if_pos (by omega), if_pos (by omega), if_pos (by omega), tn, p2 _ hlt, ← eV, awp (show j < 1000000 by omega)]
      obtain ⟨S', i1, i2, i3⟩ := ih (j + 1) _ (by omega) (by omega) (MSt_fr (AgX y rfl) z3) (fun t ht => (EqX_a y 152 rfl 0 t).trans (z4 t ht)) (fun s hs => by
        rw [g_f (by decide), g_f (by decide), g_i, g_f (by decide), g_i, g_i]
        by_cases e : s = j
        · rw [if_pos e, if_pos e, if_pos e, e]; exact ⟨rfl, rfl, rfl⟩
        · rw [if_neg e, if_neg e, if_neg e, g_f (by decide), g_f (by decide)]; exact z5 s (by omega))
      exact ⟨S', i1, EqX_tr y i2, i3⟩
    · have e : j = R := by omega
      subst e
      rw [if_neg (by omega)]
      exact ⟨S, rfl, EqX_rf, z5⟩
theorem q_shows {Sc S : SD} {D : DT} {row R : Nat} (hd : 1 ≤ d) (hR : cnt (hcB D) 120 = R) (h12 : R ≤ 12) (h : MSt D Sc S) (ht : ∀ t, t < R → (gD S 152 0 t) = (dgt (DN D Sc) R row t : Int)) : ∃ S', EE false d 279 [vr (some (85, 0))] S = some (vi 0, S') ∧ EqX [157, 158, 159] [(85, 92)] S S' ∧ (gD S' 85 0 92) = (R : Int) ∧ ∀ s, s < R → (gD S' 157 0 s) = ((clD D s / 3 : Nat) : Int) ∧ (gD S' 158 0 s) = ((clD D s % 3 : Nat) : Int) ∧ (gD S' 159 0 s) = VAL D Sc R row s := by
  have y : EqX [157, 158, 159] [(85, 92)] S (wD S 85 0 92 (R : Int)) := EqX_wC EqX_rf (by decide)
  obtain ⟨S', i1, i2, i3⟩ := w_shows (K := EE false (d - 1)) (row := row) hR h12 999999 0 (wD S 85 0 92 (R : Int)) (by omega) (by omega) (MSt_fr (AgX y rfl) h) (fun t h2 => (EqX_a y 152 rfl 0 t).trans (ht t h2)) (fun s h => by omega)
  refine ⟨S', ?_, EqX_tr y (EqX_mo i2 (by decide) (by decide)), ?_, i3⟩
  · rw [E279 hd, b279_0, h.1.1, hR]
    exact i1
  · rw [EqX_c i2 85 92 rfl 0, g_e]
end
