/-! layer 2: programs by rings (2): worse, begin -/
theorem cntT {p : Nat → Bool} {j : Nat} (h : p j = true) : cnt p (j + 1) = cnt p j + 1 := by simp only [cnt, h, if_true]
theorem cntF {p : Nat → Bool} {j : Nat} (h : p j = false) : cnt p (j + 1) = cnt p j := by simp [cnt, h]
theorem cnt_ext {p : Nat → Bool} {N : Nat} : ∀ {m : Nat}, (∀ k, N ≤ k → k < m → p k = false) → N ≤ m → cnt p m = cnt p N
  | 0, _, h => by rw [show N = 0 by omega]
  | m + 1, h1, h => by
    by_cases e : N = m + 1
    · rw [e]
    · rw [cntF (h1 m (by omega) (by omega)), cnt_ext (fun k a b => h1 k a (by omega)) (by omega)]
theorem cnt_mn {p : Nat → Bool} {j : Nat} : ∀ {n : Nat}, j ≤ n → cnt p j ≤ cnt p n
  | 0, h => by rw [show j = 0 by omega]; exact Nat.le_refl _
  | n + 1, h => by
    by_cases e : j = n + 1
    · rw [e]; exact Nat.le_refl _
    · have := cnt_mn (p := p) (j := j) (n := n) (by omega)
      simp only [cnt]
      omega
theorem awp {j : Nat} (h : j < 1000000) : vi (aw oo ((j : Int) + 1)) = vi ((j + 1 : Nat) : Int) := congrArg vi (awn h)
theorem awz {j : Nat} (h : j < 1000000) : vi (aw oo ((j : Int) + 0)) = vi (j : Int) := congrArg vi (by rw [Int.add_zero]; exact aw_id (by omega))
section
variable {d : Nat}
def rpP (S : SD) (ring fa : Int) (i : Nat) : Bool := decide ((ring = -1 ∨ (gD S 76 0 i) = ring) ∧ ((fa = 0 ∧ (gD S 79 0 i) ≠ -1) ∨ (fa ≠ 0 ∧ (gD S 79 0 i) = 0)))
theorem w_reports {S : SD} (ring fa : Int) {K : KT} : ∀ (n j : Nat), j ≤ 40 → 40 - j < n → run oo K false mi_30 n 5 [(0, vr (some (75, 0))), (1, vi ring), (2, vi fa), (3, vi ((cnt (rpP S ring fa) j : Nat) : Int)), (4, vi (j : Int))] [] S = some (vi ((cnt (rpP S ring fa) 40 : Nat) : Int), S) := by
  intro n
  induction n with
  | zero => intro j h1 h2; omega
  | succ n ih =>
    intro j h1 h2
    rw [b30_5]
    by_cases hj : j < 40
    · have e1 : vi (aw oo ((j : Int) + 1)) = vi ((j + 1 : Nat) : Int) := congrArg vi (awn (by omega))
      have b1 : (0 ≤ (j : Int) ∧ (j : Int) < 40) = True := eq_true (by omega)
      have hl := cnt_le (p := rpP S ring fa) j
      have e2 := awp (show cnt (rpP S ring fa) j < 1000000 by omega)
      have e3 := awz (show cnt (rpP S ring fa) j < 1000000 by omega)
      have i1 := ih (j + 1) (by omega) (by omega)
      cases hp : rpP S ring fa j with
      | true =>
        rw [cntT hp] at i1
        unfold rpP at hp
        have hp := of_decide_eq_true hp
        simp only [b_I, b_L, b_V, tn, e10, eq_self, if_true, if_false, ite_not, i01, and_self, e1, e2, e3, b1]
        (repeat (any_goals split)) <;> first | exact i1 | (exfalso; omega)
      | false =>
        rw [cntF hp] at i1
        unfold rpP at hp
        have hp := of_decide_eq_false hp
        simp only [b_I, b_L, b_V, tn, e10, eq_self, if_true, if_false, ite_not, i01, and_self, e1, e2, e3, b1]
        (repeat (any_goals split)) <;> first | exact i1 | (exfalso; omega)
    · have e : j = 40 := by omega
      subst e
      rw [if_neg (by omega)]
theorem q_reports {S : SD} (hd : 1 ≤ d) (ring fa : Int) : EE false d 30 [vr (some (75, 0)), vi ring, vi fa] S = some (vi ((cnt (rpP S ring fa) 40 : Nat) : Int), S) := by
  rw [E30 hd, b30_0]
  exact w_reports ring fa 999999 0 (by omega) (by omega)
theorem w_M_reports {Sc Sm : SD} {N : Nat} (hN : (gD Sc 3 0 10) = (N : Int)) (hN4 : N ≤ 40) (hm : (gD Sm 85 0 6) = (N : Int)) (hG : IG Sc Sm) (r : Nat) (hr : r < 8) {K : KT} {R : Option RR} (hR : ∀ n, 100 < n → (if ((cnt (rpP Sc r 0) N : Nat) : Int) = 0 then some (vi 0, Sm) else run oo K false mi_299 n 128 [(0, vr (some (85, 0))), (1, vi (r : Int)), (2, vi ((cnt (rpP Sc (-1) 0) N : Nat) : Int)), (3, vi ((cnt (rpP Sc (-1) 1) N : Nat) : Int)), (4, vi ((cnt (rpP Sc r 0) N : Nat) : Int)), (6, vl 0), (8, vi ((cnt (rpP Sc r 1) N : Nat) : Int))] [] Sm) = R) : ∀ (n j : Nat), j ≤ N → N - j + 200 < n → run oo K false mi_299 n 13 [(0, vr (some (85, 0))), (1, vi (r : Int)), (2, vi ((cnt (rpP Sc (-1) 0) j : Nat) : Int)), (3, vi ((cnt (rpP Sc (-1) 1) j : Nat) : Int)), (4, vi ((cnt (rpP Sc r 0) j : Nat) : Int)), (5, vi ((cnt (rpP Sc r 1) j : Nat) : Int)), (6, vi (j : Int))] [] Sm = R := by
  have uIG := hG; unfold IG at uIG; obtain ⟨pg1, pg2, pg3, pg4, pg5, pg6, pg7, pg8, pg9, pg10, pg11, pg12⟩ := uIG
  intro n
  induction n with
  | zero => intro j h1 h2; omega
  | succ n ih =>
    intro j h1 h2
    by_cases hj : j < N
    · rw [b299_13, hm]
      have e1 : vi (aw oo ((j : Int) + 1)) = vi ((j + 1 : Nat) : Int) := congrArg vi (awn (by omega))
      have b1 : (0 ≤ (j : Int) ∧ (j : Int) < 40) = True := eq_true (by omega)
      have z1 := pg1 j (by omega)
      have z3 := pg3 j (by omega)
      have l1 := cnt_le (p := rpP Sc (-1) 0) j
      have l2 := cnt_le (p := rpP Sc (-1) 1) j
      have l3 := cnt_le (p := rpP Sc r 0) j
      have l4 := cnt_le (p := rpP Sc r 1) j
      have p1 := awp (show cnt (rpP Sc (-1) 0) j < 1000000 by omega)
      have p2 := awp (show cnt (rpP Sc (-1) 1) j < 1000000 by omega)
      have p3 := awp (show cnt (rpP Sc r 0) j < 1000000 by omega)
      have p4 := awp (show cnt (rpP Sc r 1) j < 1000000 by omega)
      have q2 := awz (show cnt (rpP Sc (-1) 1) j < 1000000 by omega)
      have q3 := awz (show cnt (rpP Sc r 0) j < 1000000 by omega)
      have q4 := awz (show cnt (rpP Sc r 1) j < 1000000 by omega)
      have i1 := ih (j + 1) (by omega) (by omega)
      by_cases c1 : (gD Sc 79 0 j) = -1
      · rw [cntF (show rpP Sc (-1) 0 j = false from decide_eq_false (by omega)), cntF (show rpP Sc (-1) 1 j = false from decide_eq_false (by omega)), cntF (show rpP Sc r 0 j = false from decide_eq_false (by omega)), cntF (show rpP Sc r 1 j = false from decide_eq_false (by omega))] at i1
        simp only [b_I, b_L, b_V, tn, e10, eq_self, if_true, if_false, ite_not, i01, and_self, e1, b1, z1.1, z1.2, p1, p2, p3, p4, q2, q3, q4]
        (repeat (any_goals split)) <;> first | exact i1 | (exfalso; omega)
      · by_cases c2 : (gD Sc 79 0 j) = 0
        · by_cases c3 : (gD Sc 76 0 j) = (r : Int)
          · rw [cntT (show rpP Sc (-1) 0 j = true from decide_eq_true (by omega)), cntT (show rpP Sc (-1) 1 j = true from decide_eq_true (by omega)), cntT (show rpP Sc r 0 j = true from decide_eq_true (by omega)), cntT (show rpP Sc r 1 j = true from decide_eq_true (by omega))] at i1
            simp only [b_I, b_L, b_V, tn, e10, eq_self, if_true, if_false, ite_not, i01, and_self, e1, b1, z1.1, z1.2, p1, p2, p3, p4, q2, q3, q4]
            (repeat (any_goals split)) <;> first | exact i1 | (exfalso; omega)
          · rw [cntT (show rpP Sc (-1) 0 j = true from decide_eq_true (by omega)), cntT (show rpP Sc (-1) 1 j = true from decide_eq_true (by omega)), cntF (show rpP Sc r 0 j = false from decide_eq_false (by omega)), cntF (show rpP Sc r 1 j = false from decide_eq_false (by omega))] at i1
            simp only [b_I, b_L, b_V, tn, e10, eq_self, if_true, if_false, ite_not, i01, and_self, e1, b1, z1.1, z1.2, p1, p2, p3, p4, q2, q3, q4]
            (repeat (any_goals split)) <;> first | exact i1 | (exfalso; omega)
        · by_cases c3 : (gD Sc 76 0 j) = (r : Int)
          · rw [cntT (show rpP Sc (-1) 0 j = true from decide_eq_true (by omega)), cntF (show rpP Sc (-1) 1 j = false from decide_eq_false (by omega)), cntT (show rpP Sc r 0 j = true from decide_eq_true (by omega)), cntF (show rpP Sc r 1 j = false from decide_eq_false (by omega))] at i1
            simp only [b_I, b_L, b_V, tn, e10, eq_self, if_true, if_false, ite_not, i01, and_self, e1, b1, z1.1, z1.2, p1, p2, p3, p4, q2, q3, q4]
            (repeat (any_goals split)) <;> first | exact i1 | (exfalso; omega)
          · rw [cntT (show rpP Sc (-1) 0 j = true from decide_eq_true (by omega)), cntF (show rpP Sc (-1) 1 j = false from decide_eq_false (by omega)), cntF (show rpP Sc r 0 j = false from decide_eq_false (by omega)), cntF (show rpP Sc r 1 j = false from decide_eq_false (by omega))] at i1
            simp only [b_I, b_L, b_V, tn, e10, eq_self, if_true, if_false, ite_not, i01, and_self, e1, b1, z1.1, z1.2, p1, p2, p3, p4, q2, q3, q4]
            (repeat (any_goals split)) <;> first | exact i1 | (exfalso; omega)
    · have e : j = N := by omega
      subst e
      rw [b299_13, hm, if_neg (by omega)]
      exact hR n (by omega)
theorem q_ways {Sc Sm : SD} (hG : IG Sc Sm) (hd : 2 ≤ d) (k n : Nat) (hn : n ≤ 40) : EE false d 24 [vr (some (75, 0)), vi (k : Int), vi (n : Int)] Sc = some (vl (chs n k), Sc) := by
  have uIG := hG; unfold IG at uIG; obtain ⟨pg1, pg2, pg3, pg4, pg5, pg6, pg7, pg8, pg9, pg10, pg11, pg12⟩ := uIG
  rw [E24 (by omega), b24_0, q_in1 (by omega) _ _ _ (by omega), b_I, if_neg (by decide)]
  by_cases h : k ≤ n
  · rw [q_in1 (by omega) _ _ _ (by omega), b_I, if_neg (by decide)]
    have e : aw oo (aw oo ((n : Int) * 41) + (k : Int)) = ((41 * n + k : Nat) : Int) := by
      rw [aw_id (z := (n : Int) * 41) (by omega), aw_id (by omega)]
      omega
    rw [e, bnd (by omega), tn, pg12 n k h hn]
  · rw [q_in0 (by omega) _ _ _ (by omega), b_I, if_pos rfl]
    unfold chs
    rw [if_neg h]
theorem w_M_choose {S : SD} (n0 k : Nat) (hk : k ≤ 1000) {K : KT} : ∀ (n i : Nat), i ≤ k → k - i < n → run oo K false mi_298 n 16 [(0, vi (n0 : Int)), (1, vi (k : Int)), (2, vl (chsL n0 k i)), (4, vi ((i + 1 : Nat) : Int))] [] S = some (vl (chsL n0 k k), S) := by
  intro n
  induction n with
  | zero => intro i h1 h2; omega
  | succ n ih =>
    intro i h1 h2
    rw [b298_16]
    by_cases hi : i = k
    · subst hi
      rw [if_pos (by omega)]
    · have i1 := ih (i + 1) (by omega) (by omega)
      have e1 := awp (show i + 1 < 1000000 by omega)
      rw [if_neg (by omega), if_neg (by omega), e1]
      exact i1
theorem q_M_choose {S : SD} (hd : 1 ≤ d) (n0 k : Nat) (hk : k ≤ 1000) : EE false d 298 [vi (n0 : Int), vi (k : Int)] S = some (vl (chs n0 k), S) := by
  rw [E298 hd, b298_0, if_neg (by omega)]
  unfold chs
  by_cases h : k ≤ n0
  · rw [if_neg (by omega), if_pos h]
    exact w_M_choose n0 k hk 999999 0 (by omega) (by omega)
  · rw [if_pos (by omega), if_neg h]
def wrs (S : SD) (r A H : Nat) (s : Int) : Int := if ab oo 9 (al oo (s * (gD S 83 0 r))) (al oo ((gD S 82 0 r) * chs A H)) < 0 then 1 else 0
theorem al_r (z : Int) : r64 (al oo z) := by
  show r64 (Int.bmod z 18446744073709551616)
  unfold r64
  have h1 := Int.le_bmod (x := z) (m := 18446744073709551616) (by decide)
  have h2 := Int.bmod_lt (x := z) (m := 18446744073709551616) (by decide)
  omega
theorem w_worse_t {Sc Sm : SD} (hG : IG Sc Sm) (hd : 2 ≤ d) (r A F H : Nat) (hr : r < 8) (hF : F ≤ A) (hA : A ≤ 40) (hH : H ≤ 40) : ∀ (n x : Nat) (s : Int), F < x → r64 s → H + 1 - x < n → run oo (EE false d) false mi_31 n 46 [(0, vr (some (75, 0))), (1, vi (r : Int)), (2, vi (H : Int)), (3, vi (A : Int)), (4, vi (F : Int)), (5, vl s), (7, vi (x : Int))] [] Sc = some (vi (wrs Sc r A H s), Sc) := by
  intro n
  induction n with
  | zero => intro x s h1 h2 h3; omega
  | succ n ih =>
    intro x s h1 h2 h3
    rw [b31_46]
    by_cases hx : H < x
    · rw [if_pos (by omega), bnd (by omega), bnd (by omega), q_ways hG hd H A hA, b_L, tn]
      unfold wrs
      split <;> rfl
    · have i1 := ih (x + 1) s (by omega) h2 (by omega)
      have e1 := awp (show x < 1000000 by omega)
      have e2 : vi (aw oo ((H : Int) - (x : Int))) = vi ((H - x : Nat) : Int) := congrArg vi (by rw [aw_id (by omega)]; omega)
      have e3 : vi (aw oo ((A : Int) - (F : Int))) = vi ((A - F : Nat) : Int) := congrArg vi (by rw [aw_id (by omega)]; omega)
      have e4 : chs F x = 0 := by unfold chs; rw [if_neg (by omega)]
      have e5 : ∀ y, al oo (s + al oo (0 * y)) = s := fun y => by
        rw [Int.zero_mul, al_id (z := 0) (by decide), Int.add_zero]
        exact al_id h2
      rw [if_neg (by omega), q_ways hG hd x F (by omega), b_L, e2, e3, q_ways hG hd (H - x) (A - F) (by omega), b_L, e4, e5, e1]
      exact i1
theorem w_worse {d' : Nat} {Sc Sm : SD} (hG : IG Sc Sm) (hd : 2 ≤ d) (hd' : 1 ≤ d') (r A F H : Nat) (hr : r < 8) (hF : F ≤ A) (hA : A ≤ 40) (hH : H ≤ 40) : ∀ (n x : Nat) (s : Int), r64 s → H + F + 3 - x < n → ∃ w, run oo (EE false d) false mi_31 n 46 [(0, vr (some (75, 0))), (1, vi (r : Int)), (2, vi (H : Int)), (3, vi (A : Int)), (4, vi (F : Int)), (5, vl s), (7, vi (x : Int))] [] Sc = some (vi w, Sc) ∧ (∀ n', H + F + 3 - x < n' → run oo (EE false d') false mi_299 n' 128 [(0, vr (some (85, 0))), (1, vi (r : Int)), (2, vi (A : Int)), (3, vi (F : Int)), (4, vi (H : Int)), (6, vl s), (8, vi (x : Int))] [] Sm = some (vi w, Sm)) ∧ (w = 0 ∨ w = 1) := by
  have uIG := hG; unfold IG at uIG; obtain ⟨pg1, pg2, pg3, pg4, pg5, pg6, pg7, pg8, pg9, pg10, pg11, pg12⟩ := uIG
  have hw : ∀ s, wrs Sc r A H s = 0 ∨ wrs Sc r A H s = 1 := fun s => by unfold wrs; split <;> simp
  intro n
  induction n with
  | zero => intro x s h2 h3; omega
  | succ n ih =>
    intro x s h2 h3
    by_cases hx : F < x
    · refine ⟨_, w_worse_t hG hd r A F H hr hF hA hH (n + 1) x s hx h2 (by omega), fun n' h4 => ?_, hw s⟩
      obtain ⟨n', rfl⟩ : ∃ k, n' = k + 1 := ⟨n' - 1, by omega⟩
      rw [b299_128, if_pos (by omega), bnd (by omega), q_M_choose hd' A H (by omega), b_L, bnd (by omega), tn, pg10, pg11, Int.mul_comm (chs A H)]
      unfold wrs
      split <;> rfl
    · by_cases hx2 : H < x
      · refine ⟨wrs Sc r A H s, ?_, fun n' h4 => ?_, hw s⟩
        · rw [b31_46, if_pos (by omega), bnd (by omega), bnd (by omega), q_ways hG hd H A hA, b_L, tn]
          unfold wrs
          split <;> rfl
        · obtain ⟨n', rfl⟩ : ∃ k, n' = k + 1 := ⟨n' - 1, by omega⟩
          rw [b299_128, if_neg (by omega), if_pos (by omega), bnd (by omega), q_M_choose hd' A H (by omega), b_L, bnd (by omega), tn, pg10, pg11, Int.mul_comm (chs A H)]
          unfold wrs
          split <;> rfl
      · obtain ⟨w, i1, i2, i3⟩ := ih (x + 1) (al oo (s + al oo (chs F x * chs (A - F) (H - x)))) (al_r _) (by omega)
        have e1 := awp (show x < 1000000 by omega)
        have e2 : vi (aw oo ((H : Int) - (x : Int))) = vi ((H - x : Nat) : Int) := congrArg vi (by rw [aw_id (by omega)]; omega)
        have e3 : vi (aw oo ((A : Int) - (F : Int))) = vi ((A - F : Nat) : Int) := congrArg vi (by rw [aw_id (by omega)]; omega)
        refine ⟨w, ?_, fun n' h4 => ?_, i3⟩
        · rw [b31_46, if_neg (by omega), q_ways hG hd x F (by omega), b_L, e2, e3, q_ways hG hd (H - x) (A - F) (by omega), b_L, e1]
          exact i1
        · obtain ⟨n', rfl⟩ : ∃ k, n' = k + 1 := ⟨n' - 1, by omega⟩
          rw [b299_128, if_neg (by omega), if_neg (by omega), q_M_choose hd' F x (by omega), b_L, e2, e3, q_M_choose hd' (A - F) (H - x) (by omega), b_L, e1]
          exact i2 n' (by omega)
theorem worse_both {d' : Nat} {Sc Sm : SD} (hT : IT Sc Sm) (hG : IG Sc Sm) (hd : 3 ≤ d) (hd' : 2 ≤ d') (r : Nat) (hr : r < 8) : ∃ w, EE false d 31 [vr (some (75, 0)), vi (r : Int)] Sc = some (vi w, Sc) ∧ EE false d' 299 [vr (some (85, 0)), vi (r : Int)] Sm = some (vi w, Sm) ∧ (w = 0 ∨ w = 1) := by
  have uIT := hT; unfold IT at uIT; obtain ⟨t1, t2, t3, t4, t5, t6, t7, t8, t9, t10, t11, t12, t13, t14, t15, t16⟩ := uIT
  have uG := hG; unfold IG at uG
  obtain ⟨N, hNN⟩ : ∃ N : Nat, (gD Sc 3 0 10) = (N : Int) := Int.eq_ofNat_of_zero_le t2
  have ex : ∀ ring fa : Int, cnt (rpP Sc ring fa) 40 = cnt (rpP Sc ring fa) N := fun ring fa => cnt_ext (fun k h1 h2 => by
    have := uG.2.1 k (by omega) h2
    exact decide_eq_false (by omega)) (by omega)
  have hF : cnt (rpP Sc (-1) 1) N ≤ cnt (rpP Sc (-1) 0) N := cnt_mo (fun k hk => by
    have hk := of_decide_eq_true hk
    exact decide_eq_true (by omega)) N
  have hA := cnt_le (p := rpP Sc (-1) 0) N
  have hH := cnt_le (p := rpP Sc r 0) N
  by_cases h0 : cnt (rpP Sc r 0) N = 0
  · refine ⟨0, ?_, ?_, Or.inl rfl⟩
    · rw [E31 (by omega), b31_0, q_reports (by omega), b_I, q_isRing1 (by omega) _ (by omega), b_I, if_neg (by decide), ex, h0]
      exact if_pos rfl
    · rw [E299 (by omega), b299_0]
      exact w_M_reports (r := r) hNN (by omega) (t1.trans hNN) hG hr (K := EE false (d' - 1)) (fun n _ => by rw [h0]; exact if_pos rfl) 999999 0 (by omega) (by omega)
  · obtain ⟨w, i1, i2, i3⟩ := w_worse (d := d - 1) (d' := d' - 1) hG (by omega) (by omega) r (cnt (rpP Sc (-1) 0) N) (cnt (rpP Sc (-1) 1) N) (cnt (rpP Sc r 0) N) hr hF (by omega) (by omega) 999999 (cnt (rpP Sc r 1) N) 0 (by unfold r64; omega) (by omega)
    refine ⟨w, ?_, ?_, i3⟩
    · rw [E31 (by omega), b31_0, q_reports (by omega), b_I, q_isRing1 (by omega) _ (by omega), b_I, if_neg (by decide), ex, if_neg (by omega), q_reports (by omega), b_I, q_reports (by omega), b_I, q_reports (by omega), b_I, ex, ex, ex]
      exact i1
    · rw [E299 (by omega), b299_0]
      exact w_M_reports (r := r) hNN (by omega) (t1.trans hNN) hG hr (K := EE false (d' - 1)) (fun n hn => by rw [if_neg (by omega)]; exact i2 n (by omega)) 999999 0 (by omega) (by omega)
theorem o_worse (hd : 12 ≤ d) (a1 : Int) : PI2 d CI2 184 302 vi [vi a1] := by
  refine PI2_ro (fun i Sc Sm hi hC => ?_)
  obtain ⟨hN, hT, hS, hW, hK, hO, hX, hP, hR, hF, hA, hH, hQ, hG⟩ := hC
  by_cases h : 0 ≤ a1 ∧ a1 ≤ 7
  · obtain ⟨r, rfl⟩ := Int.eq_ofNat_of_zero_le h.1
    obtain ⟨w, i1, i2, i3⟩ := worse_both (d := d - 1) (d' := d - 1) hT hG (by omega) (by omega) r (by omega)
    refine ⟨w, ?_, ?_⟩
    · rw [E184 (by omega), b184_0, q_in1 (by omega) _ _ _ h, b_I, if_neg (by decide), i1, b_I]
      rcases i3 with rfl | rfl <;> rfl
    · rw [E302 (by omega), b302_0, q_M_isRing1 (by omega) _ h, b_I, if_neg (by decide), i2, b_I]
      rcases i3 with rfl | rfl <;> rfl
  · refine ⟨-1, ?_, ?_⟩
    · rw [E184 (by omega), b184_0, q_in0 (by omega) _ _ _ (by omega), b_I, if_pos rfl]
    · rw [E302 (by omega), b302_0, q_M_isRing0 (by omega) _ (by omega), b_I, if_pos rfl]
def inR (S : SD) (r : Int) (i : Nat) : Bool := decide ((gD S 76 0 i) = r)
theorem w_hasT {S : SD} (r : Int) {K : KT} : ∀ (n j : Nat), j ≤ 40 → 40 - j < n → cnt (inR S r) j = 0 → run oo K false mi_27 n 2 [(0, vr (some (75, 0))), (1, vi r), (2, vi (j : Int))] [] S = some (vi (if cnt (inR S r) 40 = 0 then 0 else 1), S) := by
  intro n
  induction n with
  | zero => intro j h1 h2; omega
  | succ n ih =>
    intro j h1 h2 h3
    rw [b27_2]
    by_cases hj : j < 40
    · rw [if_pos (by omega), bnd (by omega), tn]
      by_cases q : (gD S 76 0 j) = r
      · have := cnt_mn (p := inR S r) (j := j + 1) (n := 40) (by omega)
        rw [cntT (show inR S r j = true from decide_eq_true q)] at this
        rw [if_pos q, if_neg (by omega)]
      · have e1 := awp (show j < 1000000 by omega)
        rw [if_neg q, e1]
        exact ih (j + 1) (by omega) (by omega) (by rw [cntF (show inR S r j = false from decide_eq_false q)]; exact h3)
    · have e : j = 40 := by omega
      subst e
      rw [if_neg (by omega), if_pos h3]
theorem w_M_size {Sc Sm : SD} {N : Nat} (hN : (gD Sc 3 0 10) = (N : Int)) (hN4 : N ≤ 40) (hm : (gD Sm 85 0 6) = (N : Int)) (hG : IG Sc Sm) (r : Int) {K : KT} : ∀ (n j : Nat), j ≤ N → N - j < n → run oo K false mi_297 n 4 [(0, vr (some (85, 0))), (1, vi r), (2, vi ((cnt (inR Sc r) j : Nat) : Int)), (3, vi (j : Int))] [] Sm = some (vi ((cnt (inR Sc r) N : Nat) : Int), Sm) := by
  have uIG := hG; unfold IG at uIG; obtain ⟨pg1, pg2, pg3, pg4, pg5, pg6, pg7, pg8, pg9, pg10, pg11, pg12⟩ := uIG
  intro n
  induction n with
  | zero => intro j h1 h2; omega
  | succ n ih =>
    intro j h1 h2
    rw [b297_4, hm]
    by_cases hj : j < N
    · have e1 := awp (show j < 1000000 by omega)
      have l1 := cnt_le (p := inR Sc r) j
      have i1 := ih (j + 1) (by omega) (by omega)
      rw [if_pos (by omega), bnd (by omega), tn, (pg1 j (by omega)).1]
      by_cases q : (gD Sc 76 0 j) = r
      · rw [if_pos q, awp (by omega), e1]
        rw [cntT (show inR Sc r j = true from decide_eq_true q)] at i1
        exact i1
      · rw [if_neg q, awz (by omega), e1]
        rw [cntF (show inR Sc r j = false from decide_eq_false q)] at i1
        exact i1
    · have e : j = N := by omega
      subst e
      rw [if_neg (by omega)]
theorem has_both {d' : Nat} {Sc Sm : SD} (hT : IT Sc Sm) (hG : IG Sc Sm) (hd : 1 ≤ d) (hd' : 1 ≤ d') (r : Nat) : ∃ c : Nat, c ≤ 40 ∧ EE false d 27 [vr (some (75, 0)), vi (r : Int)] Sc = some (vi (if c = 0 then 0 else 1), Sc) ∧ EE false d' 297 [vr (some (85, 0)), vi (r : Int)] Sm = some (vi (c : Int), Sm) := by
  have uIT := hT; unfold IT at uIT; obtain ⟨t1, t2, t3, t4, t5, t6, t7, t8, t9, t10, t11, t12, t13, t14, t15, t16⟩ := uIT
  have uG := hG; unfold IG at uG
  obtain ⟨N, hNN⟩ : ∃ N : Nat, (gD Sc 3 0 10) = (N : Int) := Int.eq_ofNat_of_zero_le t2
  have ex : cnt (inR Sc r) 40 = cnt (inR Sc r) N := cnt_ext (fun k h1 h2 => by
    have := uG.2.1 k (by omega) h2
    exact decide_eq_false (by omega)) (by omega)
  have hl := cnt_le (p := inR Sc r) N
  refine ⟨cnt (inR Sc r) N, by omega, ?_, ?_⟩
  · rw [E27 hd, b27_0]
    rw [← ex]
    exact w_hasT r 999999 0 (by omega) (by omega) rfl
  · rw [E297 hd', b297_0]
    exact w_M_size hNN (by omega) (t1.trans hNN) hG r 999999 0 (by omega) (by omega)
theorem w_begin {d' : Nat} {Sc Sm : SD} (hT : IT Sc Sm) (hG : IG Sc Sm) (hd : 3 ≤ d) (hd' : 2 ≤ d') (r : Nat) (hr : r < 8) (p : Int) : ∀ (n j : Nat), j ≤ r → r - j < n → (run oo (EE false d) false mi_28 n 48 [(0, vr (some (75, 0))), (1, vi (r : Int)), (2, vi p), (3, vi (j : Int))] [] Sc = some (vi 0, Sc) ∧ run oo (EE false d') false mi_300 n 49 [(0, vr (some (85, 0))), (1, vi (r : Int)), (2, vi p), (3, vi (j : Int))] [] Sm = some (vi 0, Sm)) ∨ (run oo (EE false d) false mi_28 n 48 [(0, vr (some (75, 0))), (1, vi (r : Int)), (2, vi p), (3, vi (j : Int))] [] Sc = some (vi 1, wD Sc 80 0 r p) ∧ run oo (EE false d') false mi_300 n 49 [(0, vr (some (85, 0))), (1, vi (r : Int)), (2, vi p), (3, vi (j : Int))] [] Sm = some (vi 1, wD Sm 167 0 r p)) := by
  have uIG := hG; unfold IG at uIG; obtain ⟨pg1, pg2, pg3, pg4, pg5, pg6, pg7, pg8, pg9, pg10, pg11, pg12⟩ := uIG
  intro n
  induction n with
  | zero => intro j h1 h2; omega
  | succ n ih =>
    intro j h1 h2
    rw [b28_48, b300_49]
    by_cases hj : j < r
    · obtain ⟨c, hc, c1, m1⟩ := has_both (d := d) (d' := d') hT hG (by omega) (by omega) j
      obtain ⟨w, c2, m2, hw⟩ := worse_both (d := d) (d' := d') hT hG hd hd' j (by omega)
      have e1 := awp (show j < 1000000 by omega)
      have i1 := ih (j + 1) (by omega) (by omega)
      rw [if_pos (show (j : Int) < (r : Int) by omega), if_pos (show (j : Int) < (r : Int) by omega), c1, b_I, m1, b_I]
      by_cases q0 : c = 0
      · rw [if_pos q0, if_pos rfl, if_neg (by omega), e1]
        exact i1
      · rw [if_neg q0, if_neg (by decide)]
        have b1 : (0 ≤ (j : Int) ∧ (j : Int) < 8) = True := eq_true (by omega)
        have q0' : (0 < (c : Int)) = True := eq_true (by omega)
        simp only [b1, q0', if_true, tn, pg6, pg8, c2, m2, b_I, e1]
        by_cases q1 : (gD Sc 80 0 j) = 0
        · simp only [q1, if_true]
          exact Or.inl ⟨trivial, trivial⟩
        · simp only [q1, if_false]
          by_cases q2 : (gD Sc 81 0 j) = 0
          · simp only [q2, if_true]
            by_cases q3 : w = 0
            · simp only [q3, if_true]
              exact i1
            · simp only [q3, if_false]
              exact Or.inl ⟨trivial, trivial⟩
          · simp only [q2, if_false]
            exact Or.inl ⟨trivial, trivial⟩
    · right
      rw [if_neg (show ¬ (j : Int) < (r : Int) by omega), if_neg (show ¬ (j : Int) < (r : Int) by omega), bnd (show 0 ≤ (r : Int) ∧ (r : Int) < 8 by omega), bnd (show 0 ≤ (r : Int) ∧ (r : Int) < 8 by omega), tn]
      exact ⟨rfl, rfl⟩
theorem o_begin (hd : 12 ≤ d) (a1 a2 : Int) : PI2 d CI2 182 300 vi [vi a1, vi a2] := by
  intro i Sc Sm hi' hC
  have hC' := hC
  obtain ⟨hN, hT, hS, hW, hK, hO, hX, hP, hR, hF, hA, hH, hQ, hG⟩ := hC
  have fin : EE false d 182 [vr (some (2, 0)), vi a1, vi a2] Sc = some (vi 0, Sc) → EE false d 300 [vr (some (85, 0)), vi a1, vi a2] Sm = some (vi 0, Sm) → ∃ (x : Int) (Sc' Sm' : SD), EE false d 182 [vr (some (2, 0)), vi a1, vi a2] Sc = some (vi x, Sc') ∧ EqC Sc Sc' ∧ EE false d 300 [vr (some (85, 0)), vi a1, vi a2] Sm = some (vi x, Sm') ∧ EqM Sm Sm' ∧ CI2 (i + 1) Sc' Sm' := fun c m => ⟨0, Sc, Sm, c, EqC_rf, m, EqM_rf, CI2_up hC'⟩
  have c2 := (E182 (d := d) (by omega) Sc a1 a2).trans (b182_0 oo (EE false (d - 1)) 999999 Sc a1 a2)
  have m2 := (E300 (d := d) (by omega) Sm a1 a2).trans (b300_0 oo (EE false (d - 1)) 999999 Sm a1 a2)
  rw [E28 (by omega), b28_0] at c2
  by_cases g1 : 0 ≤ a1 ∧ a1 ≤ 7
  · obtain ⟨r, rfl⟩ := Int.eq_ofNat_of_zero_le g1.1
    have uG := hG; unfold IG at uG
    have b6 := uG.2.2.2.2.2.1 r
    have b7 := uG.2.2.2.2.2.2.1 r
    have b8 := uG.2.2.2.2.2.2.2.1 r
    obtain ⟨c, hc, c1, m1⟩ := has_both (d := d - 1 - 1) (d' := d - 1) hT hG (by omega) (by omega) r
    have b1 : (0 ≤ (r : Int) ∧ (r : Int) < 8) = True := eq_true (by omega)
    rw [q_isRing1 (by omega) _ g1, b_I, if_neg (by decide)] at c2
    rw [q_M_isRing1 (by omega) _ g1, b_I, if_neg (by decide)] at m2
    by_cases g2 : 1 ≤ a2 ∧ a2 ≤ 999
    · rw [q_in1 (by omega) _ _ _ g2, b_I, if_neg (by decide)] at c2
      rw [q_M_in1 (by omega) _ _ _ g2, b_I, if_neg (by decide)] at m2
      simp only [b1, if_true, tn, c1, b_I] at c2
      simp only [b1, if_true, tn, m1, b_I, b6, b8] at m2
      by_cases q : c ≠ 0 ∧ (gD Sc 80 0 r) = 0 ∧ (gD Sc 81 0 r) = 0
      · obtain ⟨q1, q2, q3⟩ := q
        simp only [q1, q2, q3, if_true, if_false, e10] at c2
        rw [if_neg (by omega), if_neg (by omega), if_pos q3] at m2
        have w9 := w_begin (d := d - 1 - 1) (d' := d - 1) hT hG (by omega) (by omega) r (by omega) a2 999999 0 (by omega) (by omega)
        rcases w9 with ⟨w1, w2⟩ | ⟨w1, w2⟩
        · have w1 : run oo (EE false (d - 1 - 1)) false mi_28 999999 48 [(0, vr (some (75, 0))), (1, vi (r : Int)), (2, vi a2), (3, vi 0)] [] Sc = some (vi 0, Sc) := w1
          have w2 : run oo (EE false (d - 1)) false mi_300 999999 49 [(0, vr (some (85, 0))), (1, vi (r : Int)), (2, vi a2), (3, vi 0)] [] Sm = some (vi 0, Sm) := w2
          rw [w1, b_I, if_pos (Or.inl rfl)] at c2
          rw [w2] at m2
          exact fin c2 m2
        · have w1 : run oo (EE false (d - 1 - 1)) false mi_28 999999 48 [(0, vr (some (75, 0))), (1, vi (r : Int)), (2, vi a2), (3, vi 0)] [] Sc = some (vi 1, wD Sc 80 0 r a2) := w1
          have w2 : run oo (EE false (d - 1)) false mi_300 999999 49 [(0, vr (some (85, 0))), (1, vi (r : Int)), (2, vi a2), (3, vi 0)] [] Sm = some (vi 1, wD Sm 167 0 r a2) := w2
          rw [w1, b_I, if_pos (Or.inr rfl)] at c2
          rw [w2] at m2
          have x1 : EqX [80] [] Sc (resS c2) := by unfold resS; repeat (first | exact EqX_rf | refine EqX_wA ?_ (by decide) | refine EqX_wC ?_ (by decide))
          have x2 : EqX [167] [] Sm (resS m2) := by unfold resS; repeat (first | exact EqX_rf | refine EqX_wA ?_ (by decide) | refine EqX_wC ?_ (by decide))
          refine ⟨_, _, _, c2, EqC_of x1 rfl, m2, EqM_of x2 rfl, ⟨IN_fr (AgX x1 rfl) (AgX x2 rfl) hN, IT_fr (AgX x1 rfl) (AgX x2 rfl) hT, IS_up (IS_fr (AgX x1 rfl) (AgX x2 rfl) hS), IW_fr (AgX x1 rfl) (AgX x2 rfl) hW, IC_fr (AgX x1 rfl) (AgX x2 rfl) hK, IO_fr (AgX x1 rfl) (AgX x2 rfl) hO, IX_up (IX_fr (AgX x1 rfl) (AgX x2 rfl) hX), IP_fr (AgX x1 rfl) (AgX x2 rfl) hP, IR_fr (AgX x1 rfl) (AgX x2 rfl) hR, IF_fr (AgX x1 rfl) (AgX x2 rfl) hF, IA_fr (AgX x1 rfl) (AgX x2 rfl) hA, IH_fr (AgX x1 rfl) (AgX x2 rfl) hH, IQ_fr (AgX x1 rfl) (AgX x2 rfl) hQ, ?_⟩⟩
          have uIG := hG; unfold IG at uIG; obtain ⟨pg1, pg2, pg3, pg4, pg5, pg6, pg7, pg8, pg9, pg10, pg11, pg12⟩ := uIG
          unfold IG
          refine ⟨?_, ?_, ?_, ?_, ?_, ?_, ?_, ?_, ?_, ?_, ?_, ?_⟩ <;> (try simp (disch := omega) only [g_f, g_e, g_k, g_i, if_true]) <;> first | assumption | (intro q; simp only [pg6]) | (intro q; have := pg7 q; split <;> omega)
      · apply fin
        · rw [c2]
          by_cases q2 : (gD Sc 80 0 r) = 0
          · by_cases q3 : (gD Sc 81 0 r) = 0
            · have q1 : c = 0 := by
                apply Decidable.byContradiction
                intro z
                exact q ⟨z, q2, q3⟩
              simp only [q1, q2, q3, if_true, b_I, true_or]
            · simp only [q2, q3, if_true, if_false, b_I, true_or]
          · simp only [q2, if_false, b_I, true_or, if_true]
        · rw [m2]
          by_cases q1 : c = 0
          · rw [if_pos (by omega)]
          · rw [if_neg (by omega)]
            by_cases q2 : (gD Sc 80 0 r) = 0
            · rw [if_neg (by omega), if_neg (fun q3 => q ⟨q1, q2, q3⟩)]
            · rw [if_pos (by omega)]
    · apply fin
      · rw [c2, q_in0 (by omega) _ _ _ (by omega), b_I, if_pos rfl, b_I, if_pos (Or.inl rfl)]
      · rw [m2, q_M_in0 (by omega) _ _ _ (by omega), b_I, if_pos rfl]
  · apply fin
    · rw [c2, q_isRing0 (by omega) _ (by omega), b_I, if_pos rfl, b_I, if_pos (Or.inl rfl)]
    · rw [m2, q_M_isRing0 (by omega) _ (by omega), b_I, if_pos rfl]
end
