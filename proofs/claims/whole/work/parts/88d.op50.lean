/-! ring: the plain rules in force, on both sides -/
section
variable {d : Nat}
theorem dlt {r k : Nat} (e : ¬ r = k) : decide (r < k + 1) = decide (r < k) := by
  by_cases q : r < k
  · rw [decide_eq_true q, decide_eq_true (by omega)]
  · rw [decide_eq_false q, decide_eq_false (by omega)]
noncomputable def nthP (p : Nat → Bool) (n s : Nat) : Nat := Classical.epsilon (fun c => c < n ∧ p c = true ∧ cnt p c = s)
theorem nthP_sp {p : Nat → Bool} {n s : Nat} (h : s < cnt p n) : nthP p n s < n ∧ p (nthP p n s) = true ∧ cnt p (nthP p n s) = s := Classical.epsilon_spec (p := fun c => c < n ∧ p c = true ∧ cnt p c = s) (cnt_at h)
theorem nthP_cnt {p : Nat → Bool} {n c : Nat} (h : p c = true) (hc : c < n) : nthP p n (cnt p c) = c := by
  obtain ⟨h1, h2, h3⟩ := nthP_sp (p := p) (cnt_in hc h)
  by_cases e : nthP p n (cnt p c) < c
  · have := cnt_in (p := p) e h2
    omega
  · by_cases e2 : c < nthP p n (cnt p c)
    · have := cnt_in (p := p) e2 h
      omega
    · omega
theorem nthP_lt {p : Nat → Bool} {n s s' : Nat} (h : s < s') (h2 : s' < cnt p n) : nthP p n s < nthP p n s' := by
  obtain ⟨a1, a2, a3⟩ := nthP_sp (p := p) (n := n) (show s < cnt p n by omega)
  obtain ⟨b1, b2, b3⟩ := nthP_sp (p := p) h2
  by_cases e : nthP p n s < nthP p n s'
  · exact e
  · have := cnt_m (p := p) (show nthP p n s' ≤ nthP p n s by omega)
    omega
noncomputable def memR (S : SD) (r : Nat) : Bool := @decide ((r : Int) < (gD S 41 0 8) ∧ (gD S 47 r 17) ≠ 0 ∧ PLN S r) (Classical.propDecidable _)
theorem memR_t {S : SD} {r : Nat} : memR S r = true ↔ ((r : Int) < (gD S 41 0 8) ∧ (gD S 47 r 17) ≠ 0 ∧ PLN S r) := by
  unfold memR
  exact @decide_eq_true_iff _ (Classical.propDecidable _)
theorem memR_f {S : SD} {r : Nat} (h : ¬ ((r : Int) < (gD S 41 0 8) ∧ (gD S 47 r 17) ≠ 0 ∧ PLN S r)) : memR S r = false := by
  cases hh : memR S r with
  | false => rfl
  | true => exact absurd (memR_t.mp hh) h
theorem w_plainIn {Sc Sm : SD} (hR : IR Sc Sm) (hd : 2 ≤ d) : ∀ (n k : Nat) (bits : Int), k ≤ 20 → 20 - k < n → (∀ r, r < 32 → ti bits r = (decide (r < k) && memR Sc r)) → ∃ bits', run oo (EE false d) false mi_4 n 4 [(0, vr (some (55, 0))), (1, vi bits), (2, vi (k : Int))] [] Sc = some (vi bits', Sc) ∧ ∀ r, r < 20 → ti bits' r = memR Sc r := by
  unfold IR at hR
  obtain ⟨r1, r2, r3, r4, r5⟩ := hR
  intro n
  induction n with
  | zero => intro k bits z1 z2; omega
  | succ n ih =>
    intro k bits z1 z2 z3
    rw [b4_4]
    by_cases hk : k < 20
    · rw [if_pos (by omega), awp (show k < 1000000 by omega)]
      have skip : memR Sc k = false → ∃ bits', run oo (EE false d) false mi_4 n 4 [(0, vr (some (55, 0))), (1, vi bits), (2, vi ((k + 1 : Nat) : Int))] [] Sc = some (vi bits', Sc) ∧ ∀ r, r < 20 → ti bits' r = memR Sc r := fun hm => by
        refine ih (k + 1) bits (by omega) (by omega) (fun r hr => ?_)
        rw [z3 r hr]
        by_cases e : r = k
        · subst e; rw [hm, Bool.and_false, Bool.and_false]
        · rw [dlt e]
      by_cases hs : (k : Int) < (gD Sc 41 0 8)
      · rw [q_ruleAt1 (by omega) k hs hk, b_R1]
        by_cases hf : (gD Sc 47 k 17) = 0
        · rw [if_pos hf]
          exact skip (memR_f (fun q => q.2.1 hf))
        · obtain ⟨p, p1, p2, p3⟩ := plain_both (r5 k hs).1 (r5 k hs).2.2 hk
          rw [if_neg hf, p1 d (by omega), b_I]
          cases hp : p with
          | false =>
            rw [if_pos (by decide)]
            exact skip (memR_f (fun q => by have := p3.mpr q.2.2; rw [hp] at this; cases this))
          | true =>
            have hm : memR Sc k = true := memR_t.mpr ⟨hs, hf, p3.mp hp⟩
            rw [if_neg (by decide)]
            refine ih (k + 1) _ (by omega) (by omega) (fun r hr => ?_)
            rw [ti_ior, z3 r hr, ti_shl k (by omega) r hr]
            by_cases e : r = k
            · subst e
              rw [hm, decide_eq_true (rfl : r = r), decide_eq_true (show r < r + 1 by omega), Bool.or_true]
              rfl
            · rw [decide_eq_false e, Bool.or_false, dlt e]
      · rw [q_ruleAt0 (by omega) _ (by omega), b_R0]
        exact skip (memR_f (fun q => hs q.1))
    · rw [if_neg (by omega)]
      exact ⟨bits, rfl, fun r hr => by rw [z3 r (by omega), decide_eq_true (by omega), Bool.true_and]⟩
theorem q_plainIn {Sc Sm : SD} (hR : IR Sc Sm) (hd : 3 ≤ d) : ∃ bits, EE false d 4 [vr (some (55, 0))] Sc = some (vi bits, Sc) ∧ ∀ r, r < 20 → ti bits r = memR Sc r := by
  rw [E4 (by omega), b4_0]
  exact w_plainIn (d := d - 1) hR (by omega) 999999 0 0 (by omega) (by omega) (fun r hr => by rw [ti_0]; rfl)
/-- the reference's list of them; G is what comes behind it -/
theorem w_looks {Sc S0 : SD} (hR : IR Sc S0) (hF : IF Sc S0) (hd : 1 ≤ d) {N : Nat} (hN : (gD Sc 41 0 8) = (N : Int)) : ∀ (n k : Nat) (S : SD), k ≤ N → N - k < n → EqX [156] [(85, 90)] S0 S → (gD S 85 0 90) = (cnt (memR Sc) k : Int) → (∀ l, l < cnt (memR Sc) k → (gD S 156 0 l) = (nthP (memR Sc) 20 l : Int)) → ∃ m S', n ≤ m + (N - k) ∧ run oo (EE false d) false mi_286 n 7 [(0, vr (some (85, 0))), (1, vi (k : Int))] [] S = run oo (EE false d) false mi_286 m 7 [(0, vr (some (85, 0))), (1, vi (N : Int))] [] S' ∧ EqX [156] [(85, 90)] S0 S' ∧ (gD S' 85 0 90) = (cnt (memR Sc) N : Int) ∧ ∀ l, l < cnt (memR Sc) N → (gD S' 156 0 l) = (nthP (memR Sc) 20 l : Int) := by
  have uR := hR
  unfold IR at uR
  obtain ⟨r1, r2, r3, r4, r5⟩ := uR
  have uF := hF
  unfold IF at uF
  intro n
  induction n with
  | zero => intro k S z1 z2; omega
  | succ n ih =>
    intro k S z1 z2 z3 z4 z5
    by_cases hk : k < N
    · have hk20 : k < 20 := by omega
      have hs : (k : Int) < (gD Sc 41 0 8) := by omega
      have eR : (gD S 85 0 32) = (N : Int) := by rw [EqX_c z3 85 32 rfl 0, r1, hN]
      have eF : (gD S 117 0 k) = gD Sc 47 k 17 := by
        rw [EqX_a z3 117 rfl]
        exact (uF k hs).2.2.2.2.2.2.1
      have skip : memR Sc k = false → ∃ m S', n + 1 ≤ m + (N - k) ∧ run oo (EE false d) false mi_286 n 7 [(0, vr (some (85, 0))), (1, vi ((k + 1 : Nat) : Int))] [] S = run oo (EE false d) false mi_286 m 7 [(0, vr (some (85, 0))), (1, vi (N : Int))] [] S' ∧ EqX [156] [(85, 90)] S0 S' ∧ (gD S' 85 0 90) = (cnt (memR Sc) N : Int) ∧ ∀ l, l < cnt (memR Sc) N → (gD S' 156 0 l) = (nthP (memR Sc) 20 l : Int) := fun hm => by
        obtain ⟨m, S', i1, i2⟩ := ih (k + 1) S (by omega) (by omega) z3 (by rw [cnt_f hm]; exact z4) (by rw [cnt_f hm]; exact z5)
        exact ⟨m, S', by omega, i2⟩
      rw [b286_7, eR, if_pos (by omega), if_pos (by omega), tn, eF, awp (show k < 1000000 by omega)]
      by_cases hf : gD Sc 47 k 17 = 0
      · rw [if_pos hf]
        exact skip (memR_f (fun q => q.2.1 hf))
      · have hp1 := RR1_fr (Sc' := Sc) AgA_rf (AgX z3 rfl) (r5 k hs).1
        have hp3 := RR3_fr (Sc' := Sc) AgA_rf (AgX z3 rfl) (r5 k hs).2.2
        obtain ⟨p, p1, p2, p3⟩ := plain_both hp1 hp3 hk20
        rw [if_neg hf, p2 d hd, b_I]
        cases hp : p with
        | false =>
          rw [if_pos (by decide)]
          exact skip (memR_f (fun q => by have := p3.mpr q.2.2; rw [hp] at this; cases this))
        | true =>
          have hm : memR Sc k = true := memR_t.mpr ⟨hs, hf, p3.mp hp⟩
          have hct := cnt_t hm
          have hcl := cnt_le (p := memR Sc) k
          rw [if_neg (by decide), z4, if_pos (by omega), tn, g_f (by decide), z4, awn (by omega)]
          obtain ⟨m, S', i1, i2⟩ := ih (k + 1) (wD (wD S 156 0 (cnt (memR Sc) k) (k : Int)) 85 0 90 ((cnt (memR Sc) k + 1 : Nat) : Int)) (by omega) (by omega) (EqX_wC (EqX_wA z3 (by decide)) (by decide)) (by rw [g_e, hct]) (fun l hl => by
            rw [g_f (by decide), g_i]
            by_cases e : l = cnt (memR Sc) k
            · rw [if_pos e, e, nthP_cnt hm hk20]
            · rw [if_neg e]; exact z5 l (by omega))
          exact ⟨m, S', by omega, i2⟩
    · have e : k = N := by omega
      subst e
      exact ⟨n + 1, S, by omega, rfl, z3, z4, z5⟩
end
