/-! layer 2: ask (3) -/
theorem cnt_sj {p : Nat → Bool} {i : Nat} : ∀ {n : Nat}, i < cnt p n → ∃ u, u < n ∧ p u = true ∧ cnt p u = i
  | 0, h => by simp [cnt] at h
  | n + 1, h => by
    by_cases hi : i < cnt p n
    · obtain ⟨u, h1, h2, h3⟩ := cnt_sj hi
      exact ⟨u, by omega, h2, h3⟩
    · cases hp : p n with
      | true => rw [cntT hp] at h; exact ⟨n, by omega, hp, by omega⟩
      | false => rw [cntF hp] at h; omega
section
variable {d : Nat}
def ME (S Tc : SD) (T n0 : Nat) (VA : Nat → Nat → Int × Int) (q : Nat) : Prop := ∀ p f : Nat, p < q → (gD S 69 0 p) = (f : Int) → (gD Tc 73 0 p) = sB (tb (gD S 70 0 p)) (VV VA f) T - (gD S 71 0 p) ∧ ∀ i t : Nat, i < n0 → (gD S 72 0 i) = (t : Int) → SVi Tc p i = if tb (gD S 70 0 p) t then (VA f t).1 - (VA f t).2 else 0
theorem w_meas_i {S Sm : SD} {T n0 q f : Nat} {at' now : Int} {VA} (hX : ∀ Tc, EqX [73, 74] [] S Tc → WH Tc Sm T at' VA ∧ (gD Tc 2 0 9) = now) (hn : (gD S 68 0 8) = (n0 : Int)) (hn12 : n0 ≤ 12) (hnm : ∀ i, i < n0 → ∃ t : Nat, (gD S 72 0 i) = (t : Int) ∧ t < T) (hq8 : q < 8) (hf : (gD S 69 0 q) = (f : Int)) (hf3 : f < 3) (hd : 5 ≤ d) : ∀ (n i : Nat) (Tc : SD), EqX [73, 74] [] S Tc → i ≤ n0 → n0 - i < n → (∀ j t : Nat, j < i → (gD S 72 0 j) = (t : Int) → SVi Tc q j = if tb (gD S 70 0 q) t then (VA f t).1 - (VA f t).2 else 0) → ∃ Tc' n', n' ≤ n ∧ n ≤ n' + (n0 - i) + 1 ∧ run oo (EE false d) false mi_42 n 39 [(0, vr (some (68, 0))), (1, vi at'), (2, vi now), (3, vi (q : Int)), (4, vi (i : Int))] [] Tc = run oo (EE false d) false mi_42 n' 2 [(0, vr (some (68, 0))), (1, vi at'), (2, vi now), (3, vi ((q + 1 : Nat) : Int))] [] Tc' ∧ EqX [73, 74] [] S Tc' ∧ (∀ p j, p ≠ q → p < 8 → j < 12 → SVi Tc' p j = SVi Tc p j) ∧ (∀ p, (gD Tc' 73 0 p) = (gD Tc 73 0 p)) ∧ (∀ j t : Nat, j < n0 → (gD S 72 0 j) = (t : Int) → SVi Tc' q j = if tb (gD S 70 0 q) t then (VA f t).1 - (VA f t).2 else 0) := by
  intro n
  induction n with
  | zero => intro i Tc h1 h2 h3; omega
  | succ n ih =>
    intro i Tc h1 h2 h3 h4
    rw [b42_39, EqX_c h1 68 8 rfl, hn]
    by_cases hi : i < n0
    · obtain ⟨t, ht, htT⟩ := hnm i hi
      obtain ⟨⟨hs, hT4, hM, hV⟩, hnow⟩ := hX Tc h1
      obtain ⟨c1, c2, _, _, v1, v2, v3⟩ := hV f t hf3 htT
      rw [if_pos (by omega), if_pos (by omega), bnd (by omega), bnd (by omega), tn, tn, EqX_a h1 72 rfl, ht, q_isAbout (by omega) q t hq8 (by omega), b_I, EqX_a h1 69 rfl, EqX_a h1 70 rfl, hf, aw12 (by omega), awp (by omega), bnd (show 0 ≤ ((12 * q + i : Nat) : Int) ∧ ((12 * q + i : Nat) : Int) < 96 by omega), tn]
      have go : ∀ v, (v = if tb (gD S 70 0 q) t then (VA f t).1 - (VA f t).2 else 0) → ∃ Tc' n', n' ≤ n + 1 ∧ n + 1 ≤ n' + (n0 - i) + 1 ∧ run oo (EE false d) false mi_42 n 39 [(0, vr (some (68, 0))), (1, vi at'), (2, vi now), (3, vi (q : Int)), (4, vi ((i + 1 : Nat) : Int))] [] (wD Tc 74 0 (12 * q + i) v) = run oo (EE false d) false mi_42 n' 2 [(0, vr (some (68, 0))), (1, vi at'), (2, vi now), (3, vi ((q + 1 : Nat) : Int))] [] Tc' ∧ EqX [73, 74] [] S Tc' ∧ (∀ p j, p ≠ q → p < 8 → j < 12 → SVi Tc' p j = SVi Tc p j) ∧ (∀ p, (gD Tc' 73 0 p) = (gD Tc 73 0 p)) ∧ (∀ j t : Nat, j < n0 → (gD S 72 0 j) = (t : Int) → SVi Tc' q j = if tb (gD S 70 0 q) t then (VA f t).1 - (VA f t).2 else 0) := fun v hv => by
        obtain ⟨Tc', n', k1, k2, k3, k4, k5, k6, k7⟩ := ih (i + 1) (wD Tc 74 0 (12 * q + i) v) (EqX_wA h1 (by decide)) (by omega) (by omega) (fun j u hj hu => by
          unfold SVi
          rw [g_i]
          by_cases e : j = i
          · subst e
            have : u = t := by omega
            subst this
            rw [if_pos rfl]
            exact hv
          · rw [if_neg (by omega)]
            exact h4 j u (by omega) hu)
        refine ⟨Tc', n', by omega, by omega, k3, k4, fun p j h5 h6 h7 => ?_, fun p => ?_, k7⟩
        · rw [k5 p j h5 h6 h7]
          unfold SVi
          rw [g_k (by omega)]
        · rw [k6 p, g_f (by decide)]
      by_cases hb : tb (gD S 70 0 q) t = true
      · have e2 : aw oo ((VA f t).1 - (VA f t).2) = (VA f t).1 - (VA f t).2 := aw_id (by omega)
        rw [if_pos hb, if_neg (by decide), ← hnow, c1 d (by omega), b_I, c2 d (by omega), b_I, e2, hnow, bnd (show 0 ≤ ((12 * q + i : Nat) : Int) ∧ ((12 * q + i : Nat) : Int) < 96 by omega)]
        exact go _ (by rw [if_pos hb])
      · rw [if_neg hb, if_pos rfl]
        exact go _ (by rw [if_neg hb])
    · have e : i = n0 := by omega
      subst e
      exact ⟨Tc, n, by omega, by omega, by rw [if_neg (by omega), awp (by omega)], h1, fun _ _ _ _ _ => rfl, fun _ => rfl, h4⟩
theorem w_meas {S Sm : SD} {T n0 Q : Nat} {at' now : Int} {VA} (hX : ∀ Tc, EqX [73, 74] [] S Tc → WH Tc Sm T at' VA ∧ (gD Tc 2 0 9) = now ∧ IQ Tc Sm) (hQ : (gD S 68 0 9) = (Q : Int)) (hQ8 : Q ≤ 8) (hn : (gD S 68 0 8) = (n0 : Int)) (hn12 : n0 ≤ 12) (hnm : ∀ i, i < n0 → ∃ t : Nat, (gD S 72 0 i) = (t : Int) ∧ t < T) (hd : 6 ≤ d) : ∀ (n q : Nat) (Tc : SD), EqX [73, 74] [] S Tc → ME S Tc T n0 VA q → q ≤ Q → 20 * (Q - q) + 1 < n → ∃ Tc', run oo (EE false d) false mi_42 n 2 [(0, vr (some (68, 0))), (1, vi at'), (2, vi now), (3, vi (q : Int))] [] Tc = some (vi 0, Tc') ∧ EqX [73, 74] [] S Tc' ∧ ME S Tc' T n0 VA Q := by
  intro n
  induction n using Nat.strongRecOn with
  | ind n ih =>
    intro q Tc h1 h2 h3 h4
    obtain ⟨n, rfl⟩ : ∃ m, n = m + 1 := ⟨n - 1, by omega⟩
    rw [b42_2, EqX_c h1 68 9 rfl, hQ]
    by_cases hq : q < Q
    · obtain ⟨hH, hnow, hIQ⟩ := hX Tc h1
      have uQ := hIQ; unfold IQ at uQ
      have hq8 : q < 8 := by omega
      obtain ⟨f, hf⟩ := Int.eq_ofNat_of_zero_le (uQ.2.2.2.2.1 q).1
      have hf3 : f < 3 := by have := (uQ.2.2.2.2.1 q).2; omega
      have hw := uQ.2.2.2.2.2.2.2.1 q
      have hs := q_sumOf (d := d) hH hIQ hd q f (by rw [EqX_c h1 68 9 rfl, hQ]; omega) hf hf3
      have sb := sB_b (b := tb (gD Tc 70 0 q)) (V := VV VA f) (B := 200000) (n := T) (by decide) (fun u hu => by
        have := (hH.2.2.2 f u hf3 hu).2.2.2.2
        unfold VV
        omega)
      have hT4 := hH.2.1
      have e2 : aw oo (sB (tb (gD Tc 70 0 q)) (VV VA f) T - (gD Tc 71 0 q)) = sB (tb (gD Tc 70 0 q)) (VV VA f) T - (gD Tc 71 0 q) := aw_id (by omega)
      rw [hnow] at hs
      rw [if_pos (by omega), if_pos (by omega), hs, b_I, bnd (by omega), bnd (by omega), tn, e2]
      have hf' : (gD S 69 0 q) = (f : Int) := by rw [← EqX_a h1 69 rfl]; exact hf
      clear e2
      obtain ⟨Tc', n', k1, k2, k3, k4, k5, k6, k7⟩ := w_meas_i (q := q) (f := f) (fun Tc h => ⟨(hX Tc h).1, (hX Tc h).2.1⟩) hn hn12 hnm hq8 hf' hf3 (show 5 ≤ d by omega) n 0 (wD Tc 73 0 q (sB (tb (gD Tc 70 0 q)) (VV VA f) T - (gD Tc 71 0 q))) (EqX_wA h1 (by decide)) (by omega) (by omega) (fun j t hj => by omega)
      obtain ⟨Tc'', i1, i2, i3⟩ := ih n' (by omega) (q + 1) Tc' k4 (fun p g hp hg => by
        by_cases e : p = q
        · subst e
          have : g = f := by omega
          subst this
          refine ⟨?_, k7⟩
          rw [k6 p, g_e, EqX_a h1 70 rfl, EqX_a h1 71 rfl]
        · obtain ⟨z1, z2⟩ := h2 p g (by omega) hg
          refine ⟨?_, fun i t hi ht => ?_⟩
          · rw [k6 p, g_k (by omega)]
            exact z1
          · rw [k5 p i e (by omega) (by omega)]
            have := z2 i t hi ht
            unfold SVi at this ⊢
            rw [g_f (by decide)]
            exact this) (by omega) (by omega)
      exact ⟨Tc'', k3.trans i1, i2, i3⟩
    · have e : q = Q := by omega
      subst e
      exact ⟨Tc, by rw [if_neg (by omega)], h1, h2⟩
theorem q_meas {S Sm : SD} {T n0 Q : Nat} {at' now : Int} {VA} (hX : ∀ Tc, EqX [73, 74] [] S Tc → WH Tc Sm T at' VA ∧ (gD Tc 2 0 9) = now ∧ IQ Tc Sm) (hQ : (gD S 68 0 9) = (Q : Int)) (hQ8 : Q ≤ 8) (hn : (gD S 68 0 8) = (n0 : Int)) (hn12 : n0 ≤ 12) (hnm : ∀ i, i < n0 → ∃ t : Nat, (gD S 72 0 i) = (t : Int) ∧ t < T) (hd : 7 ≤ d) : ∃ Tc, EE false d 42 [vr (some (68, 0)), vi at', vi now] S = some (vi 0, Tc) ∧ EqX [73, 74] [] S Tc ∧ ME S Tc T n0 VA Q := by
  rw [E42 (by omega), b42_0]
  exact w_meas (d := d - 1) hX hQ hQ8 hn hn12 hnm (by omega) 999999 0 S EqX_rf (fun p f hp => by omega) (by omega) (by omega)
/-- the reference: cost and bits of one set -/
theorem w_M_cost {Sc Tm : SD} {S1 : SD} {n0 : Nat} (hT : IT Sc Tm) (hn12 : n0 ≤ 12) (hnm : ∀ i, i < n0 → (gD Tm 166 0 i) = (gD S1 72 0 i) ∧ 0 ≤ (gD S1 72 0 i) ∧ (gD S1 72 0 i) < 40) (hcs : ∀ k, (gD S1 5 0 k) = (gD Sc 5 0 k)) (hks : ∀ k, (gD S1 9 0 k) = (gD Sc 9 0 k)) (a l5 l6 : Int) (k : Nat) (hk : k < 5000) {K : KT} : ∀ (n i : Nat), i ≤ n0 → n0 - i < n → ∃ n', n' ≤ n ∧ n ≤ n' + (n0 - i) + 1 ∧ run oo K false mi_292 n 140 [(0, vr (some (85, 0))), (1, vi a), (4, vi (n0 : Int)), (5, vi l5), (6, vl l6), (8, vi (k : Int)), (9, vl (bF (fun i => (gD S1 72 0 i)) k i)), (11, vi (sB (ti k) (CTi S1) i)), (12, vi (i : Int))] [] Tm = (if l5 < 0 ∨ sB (ti k) (CTi S1) n0 < l5 then run oo K false mi_292 n' 223 [(0, vr (some (85, 0))), (1, vi a), (4, vi (n0 : Int)), (5, vi l5), (6, vl l6), (8, vi (k : Int)), (9, vl (bF (fun i => (gD S1 72 0 i)) k n0)), (11, vi (sB (ti k) (CTi S1) n0)), (12, vi 1), (13, vi 0)] [] Tm else run oo K false mi_292 n' 122 [(0, vr (some (85, 0))), (1, vi a), (4, vi (n0 : Int)), (5, vi l5), (6, vl l6), (8, vi ((k + 1 : Nat) : Int))] [] Tm) := by
  have uIT := hT; unfold IT at uIT; obtain ⟨t1, t2, t3, t4, t5, t6, t7, t8, t9, t10, t11, t12, t13, t14, t15, t16⟩ := uIT
  have hb : ∀ i, 0 ≤ CTi S1 i ∧ CTi S1 i ≤ 9999 := fun i => by unfold CTi; rw [hcs]; exact t16 _
  intro n
  induction n with
  | zero => intro i h1 h2; omega
  | succ n ih =>
    intro i h1 h2
    rw [b292_140]
    by_cases hi : i < n0
    · obtain ⟨n', h8, h9, i1⟩ := ih (i + 1) (by omega) (by omega)
      refine ⟨n', by omega, by omega, ?_⟩
      have sb := sB_b (b := ti k) (V := CTi S1) (B := 9999) (n := i) (by decide) (fun u _ => hb u)
      have hbi := hb i
      obtain ⟨g1, g2, g3⟩ := hnm i hi
      rw [if_pos (by omega), bit32 k i (by omega), awp (by omega)]
      cases hbit : ti k i with
      | true =>
        have hkk := t5 ((gD S1 72 0 i)).toNat
        have e2 : aw oo (sB (ti k) (CTi S1) i + CTi S1 i) = sB (ti k) (CTi S1) (i + 1) := by
          rw [aw_id (by omega)]
          simp only [sB, hbit, if_true]
        have e3 : (gD Sc 5 0 (((gD Sc 9 0 (((gD S1 72 0 i)).toNat))).toNat)) = CTi S1 i := by
          unfold CTi
          rw [hcs, hks]
        simp only [bF, hbit, if_true] at i1
        rw [if_pos rfl, if_neg (by decide), bnd (by omega), bnd (by omega), tn, g1, bnd (by omega), t4, bnd (by omega), t15, e3, e2]
        exact i1
      | false =>
        have e2 : sB (ti k) (CTi S1) (i + 1) = sB (ti k) (CTi S1) i := by simp [sB, hbit]
        simp only [bF, hbit, Bool.false_eq_true, if_false, e2] at i1
        rw [if_neg (show ¬ (false = true) by decide), if_pos rfl]
        exact i1
    · have e : i = n0 := by omega
      subst e
      refine ⟨n, by omega, by omega, ?_⟩
      rw [if_neg (by omega), awp (by omega)]
      by_cases z : l5 < 0
      · rw [if_pos z, if_pos (Or.inl z)]
      · rw [if_neg z]
        by_cases z2 : sB (ti k) (CTi S1) i < l5
        · rw [if_pos z2, if_pos (Or.inr z2)]
        · rw [if_neg z2, if_neg (by omega)]
def okM (S : SD) (T Q : Nat) (VA : Nat → Nat → Int × Int) (bits : Int) (q : Nat) : Prop := ∀ p f : Nat, p < q → p < Q → (gD S 69 0 p) = (f : Int) → sB (tb (gD S 70 0 p)) (MX VA bits f) T ≤ (gD S 71 0 p)
theorem w_M_q {Sc Tm : SD} {T Q : Nat} {at' : Int} {VA} (hH : WH Sc Tm T at' VA) (hIQ : IQ Sc Tm) (hQ : (gD Sc 68 0 9) = (Q : Int)) (hQ8 : Q ≤ 8) (hd : 4 ≤ d) (l4 l5 l6 l9 l11 : Int) (k : Nat) (hk : k < 5000) : ∀ (n q : Nat), q ≤ Q → Q - q + 2 < n → okM Sc T Q VA l9 q → ∃ n', n' ≤ n ∧ n ≤ n' + (Q - q) + 2 ∧ ((okM Sc T Q VA l9 Q ∧ run oo (EE false d) false mi_292 n 223 [(0, vr (some (85, 0))), (1, vi at'), (4, vi l4), (5, vi l5), (6, vl l6), (8, vi (k : Int)), (9, vl l9), (11, vi l11), (12, vi 1), (13, vi (q : Int))] [] Tm = run oo (EE false d) false mi_292 n' 122 [(0, vr (some (85, 0))), (1, vi at'), (4, vi l4), (5, vi l11), (6, vl l9), (8, vi ((k + 1 : Nat) : Int))] [] Tm) ∨ (¬ okM Sc T Q VA l9 Q ∧ run oo (EE false d) false mi_292 n 223 [(0, vr (some (85, 0))), (1, vi at'), (4, vi l4), (5, vi l5), (6, vl l6), (8, vi (k : Int)), (9, vl l9), (11, vi l11), (12, vi 1), (13, vi (q : Int))] [] Tm = run oo (EE false d) false mi_292 n' 122 [(0, vr (some (85, 0))), (1, vi at'), (4, vi l4), (5, vi l5), (6, vl l6), (8, vi ((k + 1 : Nat) : Int))] [] Tm)) := by
  have uIQ := hIQ; unfold IQ at uIQ; obtain ⟨qu1, qu2, qu3, qu4, qu5, qu6, qu7, qu8, qu9, qu10⟩ := uIQ
  intro n
  induction n with
  | zero => intro q h1 h2; omega
  | succ n ih =>
    intro q h1 h2 h3
    rw [b292_223, qu1, hQ]
    by_cases hq : q < Q
    · obtain ⟨f, hf⟩ := Int.eq_ofNat_of_zero_le (qu5 q).1
      have hf3 : f < 3 := by have := (qu5 q).2; omega
      rw [if_pos (by omega), if_neg (by decide), q_M_tog hH hIQ (by omega) l9 q f (by omega) hf hf3, b_I, bnd (by omega), tn, qu7, awp (by omega)]
      by_cases z : (gD Sc 71 0 q) < sB (tb (gD Sc 70 0 q)) (MX VA l9 f) T
      · rw [if_pos z]
        have hno : ¬ okM Sc T Q VA l9 Q := fun h => by
          have := h q f hq hq hf
          omega
        obtain ⟨n, rfl⟩ : ∃ m, n = m + 1 := ⟨n - 1, by omega⟩
        refine ⟨n, by omega, by omega, Or.inr ⟨hno, ?_⟩⟩
        rw [b292_223, qu1, hQ]
        by_cases hq2 : ((q + 1 : Nat) : Int) < (Q : Int)
        · rw [if_pos hq2, if_pos rfl, if_pos rfl, awp (by omega)]
        · rw [if_neg hq2, if_pos rfl, awp (by omega)]
      · rw [if_neg z]
        obtain ⟨n', h8, h9, i1⟩ := ih (q + 1) (by omega) (by omega) (fun p g hp hp2 hg => by
          by_cases e : p = q
          · subst e
            have : g = f := by omega
            subst this
            omega
          · exact h3 p g (by omega) hp2 hg)
        exact ⟨n', by omega, by omega, i1⟩
    · have e : q = Q := by omega
      subst e
      exact ⟨n, by omega, by omega, Or.inl ⟨h3, by rw [if_neg (by omega), if_neg (by decide), awp (by omega)]⟩⟩
end
