/-! layer 2: word (1): spans, the chains -/
section
variable {d : Nat}
theorem q_mayBe {S : SD} (hd : 2 ≤ d) (a : Int) : EE false d 129 [vi a] S = some (vi (if a = -1000000 ∨ (-100000 ≤ a ∧ a ≤ 100000) then 1 else 0), S) := by
  rw [E129 (by omega), b129_0]
  by_cases h : a = -1000000
  · rw [if_pos h, if_pos (Or.inl h)]
  · rw [if_neg h, q_within _ (by omega), b_I]
    by_cases h2 : -100000 ≤ a ∧ a ≤ 100000
    · rw [if_pos h2, if_neg (by decide), if_pos (Or.inr h2)]
    · rw [if_neg h2, if_pos rfl, if_neg (by omega)]
theorem q_M_isNumber {S : SD} (hd : 2 ≤ d) (a : Int) : EE false d 205 [vi a] S = some (vi (if a = -1000000 ∨ (-100000 ≤ a ∧ a ≤ 100000) then 1 else 0), S) := by
  rw [E205 (by omega), b205_0]
  by_cases h : a = -1000000
  · rw [if_pos h, if_pos (Or.inl h)]
  · rw [if_neg h, q_M_in _ (by omega), b_I]
    by_cases h2 : -100000 ≤ a ∧ a ≤ 100000
    · rw [if_pos h2, if_neg (by decide), if_pos (Or.inr h2)]
    · rw [if_neg h2, if_pos rfl, if_neg (by omega)]
/-- the latest SET, on both sides -/
theorem w_set {Tc Tm : SD} {i : Nat} (hS : IS i Tc Tm) (hi : i ≤ 512) {L : Nat} (hL : (gD Tc 3 0 9) = (L : Int)) (t hour : Int) (w : Nat) (hw : w < 400) (hwt : (gD Tm 97 0 w) = t) (hwh : (gD Tm 99 0 w) = hour) (hd' : 1 ≤ d) {K : KT} : ∀ (n j : Nat) (b : Int), j ≤ L → L - j + 1 < n → 0 ≤ b → b ≤ hour → ∃ r, run oo K false mi_106 n 5 [(0, vr (some (3, 0))), (1, vi t), (2, vi hour), (3, vi b), (4, vi (j : Int))] [] Tc = some (vi r, Tc) ∧ 0 ≤ r ∧ r ≤ hour ∧ ∀ n', L - j + 1 < n' → ∃ n'', run oo (EE false d) false mi_210 n' 4 [(0, vr (some (85, 0))), (1, vi (w : Int)), (2, vi b), (3, vi (j : Int))] [] Tm = run oo (EE false d) false mi_210 (n'' + 1) 4 [(0, vr (some (85, 0))), (1, vi (w : Int)), (2, vi r), (3, vi (L : Int))] [] Tm := by
  have uIS := hS; unfold IS at uIS; obtain ⟨s1, s2, s3, s4, s5, s6⟩ := uIS
  have hL5 : L ≤ 512 := by omega
  intro n
  induction n with
  | zero => intro j b h1 h2; omega
  | succ n ih =>
    intro j b h1 h2 h3 h4
    rw [b106_5, hL]
    by_cases hj : j < L
    · have e1 := awp (show j < 1000000 by omega)
      have hv := s6 j
      rw [if_pos (by omega), bnd (by omega), tn, e1]
      by_cases q : (gD Tc 11 0 j) = t ∧ (gD Tc 12 0 j) ≤ hour
      · obtain ⟨r, i1, i2, i3, i4⟩ := ih (j + 1) (max b (gD Tc 12 0 j)) (by omega) (by omega) (by omega) (by omega)
        refine ⟨r, ?_, i2, i3, fun n' hn' => ?_⟩
        · rw [if_pos q.1, bnd (by omega), if_neg (by omega), bnd (by omega)]
          exact i1
        · obtain ⟨n', rfl⟩ : ∃ m, n' = m + 1 := ⟨n' - 1, by omega⟩
          obtain ⟨n'', i5⟩ := i4 n' (by omega)
          refine ⟨n'', ?_⟩
          rw [b210_4, s1, hL, if_pos (by omega), bnd (by omega), bnd (by omega), tn, tn, s4, hwt, if_pos q.1, bnd (by omega), bnd (by omega), s5, hwh, if_neg (by omega), bnd (by omega), q_M_more _ hd', b_I, e1]
          exact i5
      · obtain ⟨r, i1, i2, i3, i4⟩ := ih (j + 1) b (by omega) (by omega) h3 h4
        refine ⟨r, ?_, i2, i3, fun n' hn' => ?_⟩
        · by_cases q1 : (gD Tc 11 0 j) = t
          · rw [if_pos q1, bnd (by omega), if_pos (by omega)]
            exact i1
          · rw [if_neg q1]
            exact i1
        · obtain ⟨n', rfl⟩ : ∃ m, n' = m + 1 := ⟨n' - 1, by omega⟩
          obtain ⟨n'', i5⟩ := i4 n' (by omega)
          refine ⟨n'', ?_⟩
          rw [b210_4, s1, hL, if_pos (by omega), bnd (by omega), bnd (by omega), tn, tn, s4, hwt]
          by_cases q1 : (gD Tc 11 0 j) = t
          · rw [if_pos q1, bnd (by omega), bnd (by omega), s5, hwh, if_pos (by omega), e1]
            exact i5
          · rw [if_neg q1, e1]
            exact i5
    · have e : j = L := by omega
      subst e
      refine ⟨b, by rw [if_neg (by omega)], h3, h4, fun n' hn' => ?_⟩
      exact ⟨n' - 1, by rw [show n' - 1 + 1 = n' by omega]⟩
/-- SPAN, on both sides -/
theorem span_both {Tc Tm : SD} {i : Nat} (hS : IS i Tc Tm) (hi : i ≤ 512) (hT : IT Tc Tm) (hnow : IN Tc Tm) (t w : Nat) (hour : Int) (hh : 0 ≤ hour ∧ hour ≤ 3999) (hw : w < 400) (ht : (t : Int) < (gD Tc 3 0 10)) (hwt : (gD Tm 97 0 w) = (t : Int)) (hwh : (gD Tm 99 0 w) = hour) (hd : 4 ≤ d) {d' : Nat} (hd' : 2 ≤ d') : ∃ x y, EE false d 130 [vr (some (13, 0)), vi (w : Int), vi (t : Int), vi hour, vi (gD Tc 2 0 9)] Tc = some (vi 0, wD (wD Tc 18 0 w x) 19 0 w y) ∧ EE false d' 210 [vr (some (85, 0)), vi (w : Int)] Tm = some (vi 0, wD (wD Tm 101 0 w x) 102 0 w y) ∧ 0 ≤ x ∧ x ≤ (gD Tc 2 0 9) ∧ 0 ≤ y ∧ y ≤ (gD Tc 2 0 9) := by
  have uS := hS; unfold IS at uS
  have uN := hnow; unfold IN at uN
  have uIT := hT; unfold IT at uIT; obtain ⟨t1, t2, t3, t4, t5, t6, t7, t8, t9, t10, t11, t12, t13, t14, t15, t16⟩ := uIT
  obtain ⟨L, hL⟩ : ∃ N : Nat, (gD Tc 3 0 9) = (N : Int) := Int.eq_ofNat_of_zero_le uS.2.1
  have hL5 : L ≤ 512 := by omega
  obtain ⟨r, c1, r0, r1, m1⟩ := w_set (d := d' - 1) hS hi hL (t : Int) hour w hw hwt hwh (by omega) (K := EE false (d - 1 - 1)) 999999 0 0 (by omega) (by omega) (by omega) hh.1
  obtain ⟨n'', m2⟩ := m1 999999 (by omega)
  have c2 : EE false (d - 1) 106 [vr (some (3, 0)), vi (t : Int), vi hour] Tc = some (vi r, Tc) := by
    rw [E106 (by omega), b106_0]; exact c1
  have hk := t5 t
  have hdr := t14 ((gD Tc 9 0 t)).toNat
  have c3 : EE false (d - 1) 99 [vr (some (3, 0)), vi (t : Int)] Tc = some (vi (gD Tc 4 0 (((gD Tc 9 0 t)).toNat)), Tc) := by
    rw [E99 (by omega), b99_0, E97 (by omega), b97_0, q_thas1 (by omega) t ht, b_I, if_neg (by decide), bnd (by omega), tn, b_I, bnd (by omega)]
  generalize hdd : (gD Tc 4 0 (((gD Tc 9 0 t)).toNat)) = dr at *
  have pb := mulb (r := dr) (x := hour - r) (by omega) (by omega)
  have pb2 : 0 ≤ (hour - r) * dr ∧ (hour - r) * dr ≤ 39990000 := by rw [Int.mul_comm]; exact pb
  have e0 : aw oo (ab oo 12 (aw oo (aw oo (aw oo (hour - r) * dr) + 999)) 1000) = ((hour - r) * dr + 999) / 1000 := by
    rw [aw_id (z := hour - r) (by omega), aw_id (z := (hour - r) * dr) (by omega), aw_id (z := (hour - r) * dr + 999) (by omega)]
    show aw oo (Int.tdiv ((hour - r) * dr + 999) 1000) = _
    rw [Int.tdiv_eq_ediv_of_nonneg (by omega), aw_id (by omega)]
  refine ⟨min (max (aw oo (hour - ((hour - r) * dr + 999) / 1000)) r) (gD Tc 2 0 9), min (aw oo (hour + ((hour - r) * dr + 999) / 1000)) (gD Tc 2 0 9), ?_, ?_, ?_⟩
  · rw [E130 (by omega), b130_0, c2, b_I, c3, b_I, bnd (by omega), bnd (by omega), e0, tn]
    rfl
  · rw [E210 (by omega), b210_0]
    have m2 : run oo (EE false (d' - 1)) false mi_210 999999 4 [(0, vr (some (85, 0))), (1, vi (w : Int)), (2, vi 0), (3, vi 0)] [] Tm = _ := m2
    rw [m2, b210_4, uS.1, hL, if_neg (by omega), bnd (by omega), bnd (by omega), tn, hwt, hwh, bnd (by omega), tn, t4, bnd (by omega), bnd (by omega), t13, hdd, e0, q_M_more _ (by omega), b_I, uN.1, q_M_less _ (by omega), b_I, bnd (by omega), bnd (by omega), g_f (by decide), g_f (by decide), hwh, uN.1, q_M_less _ (by omega), b_I, bnd (by omega)]
  · clear e0
    have x1 : aw oo (hour + ((hour - r) * dr + 999) / 1000) = hour + ((hour - r) * dr + 999) / 1000 := aw_id (by omega)
    rw [x1]
    clear x1
    generalize aw oo (hour - ((hour - r) * dr + 999) / 1000) = z
    omega
end
/-! the chains with one more word, as arrays -/
def Ch1 (th ct top : Nat → Int) (N : Nat) : Prop := ∀ t : Nat, t < 40 → (top t = -1 ∧ ∀ k : Nat, k < N → th k ≠ (t : Int)) ∨ (∃ w : Nat, top t = (w : Int) ∧ w < N ∧ th w = (t : Int) ∧ ∀ k : Nat, k < N → th k = (t : Int) → ct k ≤ ct w)
def Ch2 (th ct bl : Nat → Int) (N : Nat) : Prop := ∀ w : Nat, w < N → (bl w = -1 ∧ ∀ k : Nat, k < N → th k = th w → ct w ≤ ct k) ∨ (∃ v : Nat, bl w = (v : Int) ∧ v < N ∧ th v = th w ∧ ct v < ct w ∧ ∀ k : Nat, k < N → th k = th w → ct k < ct w → ct k ≤ ct v)
theorem Ch_top {th ct top bl th' ct' top' bl' : Nat → Int} {N t : Nat} {c : Int} (h1 : Ch1 th ct top N) (h2 : Ch2 th ct bl N) (ht : t < 40) (hth : ∀ k, th' k = if k = N then (t : Int) else th k) (hct : ∀ k, ct' k = if k = N then c else ct k) (hb : ∀ k, bl' k = if k = N then top t else bl k) (hp : ∀ k, top' k = if k = t then (N : Int) else top k) (hn : ∀ w : Nat, top t = (w : Int) → ct w < c) : Ch1 th' ct' top' (N + 1) ∧ Ch2 th' ct' bl' (N + 1) := by
  have old : ∀ k, k < N → th k = (t : Int) → ct k < c := fun k hk hk2 => by
    rcases h1 t ht with ⟨_, h⟩ | ⟨w, h3, h4, h5, h6⟩
    · exact absurd hk2 (h k hk)
    · have := hn w h3
      have := h6 k hk hk2
      omega
  constructor
  · intro u hu
    by_cases e : u = t
    · subst e
      refine Or.inr ⟨N, by rw [hp, if_pos rfl], by omega, by rw [hth, if_pos rfl], fun k hk hk2 => ?_⟩
      rw [hct, hct N, if_pos rfl]
      rw [hth] at hk2
      split
      · omega
      · next h => rw [if_neg h] at hk2; have := old k (by omega) hk2; omega
    · rw [hp, if_neg e]
      rcases h1 u hu with ⟨h3, h4⟩ | ⟨w, h3, h4, h5, h6⟩
      · refine Or.inl ⟨h3, fun k hk => ?_⟩
        rw [hth]
        split
        · omega
        · exact h4 k (by omega)
      · refine Or.inr ⟨w, h3, by omega, by rw [hth, if_neg (by omega)]; exact h5, fun k hk hk2 => ?_⟩
        rw [hth] at hk2
        rw [hct, hct w, if_neg (show ¬ w = N by omega)]
        split at hk2
        · omega
        · next h => rw [if_neg h]; exact h6 k (by omega) hk2
  · intro w hw
    by_cases e : w = N
    · subst e
      rw [hb, if_pos rfl]
      rcases h1 t ht with ⟨h3, h4⟩ | ⟨v, h3, h4, h5, h6⟩
      · refine Or.inl ⟨h3, fun k hk hk2 => ?_⟩
        rw [hth, hth w, if_pos rfl] at hk2
        rw [hct w, if_pos rfl, hct k]
        split at hk2
        · next h => rw [if_pos h]; omega
        · next h => exact absurd hk2 (h4 k (by omega))
      · refine Or.inr ⟨v, h3, by omega, by rw [hth, hth w, if_pos rfl, if_neg (by omega)]; exact h5, by rw [hct, hct w, if_pos rfl, if_neg (by omega)]; exact hn v h3, fun k hk hk2 hk3 => ?_⟩
        rw [hth, hth w, if_pos rfl] at hk2
        rw [hct, hct w, if_pos rfl] at hk3
        rw [hct, hct v, if_neg (show ¬ v = w by omega)]
        split at hk2
        · next h => rw [if_pos h] at hk3; omega
        · next h => rw [if_neg h]; exact h6 k (by omega) hk2
    · have e1 : th' w = th w := by rw [hth, if_neg e]
      have e2 : ct' w = ct w := by rw [hct, if_neg e]
      rw [hb, if_neg e, e1, e2]
      rcases h2 w (by omega) with ⟨h3, h4⟩ | ⟨v, h3, h4, h5, h6, h7⟩
      · refine Or.inl ⟨h3, fun k hk hk2 => ?_⟩
        rw [hth] at hk2
        rw [hct]
        split at hk2
        · next h => rw [if_pos h]; have := old w (by omega) hk2.symm; omega
        · next h => rw [if_neg h]; exact h4 k (by omega) hk2
      · refine Or.inr ⟨v, h3, by omega, by rw [hth, if_neg (by omega)]; exact h5, by rw [hct, if_neg (by omega)]; exact h6, fun k hk hk2 hk3 => ?_⟩
        rw [hth] at hk2
        rw [hct] at hk3
        rw [hct, hct v, if_neg (show ¬ v = N by omega)]
        split at hk2
        · next h => rw [if_pos h] at hk3; have := old w (by omega) hk2.symm; omega
        · next h => rw [if_neg h] at hk3 ⊢; exact h7 k (by omega) hk2 hk3
theorem Ch_mid {th ct top bl th' ct' bl' : Nat → Int} {N t A : Nat} {c : Int} (h1 : Ch1 th ct top N) (h2 : Ch2 th ct bl N) (ht : t < 40) (inj : ∀ k l, k < N → l < N → th k = th l → ct k = ct l → k = l) (hA : A < N) (hA2 : th A = (t : Int)) (hA3 : c < ct A) (hA4 : ∀ v : Nat, bl A = (v : Int) → ct v < c) (hth : ∀ k, th' k = if k = N then (t : Int) else th k) (hct : ∀ k, ct' k = if k = N then c else ct k) (hb : ∀ k, bl' k = if k = A then (N : Int) else if k = N then bl A else bl k) : Ch1 th' ct' top (N + 1) ∧ Ch2 th' ct' bl' (N + 1) := by
  constructor
  · intro u hu
    rcases h1 u hu with ⟨h3, h4⟩ | ⟨w, h3, h4, h5, h6⟩
    · refine Or.inl ⟨h3, fun k hk => ?_⟩
      rw [hth]
      split
      · intro z
        have : u = t := by omega
        subst this
        exact h4 A hA hA2
      · exact h4 k (by omega)
    · refine Or.inr ⟨w, h3, by omega, by rw [hth, if_neg (by omega)]; exact h5, fun k hk hk2 => ?_⟩
      rw [hth] at hk2
      rw [hct, hct w, if_neg (show ¬ w = N by omega)]
      split at hk2
      · next h =>
        have : u = t := by omega
        subst this
        rw [if_pos h]
        have := h6 A hA hA2
        omega
      · next h => rw [if_neg h]; exact h6 k (by omega) hk2
  · intro w hw
    by_cases e : w = N
    · subst e
      rw [hb, if_neg (by omega), if_pos rfl]
      rcases h2 A hA with ⟨h3, h4⟩ | ⟨v, h3, h4, h5, h6, h7⟩
      · refine Or.inl ⟨h3, fun k hk hk2 => ?_⟩
        rw [hth, hth w, if_pos rfl] at hk2
        rw [hct w, if_pos rfl, hct k]
        split at hk2
        · next h => rw [if_pos h]; omega
        · next h => rw [if_neg h]; have := h4 k (by omega) (by omega); omega
      · have hv := hA4 v h3
        refine Or.inr ⟨v, h3, by omega, by rw [hth, hth w, if_pos rfl, if_neg (by omega)]; omega, by rw [hct, hct w, if_pos rfl, if_neg (by omega)]; exact hv, fun k hk hk2 hk3 => ?_⟩
        rw [hth, hth w, if_pos rfl] at hk2
        rw [hct, hct w, if_pos rfl] at hk3
        rw [hct, hct v, if_neg (show ¬ v = w by omega)]
        split at hk2
        · next h => rw [if_pos h] at hk3; omega
        · next h => rw [if_neg h] at hk3 ⊢; exact h7 k (by omega) (by omega) (by omega)
    · have e1 : th' w = th w := by rw [hth, if_neg e]
      have e2 : ct' w = ct w := by rw [hct, if_neg e]
      rw [e1, e2]
      by_cases e3 : w = A
      · subst e3
        refine Or.inr ⟨N, by rw [hb, if_pos rfl], by omega, by rw [hth, if_pos rfl]; exact hA2.symm, by rw [hct, if_pos rfl]; exact hA3, fun k hk hk2 hk3 => ?_⟩
        rw [hth] at hk2
        rw [hct] at hk3
        rw [hct, hct N, if_pos rfl]
        split at hk2
        · next h => rw [if_pos h]; omega
        · next h =>
          rw [if_neg h] at hk3 ⊢
          rcases h2 w hA with ⟨h4, h5⟩ | ⟨v, h4, h5, h6, h7, h8⟩
          · have := h5 k (by omega) hk2; omega
          · have := h8 k (by omega) hk2 hk3
            have := hA4 v h4
            omega
      · have hne : th w = (t : Int) → ct w ≠ ct A := fun z z2 => e3 (inj w A (by omega) hA (by omega) z2)
        rw [hb, if_neg e3, if_neg e]
        rcases h2 w (by omega) with ⟨h3, h4⟩ | ⟨u, h3, h4, h5, h6, h7⟩
        · refine Or.inl ⟨h3, fun k hk hk2 => ?_⟩
          rw [hth] at hk2
          rw [hct]
          split at hk2
          · next h =>
            rw [if_pos h]
            have q0 := h4 A hA (by omega)
            have q1 := hne hk2.symm
            rcases h2 A hA with ⟨h8, h9⟩ | ⟨v, h8, h9, h10, h11, h12⟩
            · have := h9 w (by omega) (by omega); omega
            · have := h12 w (by omega) (by omega) (by omega)
              have := hA4 v h8
              omega
          · next h => rw [if_neg h]; exact h4 k (by omega) hk2
        · refine Or.inr ⟨u, h3, by omega, by rw [hth, if_neg (by omega)]; exact h5, by rw [hct, if_neg (by omega)]; exact h6, fun k hk hk2 hk3 => ?_⟩
          rw [hth] at hk2
          rw [hct] at hk3
          rw [hct, hct u, if_neg (show ¬ u = N by omega)]
          split at hk2
          · next h =>
            rw [if_pos h] at hk3 ⊢
            have q1 := hne hk2.symm
            apply Decidable.byContradiction
            intro q2
            by_cases q3 : ct A < ct w
            · have := h7 A hA (by omega) q3
              omega
            · rcases h2 A hA with ⟨h8, h9⟩ | ⟨v, h8, h9, h10, h11, h12⟩
              · have := h9 w (by omega) (by omega); omega
              · have := h12 w (by omega) (by omega) (by omega)
                have := hA4 v h8
                omega
          · next h => rw [if_neg h] at hk3 ⊢; exact h7 k (by omega) hk2 hk3
