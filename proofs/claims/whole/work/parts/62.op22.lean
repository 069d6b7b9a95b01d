/-! a fact of a rule: its truth on both sides -/
section
variable {d : Nat}
def cmpI (a s n : Int) : Int := if s = 0 then (if a < n then 1 else 0) else if s = 1 then (if n < a then 0 else 1) else if s = 2 then (if a = n then 1 else 0) else if s = 3 then (if a < n then 0 else 1) else (if n < a then 1 else 0)
theorem cmpI_01 (a s n : Int) : cmpI a s n = 0 ∨ cmpI a s n = 1 := by
  unfold cmpI
  (repeat (any_goals split)) <;> first | exact Or.inl rfl | exact Or.inr rfl
theorem q_M_holds {S : SD} (hd : 1 ≤ d) (a s n : Int) : EE false d 249 [vr (some (85, 0)), vi a, vi s, vi n] S = some (vi (cmpI a s n), S) := by
  rw [E249 hd, b249_0]
  unfold cmpI
  (repeat (any_goals split)) <;> rfl
theorem q_hasFact {S : SD} (hd : 1 ≤ d) (r k : Nat) (h : (k : Int) < (gD S 47 r 7)) (h2 : k < 16) : EE false d 49 [vr (some (47, r)), vi (k : Int)] S = some (vi 1, S) := by
  rw [E49 hd, b49_0, if_neg (by omega), if_pos h, if_pos (by omega)]
theorem q_cmp {S : SD} (hd : 2 ≤ d) (r k : Nat) (h : (k : Int) < (gD S 47 r 7)) (h2 : k < 16) (v : Int) : EE false d 54 [vr (some (47, r)), vi (k : Int), vi v] S = some (vi (if v = -1000000 then 0 else cmpI v (gD S 52 r k) (gD S 53 r k)), S) := by
  rw [E54 (by omega), b54_0]
  by_cases h0 : v = -1000000
  · rw [if_pos h0, if_pos h0]
  · rw [if_neg h0, if_neg h0, q_hasFact (by omega) r k h h2, b_I, if_neg (by decide), bnd (by omega), bnd (by omega), tn]
    unfold cmpI
    (repeat (any_goals split)) <;> rfl
theorem fact_fin {Sm : SD} {b : Int} (h : b = 0 ∨ b = 1) : (if b = 0 then some (vi 0, Sm) else some (vi 1, Sm) : Option (V × SD)) = some (vi b, Sm) := by
  rcases h with rfl | rfl
  · rw [if_pos rfl]
  · rw [if_neg (by decide)]
theorem fact_both {d' : Nat} {Sc Sm : SD} {N r k : Nat} (hN : (gD Sc 13 0 16) = (N : Int)) (hN4 : N ≤ 400) (hT : IT Sc Sm) (hW : IW Sc Sm) (hK : IC Sc Sm) (hR1 : RR1 r Sc Sm) (hr : r < 20) (hk : (k : Int) < (gD Sc 47 r 7)) (at' kn : Int) (h5 : (gD Sm 85 0 61) = kn) (hd : 3 ≤ d) (hd' : 3 ≤ d') : ∃ v b, (b = 0 ∨ b = 1) ∧ EE false d 116 [vr (some (41, 0)), vr (some (47, r)), vi (k : Int), vi at', vi kn] Sc = some (vi v, Sc) ∧ EE false d 54 [vr (some (47, r)), vi (k : Int), vi v] Sc = some (vi b, Sc) ∧ EE false d' 252 [vr (some (85, 0)), vi ((16 * r + k : Nat) : Int), vi at'] Sm = some (vi b, Sm) := by
  unfold RR1 at hR1
  obtain ⟨a1, a2, a3, a4, a5, a6⟩ := hR1
  obtain ⟨f1, f2, f3, f4, f5, f6, f7, f8, f9, f10, f11, f12, f13, f14, f15⟩ := a6 k hk
  have hT' := hT
  have uIT := hT; unfold IT at uIT; obtain ⟨t1, t2, t3, t4, t5, t6, t7, t8, t9, t10, t11, t12, t13, t14, t15, t16⟩ := uIT
  obtain ⟨t, ht⟩ := Int.eq_ofNat_of_zero_le f5
  have ht6 : (t : Int) < (gD Sc 3 0 10) := by omega
  have ht4 : t < 40 := by omega
  have hF : 16 * r + k < 320 := by omega
  have c2 := (E116 (d := d) (by omega) Sc r (k : Int) at' kn).trans (b116_0 oo (EE false (d - 1)) 999999 Sc r (k : Int) at' kn)
  have m2 := (E252 (d := d') (by omega) Sm ((16 * r + k : Nat) : Int) at').trans (b252_0 oo (EE false (d' - 1)) 999999 Sm ((16 * r + k : Nat) : Int) at')
  have bk : (0 ≤ (k : Int) ∧ (k : Int) < 16) = True := eq_true (by omega)
  have bF : (0 ≤ ((16 * r + k : Nat) : Int) ∧ ((16 * r + k : Nat) : Int) < 320) = True := eq_true (by omega)
  rw [q_hasFact (by omega) r k hk (by omega), b_I, if_neg (by decide)] at c2
  simp only [bk, if_true, tn, ht] at c2
  simp only [bF, if_true, tn, f1, f4, f7, f10, f13, ht, h5] at m2
  have go : ∀ v : Int, EE false d 116 [vr (some (41, 0)), vr (some (47, r)), vi (k : Int), vi at', vi kn] Sc = some (vi v, Sc) → EE false d' 252 [vr (some (85, 0)), vi ((16 * r + k : Nat) : Int), vi at'] Sm = (if v = -1000000 then some (vi 0, Sm) else if cmpI v (gD Sc 52 r k) (gD Sc 53 r k) = 0 then some (vi 0, Sm) else some (vi 1, Sm)) → ∃ v b, (b = 0 ∨ b = 1) ∧ EE false d 116 [vr (some (41, 0)), vr (some (47, r)), vi (k : Int), vi at', vi kn] Sc = some (vi v, Sc) ∧ EE false d 54 [vr (some (47, r)), vi (k : Int), vi v] Sc = some (vi b, Sc) ∧ EE false d' 252 [vr (some (85, 0)), vi ((16 * r + k : Nat) : Int), vi at'] Sm = some (vi b, Sm) := by
    intro v z1 z2
    refine ⟨v, _, ?_, z1, q_cmp (by omega) r k hk (by omega) v, ?_⟩
    · by_cases h0 : v = -1000000
      · rw [if_pos h0]; exact Or.inl rfl
      · rw [if_neg h0]; exact cmpI_01 _ _ _
    · rw [z2]
      by_cases h0 : v = -1000000
      · rw [if_pos h0, if_pos h0]
      · rw [if_neg h0, if_neg h0, fact_fin (cmpI_01 _ _ _)]
  by_cases k3 : (gD Sc 48 r k) = 3
  · rw [k3, if_neg (by decide), if_neg (by decide), if_pos rfl] at c2
    rw [k3, if_neg (by decide), if_pos rfl] at m2
    have c3 := (E145 (d := d - 1) (by omega) Sc (t : Int) at' kn).trans (b145_0 oo (EE false (d - 1 - 1)) 999999 Sc (t : Int) at' kn)
    have m3 := (E251 (d := d' - 1) (by omega) Sm (t : Int) at').trans (b251_0 oo (EE false (d' - 1 - 1)) 999999 Sm (t : Int) at')
    obtain ⟨k1, k2⟩ := Bk_0 hN hK ht4
    obtain ⟨v, i1, i2⟩ := w_age (d := d - 1 - 1) hN hN4 hW hK at' kn (by omega) 999999 0 _ (by omega) k1 (fun k hk hp => k2 k hk hp.1)
    obtain ⟨v', j1, j2⟩ := w_M_age (d := d' - 1 - 1) hN hN4 hW at' kn h5 (by omega) 999999 0 (-1) (by omega) (by omega) (Or.inl ⟨rfl, fun k hk _ => absurd hk (by omega)⟩)
    have e : v' = v := by
      rcases i2 with ⟨i2, i3⟩ | ⟨u, i2, i3, i4, i5⟩
      · rcases j2 with ⟨j2, j3⟩ | ⟨w, j2, j3, j4, j5⟩
        · rw [i2, j2]
        · exact absurd j3 (i3 w j2)
      · rcases j2 with ⟨j2, j3⟩ | ⟨w, j2, j3, j4, j5⟩
        · exact absurd i3 (j3 u i2)
        · have := i5 w j2 j3
          have := j5 u i2 i3
          rw [i4, j4, show (gD Sc 17 0 u) = (gD Sc 17 0 w) by omega]
    rw [e] at j1
    rw [q_thas1 (by omega) t ht6, b_I, if_neg (by decide), bnd (by omega), tn] at c3
    have c4 := c3.trans i1
    have m4 := m3.trans j1
    rw [c4, b_I] at c2
    rw [m4, b_I, q_M_holds (by omega), b_I, f10, f13] at m2
    exact go v c2 m2
  · obtain ⟨g1, g2⟩ := f8 k3
    obtain ⟨f, hf⟩ := Int.eq_ofNat_of_zero_le g1
    have hf3 : f < 3 := by omega
    rw [hf] at c2 m2
    by_cases k0 : (gD Sc 48 r k) = 0
    · rw [k0, if_neg (by decide), if_neg (by decide), if_neg (by decide)] at c2
      rw [k0, if_pos rfl] at m2
      obtain ⟨q, v, i1, i2, i3, i4⟩ := num_both (d := d - 1) (d' := d' - 1) hN hT' hW hK (by omega) (by omega) t f ht6 hf3 at' kn
      rw [i1, b_I, i2 _ (by omega), b_I] at c2
      rw [i3, b_I, q_M_holds (by omega), b_I, f10, f13] at m2
      exact go v c2 m2
    · obtain ⟨g3, g4, g5⟩ := f9 (by omega)
      have fin : ∀ g : Bool, (if g then (1 : Int) else 2) = (gD Sc 48 r k) → ∃ v, EE false (d - 1) 144 [vr (some (13, 0)), vi (t : Int), vi (f : Int), vi (gD Sc 51 r k), vi at', vi kn, vi (if g then 1 else 0)] Sc = some (vi v, Sc) ∧ EE false (d' - 1) 250 [vr (some (85, 0)), vi ((16 * r + k : Nat) : Int), vi at'] Sm = some (vi v, Sm) := by
        intro g hg
        obtain ⟨v, i1, i2⟩ := q_ext (d := d - 1) g hN hN4 hT' hK ht6 hf3 (gD Sc 51 r k) at' kn (by omega)
        obtain ⟨v', j1, j2⟩ := w_M_far g hN hN4 hW hf3 hF (gD Sc 51 r k) at' kn (f4.trans ht) (f7.trans hf) g3 (by rw [f1]; cases g with
          | true => exact Or.inl ⟨hg.symm, rfl⟩
          | false => exact Or.inr ⟨hg.symm, rfl⟩) h5 (K := EE false (d' - 1 - 1)) 999999 0 (-1000000) (by omega) (by omega) (Or.inl ⟨rfl, fun k hk hp => absurd hp.2 (by omega)⟩)
        have e : v' = v := BV_un (fun k hk hp => hp.2.2.2.1) j2 i2
        rw [e] at j1
        exact ⟨v, i1, (E250 (d := d' - 1) (by omega) Sm _ at').trans ((b250_0 oo (EE false (d' - 1 - 1)) 999999 Sm _ at').trans j1)⟩
      by_cases k1 : (gD Sc 48 r k) = 1
      · obtain ⟨v, i1, j1⟩ := fin true k1.symm
        rw [if_pos rfl] at i1
        rw [k1, if_pos rfl, i1, b_I] at c2
        rw [k1, if_neg (by decide), if_neg (by decide), j1, b_I, q_M_holds (by omega), b_I, f10, f13] at m2
        exact go v c2 m2
      · have k2 : (gD Sc 48 r k) = 2 := by omega
        obtain ⟨v, i1, j1⟩ := fin false k2.symm
        rw [if_neg (by decide)] at i1
        rw [k2, if_neg (by decide), if_pos rfl, i1, b_I] at c2
        rw [k2, if_neg (by decide), if_neg (by decide), j1, b_I, q_M_holds (by omega), b_I, f10, f13] at m2
        exact go v c2 m2
end
