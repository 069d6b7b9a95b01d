/-! ring: follow and goes -/
section
variable {d : Nat}
theorem g_wC {S : SD} {f j dp n g i sp f' j' k' : Nat} : gD (wC S f j dp n g i sp) f' j' k' = if f' = f ∧ j' = j ∧ dp ≤ k' ∧ k' < dp + n then gD S g i (sp + (k' - dp)) else gD S f' j' k' := rfl
theorem g_wCf {S : SD} {f j dp n g i sp f' j' k' : Nat} (h : f' ≠ f) : gD (wC S f j dp n g i sp) f' j' k' = gD S f' j' k' := if_neg (fun q => h q.1)
theorem w_keepR {K : KT} {S0 : SD} {c A : Nat} (hA : A ≤ 200) : ∀ (n k : Nat) (S : SD), c ≤ k → k ≤ A → A - k < n → EqX [61] [(55, 10)] S0 S → (gD S 55 0 10) = ((k - c : Nat) : Int) → (∀ j, j < k - c → (gD S 61 0 j) = (gD S0 58 0 (c + j))) → ∃ S', run oo K false mi_13 n 6 [(0, vr (some (55, 0))), (2, vi (A : Int)), (3, vi (k : Int))] [] S = some (vi 0, S') ∧ EqX [61] [(55, 10)] S0 S' ∧ (gD S' 55 0 10) = ((A - c : Nat) : Int) ∧ ∀ j, j < A - c → (gD S' 61 0 j) = (gD S0 58 0 (c + j)) := by
  intro n
  induction n with
  | zero => intro k S z0 z1 z2; omega
  | succ n ih =>
    intro k S z0 z1 z2 x z3 z4
    rw [b13_6, if_neg (by omega)]
    by_cases hk : k < A
    · rw [if_pos (by omega), if_pos (by omega), if_pos (by omega), z3, if_pos (by omega), tn, tn, g_f (by decide), z3, awn (by omega), awn (by omega), EqX_a x 58 rfl]
      refine ih (k + 1) _ (by omega) (by omega) (by omega) (EqX_wC (EqX_wA x (by decide)) (by decide)) (by rw [g_e, show k + 1 - c = k - c + 1 by omega]) (fun j hj => ?_)
      rw [g_f (by decide), g_i]
      by_cases e : j = k - c
      · rw [if_pos e, e, show c + (k - c) = k by omega]
      · rw [if_neg e]; exact z4 j (by omega)
    · have e : k = A := by omega
      subst e
      rw [if_neg (by omega)]
      exact ⟨S, rfl, x, z3, z4⟩
theorem w_keepM {K : KT} {S0 : SD} {c A : Nat} (hA : A ≤ 200) : ∀ (n k : Nat) (S : SD), c ≤ k → k ≤ A → A - k < n → EqX [160] [] S0 S → (∀ j, j < k - c → (gD S 160 0 j) = (gD S0 162 0 (c + j))) → ∃ S', run oo K false mi_285 n 56 [(0, vr (some (85, 0))), (1, vi (A : Int)), (2, vi (c : Int)), (3, vi (k : Int))] [] S = some (vi ((A - c : Nat) : Int), S') ∧ EqX [160] [] S0 S' ∧ ∀ j, j < A - c → (gD S' 160 0 j) = (gD S0 162 0 (c + j)) := by
  intro n
  induction n with
  | zero => intro k S z0 z1 z2; omega
  | succ n ih =>
    intro k S z0 z1 z2 x z4
    rw [b285_56]
    by_cases hk : k < A
    · have e1 : vi (aw oo ((k : Int) - (c : Int))) = vi ((k - c : Nat) : Int) := congrArg vi (by rw [aw0 (by omega)]; omega)
      have e2 : aw oo ((k : Int) - (c : Int)) = ((k - c : Nat) : Int) := by rw [aw0 (by omega)]; omega
      rw [if_pos (by omega), if_pos (by omega), if_pos (by rw [e2]; omega), e2, tn, tn, awp (show k < 1000000 by omega), EqX_a x 162 rfl]
      clear e1 e2
      refine ih (k + 1) _ (by omega) (by omega) (by omega) (EqX_wA x (by decide)) (fun j hj => ?_)
      rw [g_i]
      by_cases e : j = k - c
      · rw [if_pos e, e, show c + (k - c) = k by omega]
      · rw [if_neg e]; exact z4 j (by omega)
    · have e : k = A := by omega
      subst e
      rw [if_neg (by omega), show aw oo ((k : Int) - (c : Int)) = ((k - c : Nat) : Int) by rw [aw0 (by omega)]; omega]
      exact ⟨S, rfl, x, z4⟩
theorem w_cpy {K : KT} {S0 : SD} {U A : Nat} {r : Int} (hU : U ≤ 32) (hA : A ≤ 200) (hu : (gD S0 85 0 87) = (U : Int)) : ∀ (n j : Nat) (S : SD), j ≤ U → U - j < n → EqX [161] [] S0 S → (∀ t, t < j → (gD S 161 0 (32 * A + t)) = (gD S0 153 0 t)) → (∀ t, t < 32 * A → (gD S 161 0 t) = (gD S0 161 0 t)) → ∃ m S', n = m + (U - j) ∧ run oo K false mi_285 n 109 [(0, vr (some (85, 0))), (1, vi (A : Int)), (3, vi r), (4, vi (j : Int))] [] S = run oo K false mi_285 m 109 [(0, vr (some (85, 0))), (1, vi (A : Int)), (3, vi r), (4, vi (U : Int))] [] S' ∧ EqX [161] [] S0 S' ∧ (∀ t, t < U → (gD S' 161 0 (32 * A + t)) = (gD S0 153 0 t)) ∧ ∀ t, t < 32 * A → (gD S' 161 0 t) = (gD S0 161 0 t) := by
  intro n
  induction n with
  | zero => intro j S z1 z2; omega
  | succ n ih =>
    intro j S z1 z2 x z3 z4
    by_cases hj : j < U
    · rw [b285_109, EqX_c x 85 87 rfl, hu, if_pos (by omega), if_pos (by omega), awG (by omega), if_pos (by omega), tn, tn, awp (show j < 1000000 by omega), EqX_a x 153 rfl]
      obtain ⟨m, S', i1, i2⟩ := ih (j + 1) (wD S 161 0 (32 * A + j) (gD S0 153 0 j)) (by omega) (by omega) (EqX_wA x (by decide)) (fun t ht => by
        rw [g_i]
        by_cases e : t = j
        · rw [if_pos (by omega), e]
        · rw [if_neg (by omega)]; exact z3 t (by omega)) (fun t ht => by
        rw [g_i, if_neg (by omega)]
        exact z4 t ht)
      exact ⟨m, S', by omega, i2⟩
    · have e : j = U := by omega
      subst e
      exact ⟨n + 1, S, by omega, rfl, x, z3, z4⟩
abbrev GCA : List Nat := [56, 57, 58]
abbrev GMA : List Nat := [153, 161, 162, 134]
abbrev GMC : List (Nat × Nat) := [(85, 63)]
abbrev GCA3 : List Nat := [56, 57, 58, 59, 60, 61]
abbrev GMA3 : List Nat := [153, 161, 162, 134, 160]
abbrev GMC3 : List (Nat × Nat) := [(85, 63), (85, 96)]
/-- how a run of acts ends -/
def OUTs (D : DT) (S0 : SD) (row : Nat) (Sc0 Sm0 : SD) (vc vm : Int) (Sc' Sm' : SD) : Prop := (gD Sm' 85 0 63) = 0 ∧ ((((vc = -1 ∧ vm = 0) ∨ (vc = -2 ∧ vm = -2)) ∧ EqX GCA [] Sc0 Sc' ∧ EqX GMA GMC Sm0 Sm') ∨ (∃ m : Nat, 1 ≤ m ∧ m ≤ 200 ∧ 0 ≤ vc ∧ vm = (m : Int) ∧ EqX GCA3 FCC Sc0 Sc' ∧ EqX GMA3 GMC3 Sm0 Sm' ∧ (gD Sc' 55 0 10) = (m : Int) ∧ (gD Sm' 85 0 96) = (m : Int) ∧ (∀ k, k < m → (gD Sm' 160 0 k) = (gD Sc' 61 0 k)) ∧ (gD Sc' 55 0 9) = (cnt (hcB D) 120 : Int) ∧ ∀ s, s < cnt (hcB D) 120 → (gD Sc' 59 0 s) = (clD D s : Int) ∧ (gD Sc' 60 0 s) = VAL D S0 (cnt (hcB D) 120) row s))
theorem w_follow {d' : Nat} {D : DT} {E : AT} {U row : Nat} {cc : Nat → Nat} {S0 Sc0 Sm0 : SD} {bits : Int} (hb : ∀ r, r < 20 → ti bits r = dm D r) (hd : 6 ≤ d) (hd' : 7 ≤ d') (h : RGs D E U cc Sc0 Sm0) (hC : CSt D S0 Sc0) (hrow : ∀ t, t < cnt (hcB D) 120 → (gD Sc0 67 0 t) = (dgt (DN D S0) (cnt (hcB D) 120) row t : Int)) : ∀ (n A m : Nat) (Sc Sm : SD), A ≤ 200 → 201 - A < n → 50 * (201 - A) + 250 < m → EqX GCA [] Sc0 Sc → EqX GMA GMC Sm0 Sm → VCs D U Sc Sm → (∀ k s : Nat, k < A → s < U → (gD Sm 161 0 (32 * k + s)) = (gD Sc 57 0 (32 * k + s))) → (∀ k : Nat, k < A → (gD Sm 162 0 k) = (gD Sc 58 0 k)) → (gD Sm 85 0 63) = 0 → ∃ vc vm Sc' Sm', run oo (EE false d) false mi_11 n 2 [(0, vr (some (55, 0))), (1, vi bits), (2, vi (A : Int))] [] Sc = some (vi vc, Sc') ∧ run oo (EE false d') false mi_285 m 30 [(0, vr (some (85, 0))), (1, vi (A : Int))] [] Sm = some (vi vm, Sm') ∧ OUTs D S0 row Sc0 Sm0 vc vm Sc' Sm' := by
  intro n
  induction n with
  | zero => intro A m Sc Sm z1 z2; omega
  | succ n ih =>
    intro A m Sc Sm hA z2 z3 xc xm hv hp hq h0
    obtain ⟨m, rfl⟩ : ∃ k, m = k + 1 := ⟨m - 1, by omega⟩
    have hG := RGs_fr (EqX_mo xc (by decide) (by decide)) (EqX_mo xm (by decide) (by decide)) h
    have hGG := hG
    obtain ⟨h1, h2, h3, h4, h5, h6, h7, h8, h9, h10, h11, h12⟩ := hGG
    obtain ⟨v, i1, i2⟩ := (w_seen (K := EE false (d - 1)) h9 hA h5.1 999999).1 0 (by omega) (by omega) (fun k hk => by omega)
    obtain ⟨w, j1, j2⟩ := (w_same (K := EE false (d' - 1)) h9 hA h6.1 999999).1 0 (by omega) (by omega) (fun k hk => by omega)
    have e : w = v := LST_un (LST_cg (fun k hk => ⟨fun q s hs => by
      have := q s hs
      simp only [hp k s hk hs, hv.1 s hs] at this
      exact this, fun q s hs => by
      have := q s hs
      simp only [hp k s hk hs, hv.1 s hs]
      exact this⟩) j2) i2
    subst e
    have c1 := (E12 (d := d) (by omega) Sc (A : Int)).trans ((b12_0 oo (EE false (d - 1)) 999999 Sc (A : Int)).trans i1)
    have m1 := (E284 (d := d') (by omega) Sm (A : Int)).trans ((b284_0 oo (EE false (d' - 1)) 999999 Sm (A : Int)).trans j1)
    rw [b11_2, b285_30, if_neg (by omega), if_neg (by omega), c1, b_I, m1, b_I]
    rcases i2 with ⟨rfl, i2⟩ | ⟨c, hcA, rfl, i3, i4⟩
    · rw [if_pos rfl, if_pos (by decide)]
      obtain ⟨u, k1, k2⟩ := w_next (d := d - 1) (d' := d') hG hv hb (by omega) (by omega) 999999 0 (by omega) (by omega) (fun q hq => by omega)
      obtain ⟨u', S1, l1, l2, l3, l4⟩ := w_acting (d' := d' - 1) (by omega) 999999 0 Sm hG hv (Nat.zero_le _) (by
        have hD' := h3
        unfold DAT at hD'
        have := hD'.2.2.2.1
        omega) (fun q hq => absurd hq (by show ¬ q < 0; omega)) h0
      have e : u' = u := LST_un l2 k2
      subst e
      have c2 := (E10 (d := d) (by omega) Sc bits).trans ((b10_0 oo (EE false (d - 1)) 999999 Sc bits).trans k1)
      have m2 := (E283 (d := d') (by omega) Sm).trans ((b283_0 oo (EE false (d' - 1)) 999999 Sm).trans l1)
      rw [c2, b_I, m2, b_I]
      have xm1 : EqX GMA GMC Sm0 S1 := EqX_tr xm (EqX_mo l3 (by decide) (by decide))
      rcases k2 with ⟨rfl, k2⟩ | ⟨r, hr, rfl, k3, k4⟩
      · rw [q_ruleAt0 (by omega) _ (by omega), b_R0, if_pos (by decide)]
        exact ⟨-1, 0, Sc, S1, rfl, rfl, l4, Or.inl ⟨Or.inl ⟨rfl, rfl⟩, xc, xm1⟩⟩
      · obtain ⟨hm, s, s1, s2, s3, s4⟩ := k3
        have hE := h4
        unfold ADT at hE
        obtain ⟨e1, e2, e3, e4, e5, e6, e7, e8, e9, e10, e11⟩ := hE r hr hm
        have ea : ((eat E r : Nat) : Int) * 3 + ((eaf E r : Nat) : Int) = ((eac E r : Nat) : Int) := by unfold eac; omega
        have h120 : eac E r < 120 := by unfold eac; omega
        have hsl := (h5.2.1 s s1).2
        rw [s2] at hsl
        rw [q_ruleAt1 (by omega) r e11 hr, b_R1, q_actCell (by omega) r _ _ e1 e3 e2 e4, b_I, ea, q_slotOf (by omega) (eac E r) s h120 (by omega) hsl, b_I, if_neg (by omega)]
        by_cases hA2 : A = 200
        · rw [if_pos (by omega), if_neg (by omega), if_pos (by omega)]
          exact ⟨-2, -2, Sc, S1, rfl, rfl, l4, Or.inl ⟨Or.inr ⟨rfl, rfl⟩, xc, xm1⟩⟩
        · have hG1 := RGs_fr (EqX_rf : EqX FCB FCC Sc Sc) (EqX_mo l3 (by decide) (by decide)) hG
          obtain ⟨g1, g2, g3, g4, g5, g6, g7⟩ := hG1
          obtain ⟨m', S2, p1, p2, p3, p4, p5⟩ := w_cpy (K := EE false d') (r := (r : Int)) h9 hA g6.1 m 0 S1 (by omega) (by omega) EqX_rf (fun t ht => by omega) (fun t ht => rfl)
          have p2 : run oo (EE false d') false mi_285 m 109 [(0, vr (some (85, 0))), (1, vi (A : Int)), (3, vi (r : Int)), (4, vi 0)] [] S1 = _ := p2
          obtain ⟨m'', rfl⟩ : ∃ k, m' = k + 1 := ⟨m' - 1, by omega⟩
          have x3 : EqX [161, 162] [] S1 (wD S2 162 0 A (r : Int)) := EqX_wA (EqX_mo p3 (by decide) (by decide)) (by decide)
          have hG2 := RGs_fr (EqX_rf : EqX FCB FCC Sc Sc) (EqX_mo x3 (by decide) (by decide)) ⟨g1, g2, g3, g4, g5, g6, g7⟩
          obtain ⟨f1, f2, f3, f4, f5, f6, f7⟩ := hG2
          have hE2 := f4
          unfold ADT at hE2
          obtain ⟨_, _, _, _, _, _, _, b8, b9, b10, _⟩ := hE2 r hr hm
          obtain ⟨v, v1, v2⟩ := q_placeOf (d := d') (by omega) h9 hr f6 b8 b9 e4
          have v2 : v = (s : Int) := by
            rcases v2 with ⟨_, v2⟩ | ⟨t, t1, t2, t3⟩
            · exact absurd s2 (v2 s s1)
            · rw [t2, cc_inj h5 t1 s1 (t3.trans s2.symm)]
          subst v2
          have eA : aw oo ((A : Int) * 32) = ((32 * A : Nat) : Int) := by rw [aw0 (by omega)]; omega
          rw [if_neg (by omega), if_pos (by rw [eA]; omega), eA, if_pos (by omega), if_pos (by omega), tn, tn, tn]
          clear eA
          rw [if_neg (by omega), if_neg (by omega), p2, b285_109, EqX_c p3 85 87 rfl, g6.1, if_neg (by omega), if_pos (by omega), tn, v1, b_I, if_pos (by omega), if_pos (by omega), tn, tn, b10, awp (show A < 1000000 by omega)]
          have rn : gD (wD (wC Sc 57 0 (32 * A) ((32 : Int).toNat) 56 0 ((0 : Int).toNat)) 58 0 A (r : Int)) 47 r 14 = ean E r := by
            rw [g_f (by decide), g_wCf (by decide)]
            exact e5
          rw [rn]
          refine ih (A + 1) m'' _ _ (by omega) (by omega) (by omega) (EqX_wA (EqX_wA (EqX_wcp xc (by decide)) (by decide)) (by decide)) (EqX_wA (EqX_tr xm1 (EqX_mo x3 (by decide) (by decide))) (by decide)) ⟨fun t ht => ?_, fun t ht => ?_⟩ (fun k t hk ht => ?_) (fun k hk => ?_) ?_
          · rw [g_i, g_i, g_f (by decide), g_f (by decide), EqX_a p3 153 rfl, EqX_a l3 153 rfl, hv.1 t ht, g_wCf (by decide)]
          · rw [g_i, g_f (by decide), g_wCf (by decide)]
            by_cases q : t = s
            · rw [if_pos q]; omega
            · rw [if_neg q]; exact hv.2 t ht
          · rw [g_f (by decide), g_f (by decide), g_f (by decide), g_f (by decide), g_wC]
            by_cases q : k = A
            · subst q
              rw [if_pos ⟨rfl, rfl, by omega, by show _ < 32 * k + 32; omega⟩, p4 t ht, EqX_a l3 153 rfl, hv.1 t ht, show (0 : Int).toNat + (32 * k + t - 32 * k) = t by show 0 + _ = _; omega]
            · rw [if_neg (by omega), p5 _ (by omega), EqX_a l3 161 rfl]
              exact hp k t (by omega) ht
          · rw [g_f (by decide), g_i, g_f (by decide), g_i]
            by_cases q : k = A
            · rw [if_pos q, if_pos q]
            · rw [if_neg q, if_neg q, EqX_a p3 162 rfl, EqX_a l3 162 rfl, g_wCf (by decide)]
              exact hq k (by omega)
          · rw [g_f (by decide), g_f (by decide), EqX_c p3 85 63 rfl]
            exact l4
    · rw [if_neg (by omega), if_neg (by omega)]
      have hC1 : CSt D S0 Sc := CSt_fr (AgX xc rfl) hC
      obtain ⟨S1, k1, k2, k3, k4, k5⟩ := q_keep (d := d - 1) (row := row) (by omega) rfl h10 hC1 (fun t ht => (EqX_a xc 67 rfl 0 t).trans (hrow t ht))
      obtain ⟨S2, l1, l2, l3, l4⟩ := w_keepR (K := EE false (d - 1)) (c := c) hA 999999 c S1 (Nat.le_refl c) (by omega) (by omega) EqX_rf (by rw [k4, Nat.sub_self]; rfl) (fun j hj => by omega)
      have c2 := (E13 (d := d) (by omega) Sc (c : Int) (A : Int)).trans (b13_0 oo (EE false (d - 1)) 999999 Sc (c : Int) (A : Int))
      rw [k1, b_V] at c2
      have c3 := c2.trans l1
      have e1 : aw oo ((A : Int) - (c : Int)) = ((A - c : Nat) : Int) := by rw [aw0 (by omega)]; omega
      rw [c3, b_V, e1]
      clear e1
      obtain ⟨S3, p1, p2, p3⟩ := w_keepM (K := EE false d') (c := c) hA m c (wD Sm 85 0 96 ((A - c : Nat) : Int)) (Nat.le_refl c) (by omega) (by omega) EqX_rf (fun j hj => by omega)
      rw [p1]
      refine ⟨(c : Int), _, S2, S3, rfl, rfl, ?_, Or.inr ⟨A - c, by omega, by omega, by omega, rfl, EqX_tr (EqX_mo xc (by decide) (by decide)) (EqX_tr (EqX_mo k2 (by decide) (by decide)) (EqX_mo l2 (by decide) (by decide))), EqX_tr (EqX_wC (EqX_mo xm (by decide) (by decide)) (by decide)) (EqX_mo p2 (by decide) (by decide)), l3, ?_, fun k hk => ?_, ?_, fun s hs => ?_⟩⟩
      · rw [EqX_c p2 85 63 rfl, g_k (by decide)]
        exact h0
      · rw [EqX_c p2 85 96 rfl, g_e]
      · rw [p3 k hk, l4 k hk, g_f (by decide), EqX_a k2 58 rfl]
        exact hq (c + k) (by omega)
      · rw [EqX_c l2 55 9 rfl]
        exact k3
      · rw [EqX_a l2 59 rfl, EqX_a l2 60 rfl]
        exact k5 s hs
end
