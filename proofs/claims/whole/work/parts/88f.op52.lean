/-! ring: rules act from a row of numbers, on both sides -/
section
variable {d : Nat}
abbrev FCB : List Nat := [67, 56, 57, 58, 59, 60, 61]
abbrev FCC : List (Nat × Nat) := [(55, 9), (55, 10)]
abbrev FMB : List Nat := [152, 153, 161, 162, 134, 157, 158, 159, 160]
abbrev FMC : List (Nat × Nat) := [(85, 63), (85, 92), (85, 96)]
def RGs (D : DT) (E : AT) (U : Nat) (cc : Nat → Nat) (Sc Sm : SD) : Prop := IT Sc Sm ∧ (∀ r, r < 20 → dm D r = true → RR1 r Sc Sm ∧ RR2 r Sc Sm) ∧ DAT D Sc Sm ∧ ADT D E Sc Sm ∧ SLc U cc Sc ∧ SLm U cc Sm ∧ GMd D Sm ∧ (∀ c : Nat, c < 120 → hcB D c = true → (gD Sc 64 0 c) = (cnt (hcB D) c : Int)) ∧ U ≤ 32 ∧ cnt (hcB D) 120 ≤ 12 ∧ cnt (hcB D) 120 ≤ U ∧ ∀ r, dm D r = true → r < 20 → ∃ s, s < U ∧ cc s = eac E r
theorem RGs_fr {D : DT} {E : AT} {U : Nat} {cc : Nat → Nat} {Sc Sc' Sm Sm' : SD} (x1 : EqX FCB FCC Sc Sc') (x2 : EqX FMB FMC Sm Sm') (h : RGs D E U cc Sc Sm) : RGs D E U cc Sc' Sm' := by
  obtain ⟨h1, h2, h3, h4, ⟨h5, h6, h7⟩, ⟨h8, h9⟩, h10, h11, h12⟩ := h
  have e1 : ∀ k, (gD Sc' 64 0 k) = (gD Sc 64 0 k) := fun k => EqX_a x1 64 rfl 0 k
  refine ⟨IT_fr (AgX x1 rfl) (AgX x2 rfl) h1, fun r a b => ⟨RR1_fr (AgX x1 rfl) (AgX x2 rfl) (h2 r a b).1, RR2_fr (AgX x1 rfl) (AgX x2 rfl) (h2 r a b).2⟩, DAT_fr (AgX x1 rfl) (AgX x2 rfl) h3, ADT_fr (AgX x1 rfl) (AgX x2 rfl) h4, ⟨(EqX_c x1 55 8 rfl 0).trans h5, fun s hs => ?_, fun c hc => ?_⟩, ⟨(EqX_c x2 85 87 rfl 0).trans h8, fun s hs => ?_⟩, GMd_fr x2 rfl rfl rfl rfl h10, fun c a b => ?_, h12⟩
  · rw [e1]; exact h6 s hs
  · rw [e1]; exact h7 c hc
  · exact ⟨(EqX_a x2 154 rfl 0 s).trans (h9 s hs).1, (EqX_a x2 155 rfl 0 s).trans (h9 s hs).2⟩
  · rw [e1]; exact h11 c a b
def VCs (D : DT) (U : Nat) (Sc Sm : SD) : Prop := (∀ s : Nat, s < U → (gD Sm 153 0 s) = (gD Sc 56 0 s)) ∧ ∀ s : Nat, s < cnt (hcB D) 120 → (gD Sc 56 0 s) ≠ -1000000
theorem q_met {d' : Nat} {D : DT} {E : AT} {U : Nat} {cc : Nat → Nat} {Sc Sm : SD} (h : RGs D E U cc Sc Sm) (hv : VCs D U Sc Sm) (hd : 4 ≤ d) (hd' : 5 ≤ d') {r : Nat} (hr : r < 20) (hm : dm D r = true) : EE false d 9 [vr (some (55, 0)), vr (some (47, r))] Sc = some (vi (bi (HV Sc r (FN Sc r))), Sc) ∧ ∃ S', EE false d' 278 [vr (some (85, 0)), vi (r : Int)] Sm = some (vi (bi (HV Sc r (FN Sc r))), S') ∧ EqX [134] [(85, 63)] Sm S' ∧ (gD S' 85 0 63) = 0 := by
  obtain ⟨h1, h2, h3, h4, h5, h6, h7, h8, h9, h10, h11, h12⟩ := h
  have hs := SLT_of h3 h10 h8 h7 (fun s hs => ⟨hv.1 s (by omega), hv.2 s hs⟩) hr hm
  exact ⟨q_holds (d := d) h1 (h2 r hr hm).1 (h2 r hr hm).2 hs hd, q_isMet (h2 r hr hm).1 (h2 r hr hm).2 hr hs hd'⟩
/-- the rule acts -/
def ACs (D : DT) (E : AT) (U : Nat) (cc : Nat → Nat) (Sc : SD) (r : Nat) : Prop := dm D r = true ∧ ∃ s, s < U ∧ cc s = eac E r ∧ (gD Sc 56 0 s) ≠ ean E r ∧ HV Sc r (FN Sc r) = true
def LST (P : Nat → Prop) (N : Nat) (v : Int) : Prop := (v = -1 ∧ ∀ k, k < N → ¬ P k) ∨ ∃ k : Nat, k < N ∧ v = (k : Int) ∧ P k ∧ ∀ j, j < k → ¬ P j
theorem LST_un {P : Nat → Prop} {N : Nat} {v w : Int} (h1 : LST P N v) (h2 : LST P N w) : v = w := by
  rcases h1 with ⟨h1, h3⟩ | ⟨k, h1, h3, h4, h5⟩
  · rcases h2 with ⟨h2, h6⟩ | ⟨l, h2, h6, h7, h8⟩
    · omega
    · exact absurd h7 (h3 l h2)
  · rcases h2 with ⟨h2, h6⟩ | ⟨l, h2, h6, h7, h8⟩
    · exact absurd h4 (h6 k h1)
    · by_cases c : k < l
      · exact absurd h4 (h8 k c)
      · by_cases c2 : l < k
        · exact absurd h7 (h5 l c2)
        · omega
theorem cc_inj {U : Nat} {cc : Nat → Nat} {S : SD} (h : SLc U cc S) {s t : Nat} (hs : s < U) (ht : t < U) (e : cc s = cc t) : s = t := by
  have h1 := (h.2.1 s hs).2
  have h2 := (h.2.1 t ht).2
  rw [e] at h1
  omega
theorem w_next {d' : Nat} {D : DT} {E : AT} {U : Nat} {cc : Nat → Nat} {Sc Sm : SD} {bits : Int} (h : RGs D E U cc Sc Sm) (hv : VCs D U Sc Sm) (hb : ∀ r, r < 20 → ti bits r = dm D r) (hd : 4 ≤ d) (hd' : 5 ≤ d') : ∀ n r, r ≤ 20 → 20 - r < n → (∀ q, q < r → ¬ ACs D E U cc Sc q) → ∃ v, run oo (EE false d) false mi_10 n 2 [(0, vr (some (55, 0))), (1, vi bits), (2, vi (r : Int))] [] Sc = some (vi v, Sc) ∧ LST (ACs D E U cc Sc) 20 v := by
  have hh := h
  obtain ⟨h1, h2, h3, h4, h5, h6, h7, h8, h9, h10, h11, h12⟩ := hh
  intro n
  induction n with
  | zero => intro r z1 z2; omega
  | succ n ih =>
    intro r z1 z2 z3
    rw [b10_2]
    by_cases hr : r < 20
    · rw [if_pos (by omega), bit32 _ _ (by omega), hb r hr, awp (show r < 1000000 by omega)]
      have skip : ¬ ACs D E U cc Sc r → ∃ v, run oo (EE false d) false mi_10 n 2 [(0, vr (some (55, 0))), (1, vi bits), (2, vi ((r + 1 : Nat) : Int))] [] Sc = some (vi v, Sc) ∧ LST (ACs D E U cc Sc) 20 v := fun q => ih (r + 1) (by omega) (by omega) (fun k hk => by
        by_cases e : k = r
        · rw [e]; exact q
        · exact z3 k (by omega))
      cases hm : dm D r with
      | false =>
        rw [if_neg (by decide)]
        exact skip (fun q => by have := q.1; rw [hm] at this; cases this)
      | true =>
        have hE := h4
        unfold ADT at hE
        obtain ⟨e1, e2, e3, e4, e5, e6, e7, e8, e9, e10, e11⟩ := hE r hr hm
        have ea : ((eat E r : Nat) : Int) * 3 + ((eaf E r : Nat) : Int) = ((eac E r : Nat) : Int) := by unfold eac; omega
        have h120 : eac E r < 120 := by unfold eac; omega
        obtain ⟨s, s1, s2⟩ := h12 r hm hr
        have hsl := (h5.2.1 s s1).2
        rw [s2] at hsl
        rw [if_pos (by decide), q_ruleAt1 (by omega) r e11 hr, b_R1, q_actCell (by omega) r _ _ e1 e3 e2 e4, b_I, ea, q_slotOf (by omega) (eac E r) s h120 (by omega) hsl, b_I, if_neg (by omega), if_pos (by omega), tn, e5]
        by_cases c1 : (gD Sc 56 0 s) = ean E r
        · rw [if_pos c1]
          exact skip (fun ⟨_, t, t1, t2, t3, _⟩ => t3 (by rw [cc_inj h5 t1 s1 (t2.trans s2.symm)]; exact c1))
        · rw [if_neg c1, (q_met (d' := d') h hv hd hd' hr hm).1, b_I]
          cases hvv : HV Sc r (FN Sc r) with
          | false =>
            rw [if_pos (by decide)]
            exact skip (fun ⟨_, t, t1, t2, t3, t4⟩ => by rw [hvv] at t4; cases t4)
          | true =>
            rw [if_neg (by decide)]
            exact ⟨(r : Int), rfl, Or.inr ⟨r, hr, rfl, ⟨hm, s, s1, s2, c1, hvv⟩, z3⟩⟩
    · have e : r = 20 := by omega
      subst e
      rw [if_neg (by omega)]
      exact ⟨-1, rfl, Or.inl ⟨rfl, z3⟩⟩
theorem w_acting {d' : Nat} {D : DT} {E : AT} {U : Nat} {cc : Nat → Nat} {Sc : SD} (hd' : 5 ≤ d') : ∀ (n l : Nat) (Sm : SD), RGs D E U cc Sc Sm → VCs D U Sc Sm → l ≤ dL D → dL D - l < n → (∀ q, q < Jq D l → ¬ ACs D E U cc Sc q) → (gD Sm 85 0 63) = 0 → ∃ v S', run oo (EE false d') false mi_283 n 2 [(0, vr (some (85, 0))), (1, vi (l : Int))] [] Sm = some (vi v, S') ∧ LST (ACs D E U cc Sc) 20 v ∧ EqX [134] [(85, 63)] Sm S' ∧ (gD S' 85 0 63) = 0 := by
  intro n
  induction n with
  | zero => intro l Sm h hv z1 z2; omega
  | succ n ih =>
    intro l Sm h hv z1 z2 z3 z4
    have hh := h
    obtain ⟨h1, h2, h3, h4, h5, h6, h7, h8, h9, h10, h11, h12⟩ := hh
    have hD' := h3
    unfold DAT at hD'
    obtain ⟨D1, D2, D3, D4, D5, D6, D7, D8, D9⟩ := hD'
    rw [b283_2, D3]
    by_cases c1 : l < dL D
    · obtain ⟨q1, q2, q3⟩ := D5 l c1
      have hE := h4
      unfold ADT at hE
      obtain ⟨e1, e2, e3, e4, e5, e6, e7, e8, e9, e10, e11⟩ := hE _ q2 q3
      have hz : ∀ q, q < dk D l → ¬ ACs D E U cc Sc q := fun q hq => by
        by_cases c : q < Jq D l
        · exact z3 q c
        · intro hA
          have := Jq_sk h3 z1 q (by omega) (by omega) (fun _ => hq)
          rw [hA.1] at this
          cases this
      obtain ⟨s, s1, s2⟩ := h12 _ q3 q2
      obtain ⟨v, v1, v2⟩ := q_placeOf (d := d') (by omega) h9 q2 h6 e8 e9 e4
      have v2 : v = (s : Int) := by
        rcases v2 with ⟨_, v2⟩ | ⟨t, t1, t2, t3⟩
        · exact absurd s2 (v2 s s1)
        · rw [t2, cc_inj h5 t1 s1 (t3.trans s2.symm)]
      subst v2
      have hval := hv.1 s s1
      rw [if_pos (by omega), if_pos (by omega), tn, q1, v1, b_I, if_pos (by omega), if_pos (by omega), if_pos (by omega), tn, q1, tn, e10, hval, awp (show l < 1000000 by omega)]
      have skip : ∀ S1, EqX [134] [(85, 63)] Sm S1 → (gD S1 85 0 63) = 0 → ¬ ACs D E U cc Sc (dk D l) → ∃ v S', run oo (EE false d') false mi_283 n 2 [(0, vr (some (85, 0))), (1, vi ((l + 1 : Nat) : Int))] [] S1 = some (vi v, S') ∧ LST (ACs D E U cc Sc) 20 v ∧ EqX [134] [(85, 63)] Sm S' ∧ (gD S' 85 0 63) = 0 := fun S1 y1 y2 q => by
        obtain ⟨v, S', i1, i2, i3, i4⟩ := ih (l + 1) S1 (RGs_fr EqX_rf (EqX_mo y1 (by decide) (by decide)) h) ⟨fun s hs => (EqX_a y1 153 rfl 0 s).trans (hv.1 s hs), hv.2⟩ (by omega) (by omega) (fun k hk => by
          have hk : k < dk D l + 1 := hk
          by_cases e : k = dk D l
          · rw [e]; exact q
          · exact hz k (by omega)) y2
        exact ⟨v, S', i1, i2, EqX_tr y1 i3, i4⟩
      by_cases c2 : (gD Sc 56 0 s) = ean E (dk D l)
      · rw [if_pos c2]
        exact skip Sm EqX_rf z4 (fun ⟨_, t, t1, t2, t3, _⟩ => t3 (by rw [cc_inj h5 t1 s1 (t2.trans s2.symm)]; exact c2))
      · obtain ⟨S1, j1, j2, j3⟩ := (q_met (d := 4) (d' := d') h hv (by omega) hd' q2 q3).2
        rw [if_neg c2, if_pos (by omega), j1, b_I]
        cases hvv : HV Sc (dk D l) (FN Sc (dk D l)) with
        | false =>
          rw [if_pos (by decide)]
          exact skip S1 j2 j3 (fun ⟨_, t, t1, t2, t3, t4⟩ => by rw [hvv] at t4; cases t4)
        | true =>
          rw [if_neg (by decide), if_pos (by omega), EqX_a j2 156 rfl, q1]
          exact ⟨(dk D l : Int), S1, rfl, Or.inr ⟨dk D l, q2, rfl, ⟨q3, s, s1, s2, c2, hvv⟩, hz⟩, j2, j3⟩
    · rw [if_neg (by omega)]
      refine ⟨-1, Sm, rfl, Or.inl ⟨rfl, fun k hk hA => ?_⟩, EqX_rf, z4⟩
      by_cases c : k < Jq D l
      · exact z3 k c hA
      · have := Jq_sk h3 z1 k (by omega) hk (fun q => absurd q c1)
        rw [hA.1] at this
        cases this
def EQr (P V : Nat → Int) (U k : Nat) : Prop := ∀ s, s < U → P (32 * k + s) = V s
theorem awH {i s : Nat} (h : i ≤ 200 ∧ s < 33) : aw oo (aw oo ((i : Int) * 32) + (s : Int)) = ((32 * i + s : Nat) : Int) := by rw [aw0 (z := (i : Int) * 32) (by omega), aw0 (by omega)]; omega
theorem awG {i s : Nat} (h : i ≤ 200 ∧ s < 33) : aw oo (aw oo (32 * (i : Int)) + (s : Int)) = ((32 * i + s : Nat) : Int) := by rw [aw0 (z := 32 * (i : Int)) (by omega), aw0 (by omega)]; omega
theorem w_seen {K : KT} {S : SD} {U A : Nat} (hU : U ≤ 32) (hA : A ≤ 200) (hu : (gD S 55 0 8) = (U : Int)) : ∀ n, (∀ i, i ≤ A → 40 * (A - i) < n → (∀ k, k < i → ¬ EQr (fun j => (gD S 57 0 j)) (fun j => (gD S 56 0 j)) U k) → ∃ v, run oo K false mi_12 n 2 [(0, vr (some (55, 0))), (1, vi (A : Int)), (2, vi (i : Int))] [] S = some (vi v, S) ∧ LST (EQr (fun j => (gD S 57 0 j)) (fun j => (gD S 56 0 j)) U) A v) ∧ (∀ i s, i < A → s ≤ U → 40 * (A - i - 1) + (34 - s) < n → (∀ k, k < i → ¬ EQr (fun j => (gD S 57 0 j)) (fun j => (gD S 56 0 j)) U k) → (∀ t, t < s → (gD S 57 0 (32 * i + t)) = (gD S 56 0 t)) → ∃ v, run oo K false mi_12 n 16 [(0, vr (some (55, 0))), (1, vi (A : Int)), (2, vi (i : Int)), (3, vi (s : Int))] [] S = some (vi v, S) ∧ LST (EQr (fun j => (gD S 57 0 j)) (fun j => (gD S 56 0 j)) U) A v) := by
  intro n
  induction n with
  | zero => exact ⟨fun i z1 z2 => by omega, fun i s z1 z2 z3 => by omega⟩
  | succ n ih =>
    refine ⟨fun i z1 z2 z3 => ?_, fun i s z1 z2 z3 z4 z5 => ?_⟩
    · rw [b12_2]
      by_cases c : i < A
      · rw [if_pos (by omega), if_neg (by omega)]
        exact ih.2 i 0 c (by omega) (by omega) z3 (fun t h => by omega)
      · have e : i = A := by omega
        subst e
        rw [if_neg (by omega)]
        exact ⟨-1, rfl, Or.inl ⟨rfl, z3⟩⟩
    · rw [b12_16, hu]
      have nxt : ¬ EQr (fun j => (gD S 57 0 j)) (fun j => (gD S 56 0 j)) U i → ∃ v, run oo K false mi_12 n 2 [(0, vr (some (55, 0))), (1, vi (A : Int)), (2, vi ((i + 1 : Nat) : Int))] [] S = some (vi v, S) ∧ LST (EQr (fun j => (gD S 57 0 j)) (fun j => (gD S 56 0 j)) U) A v := fun q => ih.1 (i + 1) (by omega) (by omega) (fun k hk => by
        by_cases e : k = i
        · rw [e]; exact q
        · exact z4 k (by omega))
      by_cases c : s < U
      · rw [if_pos (by omega), if_pos (by omega), awH (by omega), if_pos (by omega), if_pos (by omega), tn, tn, awp (show s < 1000000 by omega)]
        by_cases q : (gD S 57 0 (32 * i + s)) = (gD S 56 0 s)
        · rw [if_pos q]
          exact ih.2 i (s + 1) z1 (by omega) (by omega) z4 (fun t ht => by
            by_cases e : t = s
            · rw [e]; exact q
            · exact z5 t (by omega))
        · rw [if_neg q, if_neg (by omega), awp (show i < 1000000 by omega)]
          exact nxt (fun h => q (h s c))
      · have e : s = U := by omega
        subst e
        rw [if_neg (by omega), if_pos (by omega)]
        exact ⟨(i : Int), rfl, Or.inr ⟨i, z1, rfl, fun t ht => z5 t ht, z4⟩⟩
theorem w_same {K : KT} {S : SD} {U A : Nat} (hU : U ≤ 32) (hA : A ≤ 200) (hu : (gD S 85 0 87) = (U : Int)) : ∀ n, (∀ i, i ≤ A → 40 * (A - i) < n → (∀ k, k < i → ¬ EQr (fun j => (gD S 161 0 j)) (fun j => (gD S 153 0 j)) U k) → ∃ v, run oo K false mi_284 n 2 [(0, vr (some (85, 0))), (1, vi (A : Int)), (2, vi (i : Int))] [] S = some (vi v, S) ∧ LST (EQr (fun j => (gD S 161 0 j)) (fun j => (gD S 153 0 j)) U) A v) ∧ (∀ i s, i < A → s ≤ U → 40 * (A - i - 1) + (35 - s) < n → (∀ k, k < i → ¬ EQr (fun j => (gD S 161 0 j)) (fun j => (gD S 153 0 j)) U k) → (∀ t, t < s → (gD S 161 0 (32 * i + t)) = (gD S 153 0 t)) → ∃ v, run oo K false mi_284 n 12 [(0, vr (some (85, 0))), (1, vi (A : Int)), (2, vi (i : Int)), (3, vi 1), (4, vi (s : Int))] [] S = some (vi v, S) ∧ LST (EQr (fun j => (gD S 161 0 j)) (fun j => (gD S 153 0 j)) U) A v) ∧ (∀ i s : Nat, i < A → 40 * (A - i - 1) + 1 < n → (∀ k, k ≤ i → ¬ EQr (fun j => (gD S 161 0 j)) (fun j => (gD S 153 0 j)) U k) → ∃ v, run oo K false mi_284 n 12 [(0, vr (some (85, 0))), (1, vi (A : Int)), (2, vi (i : Int)), (3, vi 0), (4, vi (s : Int))] [] S = some (vi v, S) ∧ LST (EQr (fun j => (gD S 161 0 j)) (fun j => (gD S 153 0 j)) U) A v) := by
  intro n
  induction n with
  | zero => exact ⟨fun i z1 z2 => by omega, fun i s z1 z2 z3 => by omega, fun i s z1 z2 => by omega⟩
  | succ n ih =>
    refine ⟨fun i z1 z2 z3 => ?_, fun i s z1 z2 z3 z4 z5 => ?_, fun i s z1 z2 z3 => ?_⟩
    · rw [b284_2]
      by_cases c : i < A
      · rw [if_pos (by omega)]
        exact ih.2.1 i 0 c (by omega) (by omega) z3 (fun t h => by omega)
      · have e : i = A := by omega
        subst e
        rw [if_neg (by omega)]
        exact ⟨-1, rfl, Or.inl ⟨rfl, z3⟩⟩
    · rw [b284_12, hu]
      by_cases c : s < U
      · rw [if_pos (by omega), if_neg (by decide), awG (by omega), if_pos (by omega), if_pos (by omega), tn, tn, awp (show s < 1000000 by omega)]
        by_cases q : (gD S 161 0 (32 * i + s)) = (gD S 153 0 s)
        · rw [if_pos q]
          exact ih.2.1 i (s + 1) z1 (by omega) (by omega) z4 (fun t ht => by
            by_cases e : t = s
            · rw [e]; exact q
            · exact z5 t (by omega))
        · rw [if_neg q]
          exact ih.2.2 i (s + 1) z1 (by omega) (fun k hk => by
            by_cases e : k = i
            · rw [e]; exact fun h => q (h s c)
            · exact z4 k (by omega))
      · have e : s = U := by omega
        subst e
        rw [if_neg (by omega), if_neg (by decide)]
        exact ⟨(i : Int), rfl, Or.inr ⟨i, z1, rfl, fun t ht => z5 t ht, z4⟩⟩
    · rw [b284_12, if_pos rfl, if_pos rfl, ite_self, awp (show i < 1000000 by omega)]
      exact ih.1 (i + 1) (by omega) (by omega) (fun k hk => z3 k (by omega))
theorem LST_cg {P Q : Nat → Prop} {N : Nat} {v : Int} (q : ∀ k, k < N → (P k ↔ Q k)) (h : LST P N v) : LST Q N v := by
  rcases h with ⟨h1, h3⟩ | ⟨k, h1, h3, h4, h5⟩
  · exact Or.inl ⟨h1, fun k hk hq => h3 k hk ((q k hk).mpr hq)⟩
  · exact Or.inr ⟨k, h1, h3, (q k h1).mp h4, fun j hj hq => h5 j hj ((q j (by omega)).mpr hq)⟩
end
