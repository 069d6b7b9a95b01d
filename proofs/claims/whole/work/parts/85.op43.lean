/-! the REFS of the rules that are looked at: class and reference number them alike -/
section
variable {d : Nat}
def hcB (D : DT) (c : Nat) : Bool := decide (0 < cnt (fF D c) 320)
theorem cnt_ex {p : Nat → Bool} : ∀ {n : Nat}, 0 < cnt p n → ∃ j, j < n ∧ p j = true
  | 0, h => absurd h (by show ¬ 0 < 0; omega)
  | n + 1, h => by
    cases hp : p n with
    | true => exact ⟨n, by omega, hp⟩
    | false =>
      rw [cnt_f hp] at h
      obtain ⟨j, h1, h2⟩ := cnt_ex h
      exact ⟨j, by omega, h2⟩
theorem cnt_in {p : Nat → Bool} {j n : Nat} (h : j < n) (hp : p j = true) : cnt p j < cnt p n := by
  have h1 := cnt_t hp
  have h2 := cnt_m (p := p) (show j + 1 ≤ n by omega)
  omega
theorem fF_e {D : DT} {c j : Nat} (h : fF D c j = true) : iF D j = true ∧ cel D j = c := by
  unfold fF at h
  have := (Bool.and_eq_true _ _).mp h
  exact ⟨this.1, of_decide_eq_true this.2⟩
theorem fF_i {D : DT} {c j : Nat} (h : iF D j = true) (h2 : cel D j = c) : fF D c j = true := by
  unfold fF
  rw [h, decide_eq_true h2]
  rfl
theorem hcB_i {D : DT} {j : Nat} (hj : j < 320) (h : iF D j = true) : hcB D (cel D j) = true := by
  unfold hcB
  have := cnt_in hj (fF_i h rfl)
  exact decide_eq_true (by omega)
theorem iF_bd {D : DT} {Sc Sm : SD} (hD : DAT D Sc Sm) {j : Nat} (hj : j < 320) (h : iF D j = true) : (dt D j : Int) < (gD Sc 3 0 10) ∧ df D j < 3 := by
  unfold DAT at hD
  obtain ⟨D1, D2, D3⟩ := hD
  obtain ⟨g1, g2⟩ := iF_e h
  have := D2 (j / 16) (j % 16) (by omega) g1 g2
  rw [show 16 * (j / 16) + j % 16 = j by omega] at this
  exact ⟨this.2.2.1, this.2.2.2.2.1⟩
def FRs (D : DT) (S0 S : SD) (J : Nat) : Prop := EqX [64] [] S0 S ∧ ∀ c : Nat, c < 120 → (gD S 64 0 c) = if 0 < cnt (fF D c) J then 0 else -1
theorem FRs_sk {D : DT} {S0 S : SD} {J J' : Nat} (hJ : J ≤ J') (h : ∀ c j, J ≤ j → j < J' → fF D c j = false) (q : FRs D S0 S J) : FRs D S0 S J' :=
  ⟨q.1, fun c hc => by rw [cnt_s hJ (h c)]; exact q.2 c hc⟩
theorem w_clr {K : KT} {bits : Int} {S0 : SD} : ∀ (n c : Nat) (S : SD), c ≤ 120 → 120 - c < n → EqX [64] [] S0 S → (∀ c', c' < c → (gD S 64 0 (c')) = -1) → ∃ m S', n ≤ m + 121 ∧ n = m + (121 - c) ∧ run oo K false mi_86 n 2 [(0, vr (some (62, 0))), (1, vi bits), (2, vi (c : Int))] [] S = run oo K false mi_86 m 23 [(0, vr (some (62, 0))), (1, vi bits), (2, vi 0)] [] S' ∧ EqX [64] [] S0 S' ∧ ∀ c', c' < 120 → (gD S' 64 0 (c')) = -1 := by
  intro n
  induction n with
  | zero => intro c S h1 h2; omega
  | succ n ih =>
    intro c S h1 h2 h3 h4
    rw [b86_2]
    by_cases hc : c < 120
    · rw [if_pos (by omega), if_pos (by omega), tn, awp (show c < 1000000 by omega)]
      obtain ⟨m, S', i1, i2, i3⟩ := ih (c + 1) (wD S 64 0 c (-1)) (by omega) (by omega) (EqX_wA h3 (by decide)) (fun c' hc' => by
        rw [g_i]
        by_cases e : c' = c
        · rw [if_pos e]
        · rw [if_neg e]; exact h4 c' (by omega))
      exact ⟨m, S', by omega, by omega, i3⟩
    · rw [if_neg (by omega)]
      exact ⟨n, S, by omega, by omega, rfl, h3, fun c' hc' => h4 c' (by omega)⟩
theorem w_mark {S0 Sm : SD} {D : DT} {bits : Int} (hd : 4 ≤ d) (hD : DAT D S0 Sm) (hb : ∀ r, r < 20 → ti bits r = dm D r) : ∀ n, (∀ (r : Nat) (S : SD), r ≤ 20 → 20 * (20 - r) < n → FRs D S0 S (16 * r) → ∃ m S', n ≤ m + 20 * (20 - r) ∧ run oo (EE false d) false mi_86 n 23 [(0, vr (some (62, 0))), (1, vi bits), (2, vi (r : Int))] [] S = run oo (EE false d) false mi_86 m 23 [(0, vr (some (62, 0))), (1, vi bits), (2, vi 20)] [] S' ∧ FRs D S0 S' 320) ∧ (∀ (r k : Nat) (S : SD), r < 20 → dm D r = true → k ≤ dn D r → 20 * (19 - r) + (18 - k) < n → FRs D S0 S (16 * r + k) → ∃ m S', n ≤ m + 20 * (19 - r) + (18 - k) ∧ run oo (EE false d) false mi_86 n 54 [(0, vr (some (62, 0))), (1, vi bits), (2, vi (r : Int)), (3, vr (some (47, r))), (4, vi (k : Int))] [] S = run oo (EE false d) false mi_86 m 23 [(0, vr (some (62, 0))), (1, vi bits), (2, vi 20)] [] S' ∧ FRs D S0 S' 320) := by
  have hD' := hD
  unfold DAT at hD'
  obtain ⟨D1, D2, D3, D4, D5, D6, D7, D8, D9⟩ := hD'
  intro n
  induction n using Nat.strongRecOn with
  | ind n ih =>
    refine ⟨fun r S h1 h2 h3 => ?_, fun r k S h1 h2 h3 h4 h5 => ?_⟩
    · by_cases c1 : r < 20
      · obtain ⟨m, rfl⟩ : ∃ m, n = m + 1 := ⟨n - 1, by omega⟩
        have x := h3.1
        rw [b86_23, if_pos (by omega), bit32 _ _ (by omega), hb r c1]
        cases hm : dm D r with
        | true =>
          obtain ⟨g1, g2, g3, g4⟩ := D1 r c1 hm
          rw [if_pos rfl, if_pos rfl, q_ruleAt1 (by omega) r (by rw [EqX_c x 41 8 rfl]; exact g1) c1, b_R1]
          obtain ⟨m', S', i1, i2⟩ := (ih m (by omega)).2 r 0 S c1 hm (by omega) (by omega) h3
          exact ⟨m', S', by omega, i2⟩
        | false =>
          rw [if_neg (by decide)]
          obtain ⟨m', rfl⟩ : ∃ m', m = m' + 1 := ⟨m - 1, by omega⟩
          rw [b86_54, awp (show r < 1000000 by omega)]
          obtain ⟨m2, S', i1, i2⟩ := (ih m' (by omega)).1 (r + 1) S (by omega) (by omega) (FRs_sk (by omega) (fun c => fF_r (c := c) (k := 0) (Or.inl hm)) h3)
          exact ⟨m2, S', by omega, i2⟩
      · have e : r = 20 := by omega
        subst e
        exact ⟨n, S, by omega, rfl, h3⟩
    · obtain ⟨m, rfl⟩ : ∃ m, n = m + 1 := ⟨n - 1, by omega⟩
      have x := h5.1
      obtain ⟨g1, g2, g3, g4⟩ := D1 r h1 h2
      have ef : (gD S 47 r 7) = (dn D r : Int) := (EqX_c x 47 7 rfl r).trans g2
      rw [b86_54a]
      by_cases c1 : k < dn D r
      · obtain ⟨f1, f2, f3, f4, f5, f6, f7, f8, f9⟩ := D2 r k h1 h2 c1
        have et : (gD S 49 r k) = (dt D (16 * r + k) : Int) := (EqX_a x 49 rfl r k).trans f2
        have ee : (gD S 50 r k) = (df D (16 * r + k) : Int) := (EqX_a x 50 rfl r k).trans f4
        have ec : ((dt D (16 * r + k) : Nat) : Int) * 3 + ((df D (16 * r + k) : Nat) : Int) = ((cel D (16 * r + k) : Nat) : Int) := by unfold cel; omega
        have hc120 : cel D (16 * r + k) < 120 := by unfold cel; omega
        have hI := iF_t h2 c1 (by omega)
        rw [if_pos (by rw [ef]; omega), q_factCell (by omega) r k _ _ (by rw [ef]; omega) (by omega) et ee (by omega) f5, b_I, ec, if_neg (by omega), if_pos (by omega), if_pos (by omega), tn, awp (show k < 1000000 by omega)]
        obtain ⟨m', S', i1, i2⟩ := (ih m (by omega)).2 r (k + 1) (wD S 64 0 (cel D (16 * r + k)) 0) h1 h2 (by omega) (by omega) ⟨EqX_wA h5.1 (by decide), fun c hc => by
          rw [g_i, show 16 * r + (k + 1) = 16 * r + k + 1 by omega]
          by_cases e : c = cel D (16 * r + k)
          · have := cnt_t (fF_i hI e.symm)
            rw [if_pos e, if_pos (by omega)]
          · have hn : fF D c (16 * r + k) = false := by
              cases hF : fF D c (16 * r + k) with
              | false => rfl
              | true => exact absurd (fF_e hF).2.symm e
            rw [if_neg e, cnt_f hn]
            exact h5.2 c hc⟩
        exact ⟨m', S', by omega, i2⟩
      · rw [if_neg (by rw [ef]; omega), awp (show r < 1000000 by omega)]
        obtain ⟨m', S', i1, i2⟩ := (ih m (by omega)).1 (r + 1) S (by omega) (by omega) (FRs_sk (by omega) (fun c => fF_r (c := c) (Or.inr (by omega))) h5)
        exact ⟨m', S', by omega, i2⟩
/-- the numbers of the REFS, up to a cell -/
def FNs (D : DT) (S0 S : SD) (c : Nat) : Prop := EqX [64, 63] [(62, 7)] S0 S ∧ (gD S 62 0 7) = (cnt (hcB D) c : Int) ∧ (∀ c' : Nat, c' < 120 → (gD S 64 0 (c')) = if hcB D c' then (if c' < c then (cnt (hcB D) c' : Int) else 0) else -1) ∧ ∀ c' : Nat, c' < c → hcB D c' = true → (gD S 63 0 (cnt (hcB D) c')) = (c' : Int)
theorem w_num {K : KT} {D : DT} {S0 : SD} : ∀ (n c : Nat) (S : SD), c ≤ 120 → 120 - c < n → cnt (hcB D) c ≤ 12 → FNs D S0 S c → ∃ S', run oo K false mi_86 n 114 [(0, vr (some (62, 0))), (2, vi (c : Int))] [] S = some (vi (if cnt (hcB D) 120 ≤ 12 then 1 else 0), S') ∧ EqX [64, 63] [(62, 7)] S0 S' ∧ (cnt (hcB D) 120 ≤ 12 → FNs D S0 S' 120) := by
  intro n
  induction n with
  | zero => intro c S h1 h2; omega
  | succ n ih =>
    intro c S h1 h2 h3 h4
    obtain ⟨q1, q2, q3, q4⟩ := h4
    rw [b86_114]
    by_cases hc : c < 120
    · have q3c := q3 c hc
      rw [if_pos (by omega), if_pos (by omega), tn]
      cases hh : hcB D c with
      | false =>
        have ec := cnt_f hh
        rw [hh, if_neg (by decide)] at q3c
        rw [if_pos q3c, awp (show c < 1000000 by omega)]
        refine ih (c + 1) S (by omega) (by omega) (by omega) ⟨q1, by rw [q2, ec], fun c' hc' => ?_, fun c' h5 h6 => ?_⟩
        · rw [q3 c' hc']
          by_cases e : c' = c
          · subst e; rw [hh]; rfl
          · cases hcB D c' with
            | false => rfl
            | true =>
              rw [if_pos rfl, if_pos rfl]
              by_cases e2 : c' < c
              · rw [if_pos e2, if_pos (by omega)]
              · rw [if_neg e2, if_neg (by omega)]
        · by_cases e : c' = c
          · subst e; rw [hh] at h6; cases h6
          · exact q4 c' (by omega) h6
      | true =>
        have ec := cnt_t hh
        rw [hh, if_pos rfl, if_neg (by omega)] at q3c
        rw [if_neg (by omega), q2]
        by_cases e12 : cnt (hcB D) c < 12
        · rw [if_pos (by omega), if_pos (by omega), if_pos (by omega), tn]
          simp (disch := decide) only [g_f, g_k, q2]
          rw [awp (show c < 1000000 by omega), aw0 (by omega)]
          refine ih (c + 1) _ (by omega) (by omega) (by omega) ⟨EqX_wC (EqX_wA (EqX_wA q1 (by decide)) (by decide)) (by decide), ?_, fun c' hc' => ?_, fun c' h5 h6 => ?_⟩
          · rw [g_e, ec]; omega
          · rw [g_f (by decide), g_i]
            by_cases e : c' = c
            · subst e
              rw [if_pos rfl, hh, if_pos rfl, if_pos (by omega)]
            · rw [if_neg e, g_f (by decide), q3 c' hc']
              cases hcB D c' with
              | false => rfl
              | true =>
                rw [if_pos rfl, if_pos rfl]
                by_cases e2 : c' < c
                · rw [if_pos e2, if_pos (by omega)]
                · rw [if_neg e2, if_neg (by omega)]
          · rw [g_f (by decide), g_f (by decide), g_i]
            by_cases e : c' = c
            · subst e; rw [if_pos rfl]
            · have := cnt_in (p := hcB D) (show c' < c by omega) h6
              rw [if_neg (by omega)]
              exact q4 c' (by omega) h6
        · have := cnt_m (p := hcB D) (show c + 1 ≤ 120 by omega)
          rw [if_neg (by omega), if_neg (by omega)]
          exact ⟨S, rfl, q1, fun q => absurd q (by omega)⟩
    · have e : c = 120 := by omega
      subst e
      rw [if_neg (by omega), if_pos h3]
      exact ⟨S, rfl, q1, fun _ => ⟨q1, q2, q3, q4⟩⟩
theorem q_findRefs {S0 Sm : SD} {D : DT} {bits : Int} (hd : 5 ≤ d) (hD : DAT D S0 Sm) (hb : ∀ r, r < 20 → ti bits r = dm D r) : ∃ S', EE false d 86 [vr (some (62, 0)), vi bits] S0 = some (vi (if cnt (hcB D) 120 ≤ 12 then 1 else 0), S') ∧ EqX [64, 63] [(62, 7)] S0 S' ∧ (cnt (hcB D) 120 ≤ 12 → FNs D S0 S' 120) := by
  obtain ⟨m1, S1, i1, i1', i2, i3, i4⟩ := w_clr (K := EE false (d - 1)) (bits := bits) (S0 := S0) 999999 0 S0 (by omega) (by omega) EqX_rf (fun c' h => by omega)
  obtain ⟨m2, S2, j1, j2, j3⟩ := (w_mark (d := d - 1) (by omega) hD hb m1).1 0 S1 (by omega) (by omega) ⟨i3, fun c hc => by
    rw [show cnt (fF D c) (16 * 0) = 0 from rfl, if_neg (by omega)]
    exact i4 c hc⟩
  obtain ⟨m3, rfl⟩ : ∃ m3, m2 = m3 + 1 := ⟨m2 - 1, by omega⟩
  obtain ⟨S3, k1, k2, k3⟩ := w_num (K := EE false (d - 1)) (D := D) (S0 := S0) m3 0 (wD S2 62 0 7 0) (by omega) (by omega) (by show 0 ≤ 12; omega) ⟨EqX_wC (EqX_mo j3.1 (by decide) (by decide)) (by decide), by rw [g_e]; rfl, fun c' hc' => by
    rw [g_f (by decide), j3.2 c' hc']
    unfold hcB
    by_cases e : 0 < cnt (fF D c') 320
    · rw [if_pos e, decide_eq_true e, if_pos rfl, if_neg (by omega)]
    · rw [if_neg e, decide_eq_false e, if_neg (by decide)], fun c' h => by omega⟩
  refine ⟨S3, ?_, k2, k3⟩
  rw [E86 (by omega), b86_0]
  refine i2.trans (j2.trans ?_)
  rw [b86_23, if_neg (by decide)]
  exact k1
end
