/-! the REFS of the rules that are looked at: the reference -/
section
variable {d : Nat}
def GSm (D : DT) (S0 S : SD) (c J : Nat) : Prop := EqX [149, 147, 148] [(85, 79)] S0 S ∧ (gD S 85 0 79) = (cnt (hcB D) c : Int) ∧ (∀ c' : Nat, c' < c → hcB D c' = true → (gD S 147 0 (cnt (hcB D) c')) = ((c' / 3 : Nat) : Int) ∧ (gD S 148 0 (cnt (hcB D) c')) = ((c' % 3 : Nat) : Int)) ∧ ∀ j : Nat, j < 320 → iF D j = true → (cel D j < c ∨ (cel D j = c ∧ j < J)) → (gD S 149 0 j) = (cnt (hcB D) (cel D j) : Int)
theorem GSm_sk {D : DT} {S0 S : SD} {c J J' : Nat} (h : ∀ j, J ≤ j → j < J' → fF D c j = false) (q : GSm D S0 S c J) : GSm D S0 S c J' :=
  ⟨q.1, q.2.1, q.2.2.1, fun j h1 h2 h3 => by
    rcases h3 with h3 | h3
    · exact q.2.2.2 j h1 h2 (Or.inl h3)
    · by_cases e : j < J
      · exact q.2.2.2 j h1 h2 (Or.inr ⟨h3.1, e⟩)
      · have := h j (by omega) h3.2
        rw [fF_i h2 h3.1] at this
        cases this⟩
abbrev isJ (D : DT) (c J : Nat) : Int := if 0 < cnt (fF D c) J then 1 else 0
theorem w_gI {K : KT} {Sc S0 : SD} {D : DT} {t f c : Nat} (hD : DAT D Sc S0) (ht4 : t < 40) (hf3 : f < 3) (hc : c = 3 * t + f) (hcn : cnt (hcB D) c < 1000) : ∀ n, (∀ (l : Nat) (S : SD), l ≤ dL D → 60 * (dL D - l) < n → GSm D S0 S c (Jd D l) → ∃ m S', (n ≤ m + 60 * (dL D - l) ∧ m ≤ n) ∧ run oo K false mi_274 n 27 [(0, vr (some (85, 0))), (1, vi (t : Int)), (2, vi (f : Int)), (3, vi (isJ D c (Jd D l))), (4, vi (l : Int))] [] S = run oo K false mi_274 m 27 [(0, vr (some (85, 0))), (1, vi (t : Int)), (2, vi (f : Int)), (3, vi (isJ D c 320)), (4, vi (dL D : Int))] [] S' ∧ GSm D S0 S' c 320) ∧ (∀ (l k : Nat) (S : SD), l < dL D → k ≤ dn D (dk D l) → 60 * (dL D - l - 1) + 2 * (16 - k) + 3 < n → GSm D S0 S c (16 * dk D l + k) → ∃ m S', (n ≤ m + 60 * (dL D - l - 1) + 2 * (16 - k) + 3 ∧ m ≤ n) ∧ run oo K false mi_274 n 48 [(0, vr (some (85, 0))), (1, vi (t : Int)), (2, vi (f : Int)), (3, vi (isJ D c (16 * dk D l + k))), (4, vi (l : Int)), (5, vi ((16 * dk D l + k : Nat) : Int))] [] S = run oo K false mi_274 m 27 [(0, vr (some (85, 0))), (1, vi (t : Int)), (2, vi (f : Int)), (3, vi (isJ D c 320)), (4, vi (dL D : Int))] [] S' ∧ GSm D S0 S' c 320) := by
  have hD' := hD
  unfold DAT at hD'
  obtain ⟨D1, D2, D3, D4, D5, D6, D7, D8, D9⟩ := hD'
  have fn : ∀ j, iF D j = false → fF D c j = false := fun j h => by unfold fF; rw [h]; rfl
  intro n
  induction n using Nat.strongRecOn with
  | ind n ih =>
    refine ⟨fun l S h1 h2 h3 => ?_, fun l k S h1 h2 h4 h5 => ?_⟩
    · by_cases c1 : l < dL D
      · obtain ⟨m, rfl⟩ : ∃ m, n = m + 1 := ⟨n - 1, by omega⟩
        have x := h3.1
        obtain ⟨q1, q2, q3⟩ := D5 l c1
        have eL : (gD S 85 0 90) = (dL D : Int) := (EqX_c x 85 90 rfl 0).trans D3
        have ek : (gD S 156 0 l) = (dk D l : Int) := (EqX_a x 156 rfl 0 l).trans q1
        rw [b274_27, eL, if_pos (by omega), if_pos (by omega), tn, ek, aw0 (by omega)]
        have hs : ∀ j, Jd D l ≤ j → j < 16 * dk D l → fF D c j = false := fun j a b => fn j (Jd_sk hD h1 j a (by omega) (fun _ => b))
        have hJ : Jd D l ≤ 16 * dk D l := by
          cases l with
          | zero => exact Nat.zero_le _
          | succ l =>
            have := D6 l (l + 1) (by omega) c1
            show 16 * dk D l + 16 ≤ _
            omega
        obtain ⟨m', S', i1, i2, i3⟩ := (ih m (by omega)).2 l 0 S c1 (by omega) (by omega) (GSm_sk hs h3)
        refine ⟨m', S', by omega, ?_, i3⟩
        rw [← i2, show ((16 * dk D l + 0 : Nat) : Int) = 16 * ((dk D l : Nat) : Int) by omega, Nat.add_zero]
        unfold isJ
        rw [cnt_s hJ hs]
      · have e : l = dL D := by omega
        subst e
        have hs : ∀ j, Jd D (dL D) ≤ j → j < 320 → fF D c j = false := fun j a b => fn j (Jd_sk hD h1 j a b (fun q => absurd q c1))
        have hJ : Jd D (dL D) ≤ 320 := by
          cases hh : dL D with
          | zero => exact Nat.zero_le _
          | succ l =>
            have := (D5 l (by omega)).2.1
            show 16 * dk D l + 16 ≤ _
            omega
        refine ⟨n, S, by omega, ?_, GSm_sk hs h3⟩
        unfold isJ
        rw [cnt_s hJ hs]
    · obtain ⟨m, rfl⟩ : ∃ m, n = m + 1 := ⟨n - 1, by omega⟩
      have x := h5.1
      obtain ⟨q1, q2, q3⟩ := D5 l h1
      obtain ⟨g1, g2, g3, g4⟩ := D1 _ q2 q3
      have ek : (gD S 156 0 l) = (dk D l : Int) := (EqX_a x 156 rfl 0 l).trans q1
      have ef : (gD S 123 0 (dk D l)) = (dn D (dk D l) : Int) := (EqX_a x 123 rfl 0 _).trans g4
      rw [b274_48, if_pos (by omega), if_pos (by omega), tn, ek, if_pos (by omega), tn, ef, aw0 (z := 16 * ((dk D l : Nat) : Int)) (by omega), aw0 (by omega)]
      by_cases c1 : k < dn D (dk D l)
      · obtain ⟨f1, f2, f3, f4, f5, f6, f7, f8, f9, f10, f11⟩ := D2 _ k q2 q3 c1
        have hk16 : k < 16 := by omega
        have hj : 16 * dk D l + k < 320 := by omega
        have hI := iF_t q3 c1 hk16
        have et : (gD S 128 0 (16 * dk D l + k)) = (dt D (16 * dk D l + k) : Int) := (EqX_a x 128 rfl 0 _).trans f9
        have ee : (gD S 129 0 (16 * dk D l + k)) = (df D (16 * dk D l + k) : Int) := (EqX_a x 129 rfl 0 _).trans f10
        have e1 := awp (show 16 * dk D l + k < 1000000 by omega)
        rw [show 16 * dk D l + k + 1 = 16 * dk D l + (k + 1) by omega] at e1
        have b1 : (0 ≤ ((16 * dk D l + k : Nat) : Int) ∧ ((16 * dk D l + k : Nat) : Int) < 320) = True := eq_true (by omega)
        rw [if_pos (by omega)]
        simp only [b1, if_true, tn, et, ee, e1, h5.2.1]
        have skip : fF D c (16 * dk D l + k) = false → ∃ m' S', (m + 1 ≤ m' + 60 * (dL D - l - 1) + 2 * (16 - k) + 3 ∧ m' ≤ m + 1) ∧ run oo K false mi_274 m 48 [(0, vr (some (85, 0))), (1, vi (t : Int)), (2, vi (f : Int)), (3, vi (isJ D c (16 * dk D l + k))), (4, vi (l : Int)), (5, vi ((16 * dk D l + (k + 1) : Nat) : Int))] [] S = run oo K false mi_274 m' 27 [(0, vr (some (85, 0))), (1, vi (t : Int)), (2, vi (f : Int)), (3, vi (isJ D c 320)), (4, vi (dL D : Int))] [] S' ∧ GSm D S0 S' c 320 := fun hn => by
          have hc := cnt_f hn
          obtain ⟨m', S', i1, i2, i3⟩ := (ih m (by omega)).2 l (k + 1) S h1 (by omega) (by omega) (GSm_sk (fun j a b => by rw [show j = 16 * dk D l + k by omega]; exact hn) h5)
          unfold isJ at i2 ⊢
          rw [show 16 * dk D l + (k + 1) = 16 * dk D l + k + 1 by omega, hc] at i2
          exact ⟨m', S', by omega, i2, i3⟩
        by_cases c2 : cel D (16 * dk D l + k) = c
        · have hc3 : dt D (16 * dk D l + k) = t ∧ df D (16 * dk D l + k) = f := by unfold cel at c2; omega
          have hF := fF_i hI c2
          have hct := cnt_t hF
          rw [hc3.1, if_pos rfl, hc3.2, if_pos rfl]
          obtain ⟨m', S', i1, i2, i3⟩ := (ih m (by omega)).2 l (k + 1) (wD S 149 0 (16 * dk D l + k) (cnt (hcB D) c : Int)) h1 (by omega) (by omega) ⟨EqX_wA x (by decide), by rw [g_f (by decide)]; exact h5.2.1, fun c' a b => by rw [g_f (by decide), g_f (by decide)]; exact h5.2.2.1 c' a b, fun j a b e => by
            rw [g_i]
            by_cases ej : j = 16 * dk D l + k
            · rw [if_pos ej, ej, c2]
            · rw [if_neg ej]
              exact h5.2.2.2 j a b (e.elim Or.inl (fun q => Or.inr ⟨q.1, by omega⟩))⟩
          unfold isJ at i2 ⊢
          rw [show 16 * dk D l + (k + 1) = 16 * dk D l + k + 1 by omega, hct, if_pos (by omega)] at i2
          exact ⟨m', S', by omega, i2, i3⟩
        · have hF : fF D c (16 * dk D l + k) = false := by
            unfold fF
            rw [decide_eq_false c2, Bool.and_false]
          have s1 := skip hF
          by_cases a2 : ((dt D (16 * dk D l + k) : Nat) : Int) = (t : Int)
          · rw [if_pos a2, if_neg (fun q => c2 (by unfold cel; omega))]
            exact s1
          · rw [if_neg a2]
            exact s1
      · rw [if_neg (by omega), awp (show l < 1000000 by omega)]
        have hs : ∀ j, 16 * dk D l + k ≤ j → j < Jd D (l + 1) → fF D c j = false := fun j a b => fF_r (Or.inr (by omega)) j a (by have b : j < 16 * dk D l + 16 := b; omega)
        obtain ⟨m', S', i1, i2, i3⟩ := (ih m (by omega)).1 (l + 1) S (by omega) (by omega) (GSm_sk hs h5)
        refine ⟨m', S', by omega, ?_, i3⟩
        rw [← i2]
        unfold isJ
        rw [cnt_s (by show _ ≤ 16 * dk D l + 16; omega) hs]
theorem w_gO {K : KT} {Sc S0 : SD} {D : DT} {T : Nat} (hD : DAT D Sc S0) (hT : (gD Sc 3 0 10) = (T : Int)) : ∀ n, (∀ (t : Nat) (S : SD), t ≤ T → 5000 * (T - t) < n → cnt (hcB D) (3 * t) ≤ 12 → GSm D S0 S (3 * t) 0 → ∃ S', run oo K false mi_274 n 7 [(0, vr (some (85, 0))), (1, vi (t : Int))] [] S = some (vi (if cnt (hcB D) 120 ≤ 12 then 1 else 0), S') ∧ EqX [149, 147, 148] [(85, 79)] S0 S' ∧ (cnt (hcB D) 120 ≤ 12 → GSm D S0 S' 120 0)) ∧ (∀ (t f : Nat) (S : SD), t < T → f ≤ 3 → 5000 * (T - t - 1) + 1500 * (3 - f) + 3 < n → cnt (hcB D) (3 * t + f) ≤ 12 → GSm D S0 S (3 * t + f) 0 → ∃ S', run oo K false mi_274 n 17 [(0, vr (some (85, 0))), (1, vi (t : Int)), (2, vi (f : Int))] [] S = some (vi (if cnt (hcB D) 120 ≤ 12 then 1 else 0), S') ∧ EqX [149, 147, 148] [(85, 79)] S0 S' ∧ (cnt (hcB D) 120 ≤ 12 → GSm D S0 S' 120 0)) := by
  have hD' := hD
  unfold DAT at hD'
  obtain ⟨D1, D2, D3, D4, D5, D6, D7, D8, D9⟩ := hD'
  intro n
  induction n using Nat.strongRecOn with
  | ind n ih =>
    refine ⟨fun t S h1 h2 h3 h4 => ?_, fun t f S h1 h2 h3 h4 h5 => ?_⟩
    · obtain ⟨m, rfl⟩ : ∃ m, n = m + 1 := ⟨n - 1, by omega⟩
      have eT : (gD S 85 0 6) = (T : Int) := (EqX_c h4.1 85 6 rfl 0).trans (D9.trans hT)
      rw [b274_7, eT]
      by_cases c1 : t < T
      · rw [if_pos (by omega)]
        exact (ih m (by omega)).2 t 0 S c1 (by omega) (by omega) h3 h4
      · have e : t = T := by omega
        subst e
        have hz : ∀ c, 3 * t ≤ c → c < 120 → hcB D c = false := fun c a b => by
          cases hh : hcB D c with
          | false => rfl
          | true =>
            unfold hcB at hh
            obtain ⟨j, j1, j2⟩ := cnt_ex (of_decide_eq_true hh)
            obtain ⟨j3, j4⟩ := fF_e j2
            obtain ⟨j5, j6⟩ := iF_bd hD j1 j3
            unfold cel at j4
            omega
        have e2 := cnt_s (p := hcB D) (show 3 * t ≤ 120 by omega) hz
        rw [if_neg (by omega), if_pos (by omega)]
        refine ⟨S, rfl, h4.1, fun _ => ⟨h4.1, by rw [e2]; exact h4.2.1, fun c' a b => ?_, fun j a b e => h4.2.2.2 j a b (Or.inl ?_)⟩⟩
        · by_cases q : c' < 3 * t
          · exact h4.2.2.1 c' q b
          · rw [hz c' (by omega) a] at b
            cases b
        · obtain ⟨j5, j6⟩ := iF_bd hD a b
          unfold cel
          omega
    · obtain ⟨m, rfl⟩ : ∃ m, n = m + 1 := ⟨n - 1, by omega⟩
      rw [b274_17]
      by_cases c1 : f < 3
      · rw [if_pos (by omega)]
        obtain ⟨m', S', i1, i2, i3⟩ := (w_gI (K := K) (c := 3 * t + f) hD (by omega) c1 rfl (by omega) m).1 0 S (by omega) (by omega) h5
        have i2 : run oo K false mi_274 m 27 [(0, vr (some (85, 0))), (1, vi (t : Int)), (2, vi (f : Int)), (3, vi 0), (4, vi 0)] [] S = _ := i2
        rw [i2]
        obtain ⟨m2, rfl⟩ : ∃ m2, m' = m2 + 1 := ⟨m' - 1, by omega⟩
        have eL : (gD S' 85 0 90) = (dL D : Int) := (EqX_c i3.1 85 90 rfl 0).trans D3
        rw [b274_27, eL, if_neg (by omega)]
        cases hh : hcB D (3 * t + f) with
        | false =>
          have hz : cnt (fF D (3 * t + f)) 320 = 0 := by
            unfold hcB at hh
            have := of_decide_eq_false hh
            omega
          have ec := cnt_f hh
          rw [show isJ D (3 * t + f) 320 = 0 by unfold isJ; rw [hz]; rfl, if_pos rfl, awp (show f < 1000000 by omega)]
          refine (ih m2 (by omega)).2 t (f + 1) S' h1 (by omega) (by omega) (by rw [show 3 * t + (f + 1) = 3 * t + f + 1 by omega, ec]; exact h4) ⟨i3.1, by rw [show 3 * t + (f + 1) = 3 * t + f + 1 by omega, ec]; exact i3.2.1, fun c' a b => ?_, fun j a b e => ?_⟩
          · by_cases q : c' = 3 * t + f
            · rw [q, hh] at b; cases b
            · exact i3.2.2.1 c' (by omega) b
          · by_cases q : cel D j = 3 * t + f
            · have := cnt_in a (fF_i b q)
              omega
            · exact i3.2.2.2 j a b (Or.inl (by omega))
        | true =>
          have hz : 0 < cnt (fF D (3 * t + f)) 320 := by
            unfold hcB at hh
            exact of_decide_eq_true hh
          have ec := cnt_t hh
          have ec2 := cnt_m (p := hcB D) (show 3 * t + f + 1 ≤ 120 by omega)
          rw [show isJ D (3 * t + f) 320 = 1 by unfold isJ; rw [if_pos hz], if_neg (by decide), i3.2.1]
          by_cases e12 : cnt (hcB D) (3 * t + f) = 12
          · rw [if_pos (by omega), if_neg (by omega)]
            exact ⟨S', rfl, i3.1, fun q => absurd q (by omega)⟩
          · rw [if_neg (by omega), if_pos (by omega), tn]
            simp (disch := decide) only [g_f, g_k, i3.2.1]
            rw [if_pos (by omega), tn, awp (show f < 1000000 by omega), aw0 (by omega)]
            refine (ih m2 (by omega)).2 t (f + 1) _ h1 (by omega) (by omega) (by rw [show 3 * t + (f + 1) = 3 * t + f + 1 by omega, ec]; omega) ⟨EqX_wC (EqX_wA (EqX_wA i3.1 (by decide)) (by decide)) (by decide), ?_, fun c' a b => ?_, fun j a b e => ?_⟩
            · rw [g_e, show 3 * t + (f + 1) = 3 * t + f + 1 by omega, ec]; omega
            · rw [g_f (by decide), g_f (by decide), g_i, g_f (by decide), g_i]
              by_cases q : c' = 3 * t + f
              · rw [q, if_pos rfl, if_pos rfl]
                omega
              · have := cnt_in (p := hcB D) (show c' < 3 * t + f by omega) b
                rw [if_neg (by omega), if_neg (by omega)]
                exact i3.2.2.1 c' (by omega) b
            · rw [g_f (by decide), g_f (by decide), g_f (by decide)]
              by_cases q : cel D j = 3 * t + f
              · exact i3.2.2.2 j a b (Or.inr ⟨q, a⟩)
              · exact i3.2.2.2 j a b (Or.inl (by omega))
      · have e : f = 3 := by omega
        subst e
        rw [if_neg (by omega), awp (show t < 1000000 by omega)]
        exact (ih m (by omega)).1 (t + 1) S (by omega) (by omega) h4 h5
theorem q_gathers {Sc S0 : SD} {D : DT} (hd : 1 ≤ d) (hD : DAT D Sc S0) (hT0 : 0 ≤ (gD Sc 3 0 10)) : ∃ S', EE false d 274 [vr (some (85, 0))] S0 = some (vi (if cnt (hcB D) 120 ≤ 12 then 1 else 0), S') ∧ EqX [149, 147, 148] [(85, 79)] S0 S' ∧ (cnt (hcB D) 120 ≤ 12 → GSm D S0 S' 120 0) := by
  obtain ⟨T, hT⟩ := Int.eq_ofNat_of_zero_le hT0
  have hD' := hD
  unfold DAT at hD'
  have T4 := hD'.2.2.2.2.2.2.2.1
  rw [E274 hd, b274_0]
  exact (w_gO (K := EE false (d - 1)) hD hT 999999).1 0 (wD S0 85 0 79 0) (by omega) (by omega) (Nat.zero_le _) ⟨EqX_wC EqX_rf (by decide), by rw [g_e]; rfl, fun c' h => by omega, fun j _ _ e => by omega⟩
end
