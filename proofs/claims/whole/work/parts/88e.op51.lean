/-! ring: the fields that rules set, on both sides -/
abbrev AT : Type := (Nat → Nat) × (Nat → Nat) × (Nat → Int)
def eat (E : AT) (r : Nat) : Nat := E.1 r
def eaf (E : AT) (r : Nat) : Nat := E.2.1 r
def ean (E : AT) (r : Nat) : Int := E.2.2 r
def ADT (D : DT) (E : AT) (Sc Sm : SD) : Prop := ∀ r : Nat, r < 20 → dm D r = true → (gD Sc 47 r 12) = (eat E r : Int) ∧ eat E r < 40 ∧ (gD Sc 47 r 13) = (eaf E r : Int) ∧ eaf E r < 3 ∧ (gD Sc 47 r 14) = ean E r ∧ -999999 ≤ ean E r ∧ ean E r ≤ 999999 ∧ (gD Sm 120 0 r) = (eat E r : Int) ∧ (gD Sm 121 0 r) = (eaf E r : Int) ∧ (gD Sm 122 0 r) = ean E r ∧ (r : Int) < (gD Sc 41 0 8)
def ADT_ac : List Nat := []
def ADT_cc : List (Nat × Nat) := [(41, 8), (47, 12), (47, 13), (47, 14)]
def ADT_am : List Nat := [120, 121, 122]
def ADT_cm : List (Nat × Nat) := []
theorem ADT_fr {Sc Sc' Sm Sm' : SD} {D : DT} {E : AT} (h : AgA ADT_ac ADT_cc Sc Sc') (h' : AgA ADT_am ADT_cm Sm Sm') (hI : ADT D E Sc Sm) : ADT D E Sc' Sm' := by
  have e1 : ∀ j, gD Sc' 41 j 8 = gD Sc 41 j 8 := h.2 (41, 8) (by decide)
  have e2 : ∀ j, gD Sc' 47 j 12 = gD Sc 47 j 12 := h.2 (47, 12) (by decide)
  have e3 : ∀ j, gD Sc' 47 j 13 = gD Sc 47 j 13 := h.2 (47, 13) (by decide)
  have e4 : ∀ j, gD Sc' 47 j 14 = gD Sc 47 j 14 := h.2 (47, 14) (by decide)
  have e5 : ∀ j k, gD Sm' 120 j k = gD Sm 120 j k := h'.1 120 (by decide)
  have e6 : ∀ j k, gD Sm' 121 j k = gD Sm 121 j k := h'.1 121 (by decide)
  have e7 : ∀ j k, gD Sm' 122 j k = gD Sm 122 j k := h'.1 122 (by decide)
  unfold ADT at *
  simp only [e1, e2, e3, e4, e5, e6, e7]
  exact hI
section
variable {d : Nat}
def eac (E : AT) (r : Nat) : Nat := 3 * eat E r + eaf E r
def hasS (cc : Nat → Nat) (U c : Nat) : Bool := decide (0 < cnt (fun s => decide (cc s = c)) U)
theorem hasS_t {cc : Nat → Nat} {U c : Nat} : hasS cc U c = true ↔ ∃ s, s < U ∧ cc s = c := by
  unfold hasS
  constructor
  · intro h
    obtain ⟨s, h1, h2⟩ := cnt_ex (of_decide_eq_true h)
    exact ⟨s, h1, of_decide_eq_true h2⟩
  · rintro ⟨s, h1, h2⟩
    have := cnt_in (p := fun s => decide (cc s = c)) h1 (decide_eq_true h2)
    exact decide_eq_true (by omega)
def tabs (mem : Nat → Bool) (ac : Nat → Nat) (R : Nat) (cl : Nat → Nat) : Nat → Nat × (Nat → Nat)
  | 0 => (R, cl)
  | r + 1 => if (mem r && !(hasS (tabs mem ac R cl r).2 (tabs mem ac R cl r).1 (ac r))) = true then ((tabs mem ac R cl r).1 + 1, fun s => if s = (tabs mem ac R cl r).1 then ac r else (tabs mem ac R cl r).2 s) else tabs mem ac R cl r
theorem tabs_f {mem : Nat → Bool} {ac : Nat → Nat} {R : Nat} {cl : Nat → Nat} {r : Nat} (h : mem r = false ∨ hasS (tabs mem ac R cl r).2 (tabs mem ac R cl r).1 (ac r) = true) : tabs mem ac R cl (r + 1) = tabs mem ac R cl r := by
  show (if _ then _ else _) = _
  rcases h with h | h <;> rw [h]
  · rfl
  · rw [Bool.not_true, Bool.and_false]
    rfl
theorem tabs_t {mem : Nat → Bool} {ac : Nat → Nat} {R : Nat} {cl : Nat → Nat} {r : Nat} (h1 : mem r = true) (h2 : hasS (tabs mem ac R cl r).2 (tabs mem ac R cl r).1 (ac r) = false) : tabs mem ac R cl (r + 1) = ((tabs mem ac R cl r).1 + 1, fun s => if s = (tabs mem ac R cl r).1 then ac r else (tabs mem ac R cl r).2 s) := by
  show (if _ then _ else _) = _
  rw [h1, h2]
  rfl
theorem tabs_sk {mem : Nat → Bool} {ac : Nat → Nat} {R : Nat} {cl : Nat → Nat} {a : Nat} : ∀ k, (∀ r, a ≤ r → r < a + k → mem r = false) → tabs mem ac R cl (a + k) = tabs mem ac R cl a
  | 0, _ => rfl
  | k + 1, h => by
    rw [show a + (k + 1) = a + k + 1 by omega, tabs_f (Or.inl (h (a + k) (by omega) (by omega))), tabs_sk k (fun r h1 h2 => h r h1 (by omega))]
theorem tabs_s {mem : Nat → Bool} {ac : Nat → Nat} {R : Nat} {cl : Nat → Nat} {a b : Nat} (hab : a ≤ b) (h : ∀ r, a ≤ r → r < b → mem r = false) : tabs mem ac R cl b = tabs mem ac R cl a := by
  have := tabs_sk (mem := mem) (ac := ac) (R := R) (cl := cl) (a := a) (b - a) (fun r h1 h2 => h r h1 (by omega))
  rw [show a + (b - a) = b by omega] at this
  exact this
theorem tabs_le {mem : Nat → Bool} {ac : Nat → Nat} {R : Nat} {cl : Nat → Nat} : ∀ r, (tabs mem ac R cl r).1 ≤ R + cnt mem r ∧ R ≤ (tabs mem ac R cl r).1 ∧ ∀ s, s < R → (tabs mem ac R cl r).2 s = cl s
  | 0 => ⟨Nat.le_refl _, Nat.le_refl _, fun _ _ => rfl⟩
  | r + 1 => by
    obtain ⟨h1, h2, h3⟩ := tabs_le (mem := mem) (ac := ac) (R := R) (cl := cl) r
    cases hm : mem r with
    | false => rw [tabs_f (Or.inl hm), cnt_f hm]; exact ⟨h1, h2, h3⟩
    | true =>
      cases hh : hasS (tabs mem ac R cl r).2 (tabs mem ac R cl r).1 (ac r) with
      | true => rw [tabs_f (Or.inr hh), cnt_t hm]; exact ⟨by omega, h2, h3⟩
      | false =>
        rw [tabs_t hm hh, cnt_t hm]
        refine ⟨by show _ + 1 ≤ _; omega, by show R ≤ _ + 1; omega, fun s hs => ?_⟩
        show (if s = _ then _ else _) = _
        rw [if_neg (by omega)]
        exact h3 s hs
theorem tabs_has {mem : Nat → Bool} {ac : Nat → Nat} {R : Nat} {cl : Nat → Nat} {q : Nat} (hq : mem q = true) : ∀ r, q < r → ∃ s, s < (tabs mem ac R cl r).1 ∧ (tabs mem ac R cl r).2 s = ac q
  | 0, h => by omega
  | r + 1, h => by
    by_cases e : q = r
    · subst e
      cases hh : hasS (tabs mem ac R cl q).2 (tabs mem ac R cl q).1 (ac q) with
      | true => rw [tabs_f (Or.inr hh)]; exact hasS_t.mp hh
      | false =>
        rw [tabs_t hq hh]
        exact ⟨(tabs mem ac R cl q).1, Nat.lt_succ_self _, by show (if _ then _ else _) = _; rw [if_pos rfl]⟩
    · obtain ⟨s, h1, h2⟩ := tabs_has hq r (by omega)
      cases hm : mem r with
      | false => rw [tabs_f (Or.inl hm)]; exact ⟨s, h1, h2⟩
      | true =>
        cases hh : hasS (tabs mem ac R cl r).2 (tabs mem ac R cl r).1 (ac r) with
        | true => rw [tabs_f (Or.inr hh)]; exact ⟨s, h1, h2⟩
        | false =>
          rw [tabs_t hm hh]
          refine ⟨s, by show s < _ + 1; omega, ?_⟩
          show (if s = _ then _ else _) = _
          rw [if_neg (by omega)]
          exact h2
/-- the slots of the class hold a table -/
def SLc (U : Nat) (cc : Nat → Nat) (S : SD) : Prop := (gD S 55 0 8) = (U : Int) ∧ (∀ s : Nat, s < U → cc s < 120 ∧ (gD S 64 0 (cc s)) = (s : Int)) ∧ ∀ c : Nat, c < 120 → (gD S 64 0 c) = -1 ∨ ∃ s, s < U ∧ cc s = c
def SLm (U : Nat) (cc : Nat → Nat) (S : SD) : Prop := (gD S 85 0 87) = (U : Int) ∧ ∀ s : Nat, s < U → (gD S 154 0 s) = ((cc s / 3 : Nat) : Int) ∧ (gD S 155 0 s) = ((cc s % 3 : Nat) : Int)
theorem w_give {Sc0 Sm : SD} {D : DT} {E : AT} {R : Nat} {cl : Nat → Nat} {bits : Int} (hE : ADT D E Sc0 Sm) (hb : ∀ r, r < 20 → ti bits r = dm D r) (h12 : R ≤ 12) (hd : 3 ≤ d) : ∀ (n r : Nat) (S : SD), r ≤ 20 → 20 - r < n → EqX [64] [(55, 8)] Sc0 S → SLc (tabs (dm D) (eac E) R cl r).1 (tabs (dm D) (eac E) R cl r).2 S → ∃ S', run oo (EE false d) false mi_5 n 2 [(0, vr (some (55, 0))), (1, vi bits), (2, vi (r : Int))] [] S = some (vi 0, S') ∧ EqX [64] [(55, 8)] Sc0 S' ∧ SLc (tabs (dm D) (eac E) R cl 20).1 (tabs (dm D) (eac E) R cl 20).2 S' := by
  intro n
  induction n with
  | zero => intro r S z1 z2; omega
  | succ n ih =>
    intro r S z1 z2 x h
    rw [b5_2]
    by_cases hr : r < 20
    · rw [if_pos (by omega), bit32 _ _ (by omega), hb r hr, awp (show r < 1000000 by omega)]
      cases hm : dm D r with
      | false =>
        rw [if_neg (by decide)]
        exact ih (r + 1) S (by omega) (by omega) x (by rw [tabs_f (Or.inl hm)]; exact h)
      | true =>
        have hE' := hE
        unfold ADT at hE'
        obtain ⟨e1, e2, e3, e4, e5, e6, e7, e8, e9, e10, e11⟩ := hE' r hr hm
        have ea : ((eat E r : Nat) : Int) * 3 + ((eaf E r : Nat) : Int) = ((eac E r : Nat) : Int) := by unfold eac; omega
        have h120 : eac E r < 120 := by unfold eac; omega
        obtain ⟨h1, h2, h3⟩ := h
        have hle := (tabs_le (mem := dm D) (ac := eac E) (R := R) (cl := cl) r).1
        have hc := cnt_le (p := dm D) r
        rw [if_pos (by decide), q_ruleAt1 (by omega) r (by rw [EqX_c x 41 8 rfl]; exact e11) hr, b_R1, q_actCell hd r _ _ ((EqX_c x 47 12 rfl r).trans e1) ((EqX_c x 47 13 rfl r).trans e3) e2 e4, b_I, ea, if_neg (by omega), if_pos (by omega), if_pos (by omega), tn, h1]
        cases hh : hasS (tabs (dm D) (eac E) R cl r).2 (tabs (dm D) (eac E) R cl r).1 (eac E r) with
        | true =>
          obtain ⟨s, s1, s2⟩ := hasS_t.mp hh
          have := (h2 s s1).2
          rw [s2] at this
          rw [if_neg (by omega)]
          exact ih (r + 1) S (by omega) (by omega) x (by rw [tabs_f (Or.inr hh)]; exact ⟨h1, h2, h3⟩)
        | false =>
          have hno : ¬ ∃ s, s < (tabs (dm D) (eac E) R cl r).1 ∧ (tabs (dm D) (eac E) R cl r).2 s = eac E r := fun q => by
            have := hasS_t.mpr q
            rw [hh] at this
            cases this
          have hm1 := (h3 _ h120).resolve_right hno
          rw [if_pos hm1, if_pos (by omega), if_pos (by omega), g_f (by decide), h1, awn (by omega)]
          refine ih (r + 1) _ (by omega) (by omega) (EqX_wC (EqX_wA x (by decide)) (by decide)) ?_
          rw [tabs_t hm hh]
          refine ⟨g_e, fun s hs => ?_, fun c hc => ?_⟩
          · rw [g_f (by decide), g_i]
            by_cases e : s = (tabs (dm D) (eac E) R cl r).1
            · simp only [e, if_true]
              exact ⟨h120, trivial⟩
            · have hs : s < (tabs (dm D) (eac E) R cl r).1 := by have hs : s < (tabs (dm D) (eac E) R cl r).1 + 1 := hs; omega
              simp only [e, if_false]
              have hne : (tabs (dm D) (eac E) R cl r).2 s ≠ eac E r := fun q => hno ⟨s, hs, q⟩
              simp only [hne, if_false]
              exact h2 s hs
          · rw [g_f (by decide), g_i]
            by_cases e : c = eac E r
            · refine Or.inr ⟨(tabs (dm D) (eac E) R cl r).1, Nat.lt_succ_self _, ?_⟩
              simp only [if_true]
              exact e.symm
            · rw [if_neg e]
              rcases h3 c hc with q | ⟨s, q1, q2⟩
              · exact Or.inl q
              · refine Or.inr ⟨s, by show s < _ + 1; omega, ?_⟩
                have hne : s ≠ (tabs (dm D) (eac E) R cl r).1 := by omega
                simp only [hne, if_false]
                exact q2
    · have e : r = 20 := by omega
      subst e
      rw [if_neg (by omega)]
      exact ⟨S, rfl, x, h⟩
theorem w_place {K : KT} {S : SD} {U a t f : Nat} {cc : Nat → Nat} (hU : U ≤ 32) (ha : a < 20) (h : SLm U cc S) (ht : (gD S 120 0 a) = (t : Int)) (hf : (gD S 121 0 a) = (f : Int)) (hf3 : f < 3) : ∀ n j, j ≤ U → U - j < n → (∀ s, s < j → cc s ≠ 3 * t + f) → ∃ v, run oo K false mi_282 n 2 [(0, vr (some (85, 0))), (1, vi (a : Int)), (2, vi (j : Int))] [] S = some (vi v, S) ∧ ((v = -1 ∧ ∀ s, s < U → cc s ≠ 3 * t + f) ∨ ∃ s : Nat, s < U ∧ v = (s : Int) ∧ cc s = 3 * t + f) := by
  intro n
  induction n with
  | zero => intro j z1 z2; omega
  | succ n ih =>
    intro j z1 z2 z3
    rw [b282_2, h.1]
    by_cases hj : j < U
    · obtain ⟨q1, q2⟩ := h.2 j hj
      rw [if_pos (by omega), if_pos (by omega), if_pos (by omega), tn, tn, q1, ht, awp (show j < 1000000 by omega)]
      by_cases c1 : ((cc j / 3 : Nat) : Int) = (t : Int)
      · rw [if_pos c1, if_pos (by omega), if_pos (by omega), q2, hf]
        by_cases c2 : ((cc j % 3 : Nat) : Int) = (f : Int)
        · rw [if_pos c2]
          exact ⟨(j : Int), rfl, Or.inr ⟨j, hj, rfl, by omega⟩⟩
        · rw [if_neg c2]
          exact ih (j + 1) (by omega) (by omega) (fun s hs => by
            by_cases e : s = j
            · subst e; omega
            · exact z3 s (by omega))
      · rw [if_neg c1]
        exact ih (j + 1) (by omega) (by omega) (fun s hs => by
          by_cases e : s = j
          · subst e; omega
          · exact z3 s (by omega))
    · have e : j = U := by omega
      subst e
      rw [if_neg (by omega)]
      exact ⟨-1, rfl, Or.inl ⟨rfl, z3⟩⟩
theorem q_placeOf {S : SD} {U a t f : Nat} {cc : Nat → Nat} (hd : 1 ≤ d) (hU : U ≤ 32) (ha : a < 20) (h : SLm U cc S) (ht : (gD S 120 0 a) = (t : Int)) (hf : (gD S 121 0 a) = (f : Int)) (hf3 : f < 3) : ∃ v, EE false d 282 [vr (some (85, 0)), vi (a : Int)] S = some (vi v, S) ∧ ((v = -1 ∧ ∀ s, s < U → cc s ≠ 3 * t + f) ∨ ∃ s : Nat, s < U ∧ v = (s : Int) ∧ cc s = 3 * t + f) := by
  rw [E282 hd, b282_0]
  exact w_place (K := EE false (d - 1)) hU ha h ht hf hf3 999999 0 (by omega) (by omega) (fun s h => by omega)
def Jq (D : DT) : Nat → Nat
  | 0 => 0
  | l + 1 => dk D l + 1
theorem Jq_sk {D : DT} {S0 Sm : SD} (hD : DAT D S0 Sm) {l : Nat} (hl : l ≤ dL D) (r : Nat) (h1 : Jq D l ≤ r) (h2 : r < 20) (h3 : l < dL D → r < dk D l) : dm D r = false := by
  cases hF : dm D r with
  | false => rfl
  | true =>
    exfalso
    have hD' := hD
    unfold DAT at hD'
    obtain ⟨m, m1, m2⟩ := hD'.2.2.2.2.2.2.1 r h2 hF
    by_cases c : m < l
    · cases l with
      | zero => omega
      | succ l =>
        have := dk_le hD (show m ≤ l by omega) (by omega)
        have h1 : dk D l + 1 ≤ r := h1
        omega
    · have := dk_le hD (show l ≤ m by omega) m1
      have := h3 (by omega)
      omega
theorem w_fieldA {K : KT} {S0 : SD} {D : DT} {R : Nat} (hR : cnt (hcB D) 120 = R) (h12 : R ≤ 12) : ∀ (n j : Nat) (S : SD), j ≤ R → R - j < n → EqX [154, 155] [(85, 87)] S0 S → GMd D S0 → SLm j (clD D) S → ∃ m S', n ≤ m + 13 ∧ run oo K false mi_281 n 7 [(0, vr (some (85, 0))), (1, vi (j : Int))] [] S = run oo K false mi_281 m 63 [(0, vr (some (85, 0))), (1, vi 0)] [] S' ∧ EqX [154, 155] [(85, 87)] S0 S' ∧ SLm R (clD D) S' := by
  suffices H : ∀ (n j : Nat) (S : SD), j ≤ R → R - j < n → EqX [154, 155] [(85, 87)] S0 S → GMd D S0 → SLm j (clD D) S → ∃ m S', n ≤ m + (R + 1 - j) ∧ run oo K false mi_281 n 7 [(0, vr (some (85, 0))), (1, vi (j : Int))] [] S = run oo K false mi_281 m 63 [(0, vr (some (85, 0))), (1, vi 0)] [] S' ∧ EqX [154, 155] [(85, 87)] S0 S' ∧ SLm R (clD D) S' from fun n j S a b c d e => by
    obtain ⟨m, S', i1, i2⟩ := H n j S a b c d e
    exact ⟨m, S', by omega, i2⟩
  intro n
  induction n with
  | zero => intro j S z1 z2; omega
  | succ n ih =>
    intro j S z1 z2 x hG h
    have hG' := GMd_fr x rfl rfl rfl rfl hG
    rw [b281_7, hG'.1, hR]
    by_cases hj : j < R
    · obtain ⟨q1, q2⟩ := hG'.2.1 j (by omega)
      rw [if_pos (by omega), if_pos (by omega), h.1, if_pos (by omega), if_pos (by omega), tn]
      simp (disch := decide) only [g_f, h.1, tn, q1, q2]
      rw [if_pos (by omega), awp (show j < 1000000 by omega), awn (by omega)]
      obtain ⟨m, S', i1, i2⟩ := ih (j + 1) _ (by omega) (by omega) (EqX_wC (EqX_wA (EqX_wA x (by decide)) (by decide)) (by decide)) hG (show SLm (j + 1) (clD D) (wD (wD (wD S 154 0 j ((clD D j / 3 : Nat) : Int)) 155 0 j ((clD D j % 3 : Nat) : Int)) 85 0 87 ((j + 1 : Nat) : Int)) from ⟨g_e, fun s hs => by
        rw [g_f (by decide), g_f (by decide), g_i, g_f (by decide), g_i]
        by_cases e : s = j
        · rw [if_pos e, if_pos e, e]; exact ⟨rfl, rfl⟩
        · rw [if_neg e, if_neg e]; exact h.2 s (by omega)⟩)
      exact ⟨m, S', by omega, i2⟩
    · have e : j = R := by omega
      subst e
      rw [if_neg (by omega)]
      exact ⟨n, S, by omega, rfl, x, h⟩
theorem w_fieldB {Sc S0 : SD} {D : DT} {E : AT} {R : Nat} {cl : Nat → Nat} (hD : DAT D Sc S0) (hE : ADT D E Sc S0) (h12 : R ≤ 12) (hd : 1 ≤ d) : ∀ (n l : Nat) (S : SD), l ≤ dL D → dL D - l < n → EqX [154, 155] [(85, 87)] S0 S → SLm (tabs (dm D) (eac E) R cl (Jq D l)).1 (tabs (dm D) (eac E) R cl (Jq D l)).2 S → ∃ S', run oo (EE false d) false mi_281 n 63 [(0, vr (some (85, 0))), (1, vi (l : Int))] [] S = some (vi 0, S') ∧ EqX [154, 155] [(85, 87)] S0 S' ∧ SLm (tabs (dm D) (eac E) R cl 20).1 (tabs (dm D) (eac E) R cl 20).2 S' := by
  have hD' := hD
  unfold DAT at hD'
  obtain ⟨D1, D2, D3, D4, D5, D6, D7, D8, D9⟩ := hD'
  have hE' := hE
  unfold ADT at hE'
  intro n
  induction n with
  | zero => intro l S z1 z2; omega
  | succ n ih =>
    intro l S z1 z2 x h
    have eL : (gD S 85 0 90) = (dL D : Int) := (EqX_c x 85 90 rfl 0).trans D3
    rw [b281_63, eL]
    by_cases c1 : l < dL D
    · obtain ⟨q1, q2, q3⟩ := D5 l c1
      have ek : (gD S 156 0 l) = (dk D l : Int) := (EqX_a x 156 rfl 0 l).trans q1
      obtain ⟨e1, e2, e3, e4, e5, e6, e7, e8, e9, e10, e11⟩ := hE' _ q2 q3
      have hJ : Jq D l ≤ dk D l := by
        cases l with
        | zero => exact Nat.zero_le _
        | succ l =>
          have := D6 l (l + 1) (by omega) c1
          show dk D l + 1 ≤ _
          omega
      rw [← tabs_s hJ (fun r a b => Jq_sk hD z1 r a (by omega) (fun _ => b))] at h
      have hle := (tabs_le (mem := dm D) (ac := eac E) (R := R) (cl := cl) (dk D l)).1
      have hc := cnt_le (p := dm D) (dk D l)
      have et : (gD S 120 0 (dk D l)) = (eat E (dk D l) : Int) := (EqX_a x 120 rfl 0 _).trans e8
      have ef : (gD S 121 0 (dk D l)) = (eaf E (dk D l) : Int) := (EqX_a x 121 rfl 0 _).trans e9
      obtain ⟨v, v1, v2⟩ := q_placeOf (d := d) hd (by omega) q2 h et ef e4
      rw [if_pos (by omega), if_pos (by omega), tn, ek, v1, b_I, awp (show l < 1000000 by omega)]
      rcases v2 with ⟨rfl, v2⟩ | ⟨s, v2, rfl, v3⟩
      · have hh : hasS (tabs (dm D) (eac E) R cl (dk D l)).2 (tabs (dm D) (eac E) R cl (dk D l)).1 (eac E (dk D l)) = false := by
          cases hh : hasS (tabs (dm D) (eac E) R cl (dk D l)).2 (tabs (dm D) (eac E) R cl (dk D l)).1 (eac E (dk D l)) with
          | false => rfl
          | true =>
            obtain ⟨s, s1, s2⟩ := hasS_t.mp hh
            exact absurd s2 (v2 s s1)
        have ea : eac E (dk D l) / 3 = eat E (dk D l) ∧ eac E (dk D l) % 3 = eaf E (dk D l) := by unfold eac; omega
        rw [if_pos (by omega), if_pos (by omega), ek, if_pos (by omega), h.1, if_pos (by omega), if_pos (by omega), tn]
        simp (disch := decide) only [g_f, h.1, tn, ek, et, ef]
        rw [if_pos (by omega), if_pos (by omega), awn (by omega)]
        refine ih (l + 1) _ (by omega) (by omega) (EqX_wC (EqX_wA (EqX_wA x (by decide)) (by decide)) (by decide)) ?_
        show SLm (tabs (dm D) (eac E) R cl (dk D l + 1)).1 (tabs (dm D) (eac E) R cl (dk D l + 1)).2 _
        rw [tabs_t q3 hh]
        refine ⟨g_e, fun s hs => ?_⟩
        rw [g_f (by decide), g_f (by decide), g_i, g_f (by decide), g_i]
        by_cases e : s = (tabs (dm D) (eac E) R cl (dk D l)).1
        · simp only [e, if_true, ea.1, ea.2]
          exact ⟨trivial, trivial⟩
        · simp only [e, if_false]
          exact h.2 s (by have hs : s < (tabs (dm D) (eac E) R cl (dk D l)).1 + 1 := hs; omega)
      · rw [if_neg (by omega)]
        refine ih (l + 1) S (by omega) (by omega) x ?_
        show SLm (tabs (dm D) (eac E) R cl (dk D l + 1)).1 (tabs (dm D) (eac E) R cl (dk D l + 1)).2 _
        rw [tabs_f (Or.inr (hasS_t.mpr ⟨s, v2, v3⟩))]
        exact h
    · have e : l = dL D := by omega
      subst e
      rw [if_neg (by omega)]
      have hJ : Jq D (dL D) ≤ 20 := by
        cases hh : dL D with
        | zero => exact Nat.zero_le _
        | succ l =>
          have := (D5 l (by omega)).2.1
          show dk D l + 1 ≤ _
          omega
      rw [← tabs_s hJ (fun r a b => Jq_sk hD z1 r a b (fun q => absurd q c1))] at h
      exact ⟨S, rfl, x, h⟩
theorem q_fieldsOf {Sc S0 : SD} {D : DT} {E : AT} {R : Nat} (hD : DAT D Sc S0) (hE : ADT D E Sc S0) (hG : GMd D S0) (hR : cnt (hcB D) 120 = R) (h12 : R ≤ 12) (hd : 2 ≤ d) : ∃ S', EE false d 281 [vr (some (85, 0))] S0 = some (vi 0, S') ∧ EqX [154, 155] [(85, 87)] S0 S' ∧ SLm (tabs (dm D) (eac E) R (clD D) 20).1 (tabs (dm D) (eac E) R (clD D) 20).2 S' := by
  have hD' := hD
  unfold DAT at hD'
  have hL := hD'.2.2.2.1
  obtain ⟨m, S1, i1, i2, i3, i4⟩ := w_fieldA (K := EE false (d - 1)) hR h12 999999 0 (wD S0 85 0 87 0) (by omega) (by omega) (EqX_wC EqX_rf (by decide)) hG ⟨by rw [g_e]; rfl, fun s h => by omega⟩
  obtain ⟨S2, j1, j2⟩ := w_fieldB (d := d - 1) (cl := clD D) (R := R) hD hE h12 (by omega) m 0 S1 (by omega) (by omega) i3 i4
  refine ⟨S2, ?_, j2⟩
  rw [E281 (by omega), b281_0]
  exact i2.trans j1
end
