/-! rule: fields, numbers and signs on both sides -/
section
variable {d : Nat} {A B : Nat → Int} {n : Nat} {th : Int}
theorem btA {k : Nat} (hA : TAB A B) (hk : k < n) (c : Int) (hc : 0 ≤ c ∧ c < 128) : (A k = c) = (bt B n k = c) := by
  obtain ⟨a1, a2, a3⟩ := hA k
  have : bt B n k = B k := by unfold bt; rw [if_pos hk]
  rw [this]
  exact propext ⟨fun q => by omega, fun q => by omega⟩
theorem bt_hi {k : Nat} (hk : ¬ k < n) : bt B n k = -1 := by unfold bt; rw [if_neg hk]
def FOK (B : Nat → Int) (n : Nat) (p : Nat) : Bool := decide (bt B n p = 46) && (decide (bt B n (p + 1) = 102) && DOK B n 0 2 (p + 2))
def ffl (B : Nat → Int) (n : Nat) (p : Nat) : Int := if bt B n p = 46 then (if bt B n (p + 1) = 102 then dfl B n (p + 2) else 1 + 8 * ((p + 1 : Nat) : Int)) else 1 + 8 * (p : Int)
theorem q_fieldC {S : SD} {p : Nat} (hd : 3 ≤ d) (hn : n ≤ 200) (h : TPc B n S) (hp : p ≤ n) (hpl : (gD S 29 0 4) = (p : Int)) : ∃ S', EE false d 77 [vr (some (29, 0))] S = some (vi (bi (FOK B n p)), S') ∧ EqG [] [(29, 4), (29, 5), (29, 7), (29, 8)] S S' ∧ (FOK B n p = true → (gD S' 29 0 4) = (de B n (p + 2) : Int) ∧ (gD S' 29 0 7) = dnu B n (p + 2)) ∧ (FOK B n p = false → (gD S' 29 0 5) = ffl B n p) := by
  have c2 := (E77 (d := d) (by omega) S).trans (b77_0 oo (EE false (d - 1)) 999999 S)
  rw [hpl, q_byte (by omega) hn h, b_I] at c2
  unfold FOK ffl
  by_cases c1 : bt B n p = 46
  · rw [if_pos c1, hpl, awn (by omega), g_e, q_byte (by omega) hn (TPc_w h (by decide)), b_I] at c2
    rw [decide_eq_true c1, if_pos c1]
    by_cases c3 : bt B n (p + 1) = 102
    · rw [if_pos c3, g_e, awn (by omega), wD_ww, q_digC (p := p + 1 + 1) (by omega) hn (by omega) (TPc_w h (by decide)) g_e] at c2
      rw [decide_eq_true c3, if_pos c3]
      unfold FNc at c2
      cases hD : DOK B n 0 2 (p + 2) with
      | false =>
        rw [hD, if_neg (by decide), b_I, if_pos rfl] at c2
        refine ⟨_, c2, EqG_wC (EqG_wC (EqG_wC (EqG_wC EqG_rf (by decide)) (by decide)) (by decide)) (by decide), fun q => absurd q Bool.false_ne_true, fun _ => ?_⟩
        rw [g_e]
      | true =>
        rw [hD, if_pos rfl, b_I, if_neg (by decide)] at c2
        simp (disch := decide) only [g_k, g_e] at c2
        refine ⟨_, c2, EqG_wC (EqG_wC (EqG_wC (EqG_wC EqG_rf (by decide)) (by decide)) (by decide)) (by decide), fun _ => ?_, fun q => absurd (show true = false from q) (by decide)⟩
        rw [g_k (by decide), g_e, g_e]
        exact ⟨rfl, rfl⟩
    · rw [if_neg c3, g_e, q_fail (by omega) _ _ (by omega) (by omega), b_I, if_pos (Or.inl rfl), Int.add_zero] at c2
      rw [decide_eq_false c3, if_neg c3]
      refine ⟨_, c2, EqG_wC (EqG_wC EqG_rf (by decide)) (by decide), fun q => absurd q Bool.false_ne_true, fun _ => ?_⟩
      rw [g_e]
  · rw [if_neg c1, hpl, q_fail (by omega) _ _ (by omega) (by omega), b_I, if_pos (Or.inl rfl), Int.add_zero] at c2
    rw [decide_eq_false c1, if_neg c1]
    refine ⟨_, c2, EqG_wC EqG_rf (by decide), fun q => absurd q Bool.false_ne_true, fun _ => ?_⟩
    rw [g_e]
theorem q_refM {S : SD} {p : Nat} (hd : 4 ≤ d) (hn : n ≤ 200) (hA : TAB A B) (h : TPm A n S) (hp : p ≤ n) (hpl : (gD S 85 0 53) = (p : Int)) (ht : (gD S 85 0 6) = th) (h0 : (gD S 85 0 54) = 0) : ∃ S', EE false d 234 [vr (some (85, 0))] S = some (vi (bi (TOK B n th p && FOK B n (tnx B n p))), S') ∧ EqG [] [(85, 53), (85, 54), (85, 55), (85, 56), (85, 57)] S S' ∧ ((TOK B n th p && FOK B n (tnx B n p)) = true → (gD S' 85 0 53) = (de B n (tnx B n p + 2) : Int) ∧ (gD S' 85 0 55) = tvl B n p ∧ (gD S' 85 0 56) = dnu B n (tnx B n p + 2) ∧ (gD S' 85 0 54) = 0) ∧ ((TOK B n th p && FOK B n (tnx B n p)) = false → (gD S' 85 0 54) = if TOK B n th p then ffl B n (tnx B n p) else tfl B n p) := by
  have c2 := (E234 (d := d) (by omega) S).trans (b234_0 oo (EE false (d - 1)) 999999 S)
  obtain ⟨S1, i1, i2, i3, i4⟩ := q_thingM (d := d - 1) (by omega) hn hA h hp hpl ht h0
  rw [i1, b_I] at c2
  cases hT : TOK B n th p with
  | false =>
    rw [hT, if_pos (by decide)] at c2
    exact ⟨_, c2, EqG_mo i2 (by decide) (by decide), fun q => absurd q Bool.false_ne_true, fun _ => by rw [if_neg (by decide)]; exact i4 hT⟩
  | true =>
    obtain ⟨j1, j2, j3⟩ := i3 hT
    have h1 := TPm_G i2 rfl h
    have hw : WRD B n 2 p = true := by
      unfold TOK at hT
      exact ((Bool.and_eq_true _ _).mp hT).1
    have hs : skp B n p + 1 ≤ n := WRD_n (by decide) hw
    have hq : tnx B n p ≤ n := de_n hs
    generalize hqq : tnx B n p = q at *
    rw [hT, if_neg (by decide), j1, h1.1] at c2
    unfold FOK ffl
    rw [if_pos rfl]
    by_cases e0 : q < n
    · rw [if_pos (by omega), if_pos (by omega), tn, h1.2] at c2
      by_cases c1 : bt B n q = 46
      · rw [if_pos ((btA hA e0 46 (by decide)).mpr c1), awn (by omega)] at c2
        simp (disch := decide) only [g_k, g_e, g_f, h1.1] at c2
        rw [decide_eq_true c1, if_pos c1]
        by_cases e1 : q + 1 < n
        · rw [if_pos (by omega), if_pos (by omega), tn, h1.2] at c2
          by_cases c3 : bt B n (q + 1) = 102
          · rw [if_pos ((btA hA e1 102 (by decide)).mpr c3), awn (by omega), wD_ww, q_digM (p := q + 1 + 1) (by omega) hn hA (by omega) (TPm_w h1 (by decide)) (by rw [g_k (by decide)]; exact j3) g_e] at c2
            rw [decide_eq_true c3, if_pos c3]
            unfold FNm at c2
            cases hD : DOK B n 0 2 (q + 2) with
            | false =>
              rw [hD, if_neg (by decide), b_I, if_pos rfl] at c2
              refine ⟨_, c2, EqG_wC ?_ (by decide), fun q => absurd q Bool.false_ne_true, fun _ => ?_⟩
              · by_cases e : de B n (q + 1 + 1) = q + 1 + 1
                · rw [if_pos e]
                  exact EqG_wC (EqG_mo i2 (by decide) (by decide)) (by decide)
                · rw [if_neg e]
                  exact EqG_wC (EqG_wC (EqG_wC (EqG_mo i2 (by decide) (by decide)) (by decide)) (by decide)) (by decide)
              · rw [g_e]
            | true =>
              rw [hD, if_pos rfl, b_I, if_neg (by decide)] at c2
              simp (disch := decide) only [g_k, g_e] at c2
              refine ⟨_, c2, EqG_wC (EqG_wC (EqG_wC (EqG_wC (EqG_mo i2 (by decide) (by decide)) (by decide)) (by decide)) (by decide)) (by decide), fun _ => ?_, fun q => absurd (show true = false from q) (by decide)⟩
              simp (disch := decide) only [g_k, g_e]
              exact ⟨trivial, j2, trivial, j3⟩
          · rw [if_neg (fun q => c3 ((btA hA e1 102 (by decide)).mp q)), q_fails (by omega) 0 _ (by omega) (by omega) (by rw [g_k (by decide)]; exact j3), b_I, if_pos (Or.inl rfl), Int.add_zero] at c2
            rw [decide_eq_false c3, if_neg c3]
            refine ⟨_, c2, EqG_wC (EqG_wC (EqG_mo i2 (by decide) (by decide)) (by decide)) (by decide), fun q => absurd q Bool.false_ne_true, fun _ => ?_⟩
            rw [g_e]
        · have c3 : ¬ bt B n (q + 1) = 102 := by rw [bt_hi e1]; decide
          rw [if_neg (by omega), q_fails (by omega) 0 _ (by omega) (by omega) (by rw [g_k (by decide)]; exact j3), b_I, if_pos (Or.inl rfl), Int.add_zero] at c2
          rw [decide_eq_false c3, if_neg c3]
          refine ⟨_, c2, EqG_wC (EqG_wC (EqG_mo i2 (by decide) (by decide)) (by decide)) (by decide), fun q => absurd q Bool.false_ne_true, fun _ => ?_⟩
          rw [g_e]
      · rw [if_neg (fun q => c1 ((btA hA e0 46 (by decide)).mp q)), q_fails (by omega) 0 _ (by omega) (by omega) j3, b_I, if_pos (Or.inl rfl), Int.add_zero] at c2
        rw [decide_eq_false c1, if_neg c1]
        refine ⟨_, c2, EqG_wC (EqG_mo i2 (by decide) (by decide)) (by decide), fun q => absurd q Bool.false_ne_true, fun _ => ?_⟩
        rw [g_e]
    · have c1 : ¬ bt B n q = 46 := by rw [bt_hi e0]; decide
      rw [if_neg (by omega), q_fails (by omega) 0 _ (by omega) (by omega) j3, b_I, if_pos (Or.inl rfl), Int.add_zero] at c2
      rw [decide_eq_false c1, if_neg c1]
      refine ⟨_, c2, EqG_wC (EqG_mo i2 (by decide) (by decide)) (by decide), fun q => absurd q Bool.false_ne_true, fun _ => ?_⟩
      rw [g_e]
/-- a count from 1 to 60 -/
abbrev NOK (B : Nat → Int) (n : Nat) (p : Nat) : Bool := DOK B n 1 60 (skp B n p)
theorem q_nC {S : SD} {p : Nat} (hd : 3 ≤ d) (hn : n ≤ 200) (h : TPc B n S) (hp : p ≤ n) (hpl : (gD S 29 0 4) = (p : Int)) : ∃ S', EE false d 78 [vr (some (29, 0))] S = some (vi (bi (NOK B n p)), S') ∧ EqG [] [(29, 4), (29, 5), (29, 8)] S S' ∧ (NOK B n p = true → (gD S' 29 0 4) = (de B n (skp B n p) : Int) ∧ (gD S' 29 0 8) = dnu B n (skp B n p)) ∧ (NOK B n p = false → (gD S' 29 0 5) = dfl B n (skp B n p)) := by
  have hs := sk_n (B := B) hp
  have c2 := (E78 (d := d) (by omega) S).trans (b78_0 oo (EE false (d - 1)) 999999 S)
  rw [q_skipC (by omega) hn h (by omega) hpl, b_V, q_digC (p := skp B n p) (by omega) hn (by omega) (TPc_w h (by decide)) g_e] at c2
  unfold FNc at c2
  unfold NOK
  cases hD : DOK B n 1 60 (skp B n p) with
  | false =>
    rw [hD, if_neg (by decide), b_I, if_pos (Or.inl rfl)] at c2
    refine ⟨_, c2, EqG_wC (EqG_wC (EqG_wC (EqG_wC EqG_rf (by decide)) (by decide)) (by decide)) (by decide), fun q => absurd q Bool.false_ne_true, fun _ => ?_⟩
    rw [g_e]
  | true =>
    rw [hD, if_pos rfl, b_I, if_pos (Or.inr rfl)] at c2
    refine ⟨_, c2, EqG_wC (EqG_wC (EqG_wC EqG_rf (by decide)) (by decide)) (by decide), fun _ => ?_, fun q => absurd (show true = false from q) (by decide)⟩
    rw [g_e, g_k (by decide), g_e]
    exact ⟨rfl, rfl⟩
theorem q_nM {S : SD} {p : Nat} (hd : 3 ≤ d) (hn : n ≤ 200) (hA : TAB A B) (h : TPm A n S) (hp : p ≤ n) (hpl : (gD S 85 0 53) = (p : Int)) (h0 : (gD S 85 0 54) = 0) : ∃ S', EE false d 232 [vr (some (85, 0))] S = some (vi (bi (NOK B n p)), S') ∧ EqG [] [(85, 53), (85, 54), (85, 57)] S S' ∧ (NOK B n p = true → (gD S' 85 0 53) = (de B n (skp B n p) : Int) ∧ (gD S' 85 0 57) = dnu B n (skp B n p) ∧ (gD S' 85 0 54) = 0) ∧ (NOK B n p = false → (gD S' 85 0 54) = dfl B n (skp B n p)) := by
  have hs := sk_n (B := B) hp
  have c2 := (E232 (d := d) (by omega) S).trans (b232_0 oo (EE false (d - 1)) 999999 S)
  rw [q_see (by omega) hn hA h (by omega) hpl, b_I, q_digM (p := skp B n p) (by omega) hn hA (by omega) (TPm_w h (by decide)) (by rw [g_k (by decide)]; exact h0) g_e] at c2
  unfold FNm at c2
  unfold NOK
  cases hD : DOK B n 1 60 (skp B n p) with
  | false =>
    rw [hD, if_neg (by decide), b_I, if_pos (Or.inl rfl)] at c2
    refine ⟨_, c2, EqG_wC ?_ (by decide), fun q => absurd q Bool.false_ne_true, fun _ => ?_⟩
    · by_cases e : de B n (skp B n p) = skp B n p
      · rw [if_pos e]
        exact EqG_wC EqG_rf (by decide)
      · rw [if_neg e]
        exact EqG_wC (EqG_wC (EqG_wC EqG_rf (by decide)) (by decide)) (by decide)
    · rw [g_e]
  | true =>
    rw [hD, if_pos rfl, b_I, if_pos (Or.inr rfl)] at c2
    refine ⟨_, c2, EqG_wC (EqG_wC (EqG_wC EqG_rf (by decide)) (by decide)) (by decide), fun _ => ?_, fun q => absurd (show true = false from q) (by decide)⟩
    simp (disch := decide) only [g_k, g_e]
    exact ⟨trivial, trivial, h0⟩
/-- a number with its sign -/
def ust (B : Nat → Int) (n p : Nat) : Nat := if bt B n (skp B n p) = 45 then skp B n p + 1 else skp B n p
def uvl (B : Nat → Int) (n p : Nat) : Int := if bt B n (skp B n p) = 45 then -(dnu B n (ust B n p)) else dnu B n (ust B n p)
abbrev UOK (B : Nat → Int) (n : Nat) (p : Nat) : Bool := DOK B n 0 999999 (ust B n p)
theorem ust_n {p : Nat} (h : p ≤ n) : ust B n p ≤ n ∧ p ≤ ust B n p := by
  have h1 := sk_n (B := B) h
  have h2 := skp_le (B := B) (n := n) (p := p)
  unfold ust
  by_cases e : bt B n (skp B n p) = 45
  · have := bt_ge (B := B) (n := n) (p := skp B n p) (by omega)
    rw [if_pos e]
    omega
  · rw [if_neg e]
    omega
theorem q_numC {S : SD} {p : Nat} (hd : 3 ≤ d) (hn : n ≤ 200) (h : TPc B n S) (hp : p ≤ n) (hpl : (gD S 29 0 4) = (p : Int)) : ∃ S', EE false d 79 [vr (some (29, 0))] S = some (vi (bi (UOK B n p)), S') ∧ EqG [] [(29, 4), (29, 5), (29, 8)] S S' ∧ (UOK B n p = true → (gD S' 29 0 4) = (de B n (ust B n p) : Int) ∧ (gD S' 29 0 8) = uvl B n p) ∧ (UOK B n p = false → (gD S' 29 0 5) = dfl B n (ust B n p)) := by
  have hs := sk_n (B := B) hp
  have c2 := (E79 (d := d) (by omega) S).trans (b79_0 oo (EE false (d - 1)) 999999 S)
  rw [q_takesSC (by omega) hn h 45 (by omega) hpl] at c2
  have fin : ∀ x : Int, (x = 0 ↔ ¬ bt B n (skp B n p) = 45) → (bI (some (vi x, wD S 29 0 4 (ust B n p : Int))) (fun x2 S1 =>
  (bI (EE false (d - 1) 80 [vr (some (29, 0)), vi 0, vi 999999] S1) (fun x4 S3 =>
   (if x4 = 0 then
    some (vi 0, S3)
   else
    (if x2 = 0 then
     some (vi 1, wD S3 29 0 8 (gD S3 29 0 8))
    else
     some (vi 1, wD S3 29 0 8 (aw oo (-(gD S3 29 0 8))))))))) : Option RR) = EE false d 79 [vr (some (29, 0))] S → ∃ S', EE false d 79 [vr (some (29, 0))] S = some (vi (bi (UOK B n p)), S') ∧ EqG [] [(29, 4), (29, 5), (29, 8)] S S' ∧ (UOK B n p = true → (gD S' 29 0 4) = (de B n (ust B n p) : Int) ∧ (gD S' 29 0 8) = uvl B n p) ∧ (UOK B n p = false → (gD S' 29 0 5) = dfl B n (ust B n p)) := by
    intro x hx c3
    have hu := (ust_n (B := B) hp).1
    rw [b_I, q_digC (p := ust B n p) (by omega) hn (by omega) (TPc_w h (by decide)) g_e] at c3
    unfold FNc at c3
    unfold UOK
    cases hD : DOK B n 0 999999 (ust B n p) with
    | false =>
      rw [hD, if_neg (by decide), b_I, if_pos rfl] at c3
      refine ⟨_, c3.symm, EqG_wC (EqG_wC (EqG_wC (EqG_wC EqG_rf (by decide)) (by decide)) (by decide)) (by decide), fun q => absurd q Bool.false_ne_true, fun _ => ?_⟩
      rw [g_e]
    | true =>
      obtain ⟨k1, k2, k3⟩ := DOK_t hD
      rw [hD, if_pos rfl, b_I, if_neg (by decide)] at c3
      unfold uvl
      by_cases c1 : bt B n (skp B n p) = 45
      · rw [if_neg (fun q => absurd c1 (hx.mp q))] at c3
        refine ⟨_, c3.symm, EqG_wC (EqG_wC (EqG_wC (EqG_wC EqG_rf (by decide)) (by decide)) (by decide)) (by decide), fun _ => ?_, fun q => absurd (show true = false from q) (by decide)⟩
        rw [if_pos c1]
        simp (disch := decide) only [g_k, g_e]
        exact ⟨trivial, aw0 (by omega)⟩
      · rw [if_pos (hx.mpr c1)] at c3
        refine ⟨_, c3.symm, EqG_wC (EqG_wC (EqG_wC (EqG_wC EqG_rf (by decide)) (by decide)) (by decide)) (by decide), fun _ => ?_, fun q => absurd (show true = false from q) (by decide)⟩
        rw [if_neg c1]
        simp (disch := decide) only [g_k, g_e]
        exact ⟨trivial, trivial⟩
  by_cases c1 : bt B n (skp B n p) = 45
  · have eu : ust B n p = skp B n p + 1 := by unfold ust; rw [if_pos c1]
    rw [if_pos c1, ← eu] at c2
    exact fin 1 ⟨fun q => absurd q (by decide), fun q => absurd c1 q⟩ c2.symm
  · have eu : ust B n p = skp B n p := by unfold ust; rw [if_neg c1]
    rw [if_neg c1, ← eu] at c2
    exact fin 0 ⟨fun _ => c1, fun _ => rfl⟩ c2.symm
theorem q_numM {S : SD} {p : Nat} (hd : 3 ≤ d) (hn : n ≤ 200) (hA : TAB A B) (h : TPm A n S) (hp : p ≤ n) (hpl : (gD S 85 0 53) = (p : Int)) (h0 : (gD S 85 0 54) = 0) : ∃ S', EE false d 231 [vr (some (85, 0))] S = some (vi (bi (UOK B n p)), S') ∧ EqG [] [(85, 53), (85, 54), (85, 57)] S S' ∧ (UOK B n p = true → (gD S' 85 0 53) = (de B n (ust B n p) : Int) ∧ (gD S' 85 0 57) = uvl B n p ∧ (gD S' 85 0 54) = 0) ∧ (UOK B n p = false → (gD S' 85 0 54) = dfl B n (ust B n p)) := by
  have hs := sk_n (B := B) hp
  have hu := (ust_n (B := B) hp).1
  have c2 := (E231 (d := d) (by omega) S).trans (b231_0 oo (EE false (d - 1)) 999999 S)
  rw [q_see (by omega) hn hA h (by omega) hpl, b_I] at c2
  unfold uvl
  by_cases c1 : bt B n (skp B n p) = 45
  · have eu : ust B n p = skp B n p + 1 := by unfold ust; rw [if_pos c1]
    rw [if_pos c1, g_e, awn (by omega), wD_ww, ← eu, q_digM (p := ust B n p) (by omega) hn hA (by omega) (TPm_w h (by decide)) (by rw [g_k (by decide)]; exact h0) g_e] at c2
    rw [if_pos c1]
    unfold FNm at c2
    unfold UOK
    cases hD : DOK B n 0 999999 (ust B n p) with
    | false =>
      rw [hD, if_neg (by decide), b_I, if_pos rfl] at c2
      refine ⟨_, c2, EqG_wC ?_ (by decide), fun q => absurd q Bool.false_ne_true, fun _ => ?_⟩
      · by_cases e : de B n (ust B n p) = ust B n p
        · rw [if_pos e]
          exact EqG_wC EqG_rf (by decide)
        · rw [if_neg e]
          exact EqG_wC (EqG_wC (EqG_wC EqG_rf (by decide)) (by decide)) (by decide)
      · rw [g_e]
    | true =>
      obtain ⟨k1, k2, k3⟩ := DOK_t hD
      rw [hD, if_pos rfl, b_I, if_neg (by decide)] at c2
      refine ⟨_, c2, EqG_wC (EqG_wC (EqG_wC (EqG_wC EqG_rf (by decide)) (by decide)) (by decide)) (by decide), fun _ => ?_, fun q => absurd (show true = false from q) (by decide)⟩
      simp (disch := decide) only [g_k, g_e]
      exact ⟨trivial, aw0 (by omega), h0⟩
  · have eu : ust B n p = skp B n p := by unfold ust; rw [if_neg c1]
    rw [if_neg c1, ← eu, q_digM (p := ust B n p) (by omega) hn hA (by omega) (TPm_w h (by decide)) (by rw [g_k (by decide)]; exact h0) g_e] at c2
    rw [if_neg c1]
    unfold FNm at c2
    unfold UOK
    cases hD : DOK B n 0 999999 (ust B n p) with
    | false =>
      rw [hD, if_neg (by decide), b_I, if_pos rfl] at c2
      refine ⟨_, c2, EqG_wC ?_ (by decide), fun q => absurd q Bool.false_ne_true, fun _ => ?_⟩
      · by_cases e : de B n (ust B n p) = ust B n p
        · rw [if_pos e]
          exact EqG_wC EqG_rf (by decide)
        · rw [if_neg e]
          exact EqG_wC (EqG_wC (EqG_wC EqG_rf (by decide)) (by decide)) (by decide)
      · rw [g_e]
    | true =>
      rw [hD, if_pos rfl, b_I, if_neg (by decide)] at c2
      refine ⟨_, c2, EqG_wC (EqG_wC (EqG_wC EqG_rf (by decide)) (by decide)) (by decide), fun _ => ?_, fun q => absurd (show true = false from q) (by decide)⟩
      simp (disch := decide) only [g_k, g_e]
      exact ⟨trivial, trivial, h0⟩
end
