/-! rule: signs and kinds on both sides; a step -/
section
variable {d : Nat} {A B : Nat → Int} {n : Nat} {th : Int}
theorem skp_f2 {p : Nat} : skp B n (skp B n p) = skp B n p := skp_sk
def SOK (B : Nat → Int) (n p : Nat) : Bool := decide (bt B n (skp B n p) = 61 ∨ bt B n (skp B n p) = 60 ∨ bt B n (skp B n p) = 62)
def svl (B : Nat → Int) (n p : Nat) : Int := if bt B n (skp B n p) = 61 then 2 else if bt B n (skp B n p) = 60 then (if bt B n (skp B n p + 1) = 61 then 1 else 0) else (if bt B n (skp B n p + 1) = 61 then 3 else 4)
def snx (B : Nat → Int) (n p : Nat) : Nat := if bt B n (skp B n p) = 61 then skp B n p + 1 else if bt B n (skp B n p + 1) = 61 then skp B n p + 2 else skp B n p + 1
theorem snx_n {p : Nat} (h : p ≤ n) (hs : SOK B n p = true) : snx B n p ≤ n ∧ p < snx B n p := by
  have h1 := sk_n (B := B) h
  have h2 := skp_le (B := B) (n := n) (p := p)
  have h3 := of_decide_eq_true hs
  have h4 := bt_ge (B := B) (n := n) (p := skp B n p) (by omega)
  unfold snx
  by_cases c1 : bt B n (skp B n p) = 61
  · rw [if_pos c1]; omega
  · rw [if_neg c1]
    by_cases c2 : bt B n (skp B n p + 1) = 61
    · have := bt_ge (B := B) (n := n) (p := skp B n p + 1) (by omega)
      rw [if_pos c2]; omega
    · rw [if_neg c2]; omega
theorem svl_r {p : Nat} : 0 ≤ svl B n p ∧ svl B n p ≤ 4 := by
  unfold svl
  by_cases c1 : bt B n (skp B n p) = 61
  · rw [if_pos c1]; decide
  · rw [if_neg c1]
    by_cases c2 : bt B n (skp B n p) = 60
    · rw [if_pos c2]
      by_cases c3 : bt B n (skp B n p + 1) = 61
      · rw [if_pos c3]; decide
      · rw [if_neg c3]; decide
    · rw [if_neg c2]
      by_cases c3 : bt B n (skp B n p + 1) = 61
      · rw [if_pos c3]; decide
      · rw [if_neg c3]; decide
theorem q_signC {S : SD} {p : Nat} (hd : 3 ≤ d) (hn : n ≤ 200) (h : TPc B n S) (hp : p ≤ n) (hpl : (gD S 29 0 4) = (p : Int)) : ∃ S', EE false d 75 [vr (some (29, 0))] S = some (vi (if SOK B n p then svl B n p else -1), S') ∧ EqG [] [(29, 4), (29, 5)] S S' ∧ (SOK B n p = true → (gD S' 29 0 4) = (snx B n p : Int)) ∧ (SOK B n p = false → (gD S' 29 0 5) = 1 + 8 * (skp B n p : Int)) := by
  have hs := sk_n (B := B) hp
  have c2 := (E75 (d := d) (by omega) S).trans (b75_0 oo (EE false (d - 1)) 999999 S)
  rw [q_takesSC (by omega) hn h 61 (by omega) hpl] at c2
  unfold SOK svl snx
  by_cases c1 : bt B n (skp B n p) = 61
  · rw [if_pos c1, b_I, if_neg (by decide)] at c2
    rw [decide_eq_true (Or.inl c1), if_pos c1, if_pos c1]
    refine ⟨_, c2, EqG_wC EqG_rf (by decide), fun _ => ?_, fun q => absurd (show true = false from q) (by decide)⟩
    rw [g_e]
  · rw [if_neg c1, b_I, if_pos rfl, q_takesSC (p := skp B n p) (by omega) hn (TPc_w h (by decide)) 60 (by omega) g_e, skp_sk, wD_ww, wD_ww] at c2
    rw [if_neg c1, if_neg c1]
    by_cases c3 : bt B n (skp B n p) = 60
    · rw [if_pos c3, b_I, if_neg (by decide), g_e, q_byte (by omega) hn (TPc_w h (by decide)), b_I] at c2
      rw [decide_eq_true (Or.inr (Or.inl c3)), if_pos c3]
      by_cases c4 : bt B n (skp B n p + 1) = 61
      · rw [if_pos c4, if_neg (by decide), g_e, awn (by omega), wD_ww] at c2
        rw [if_pos c4, if_pos c4]
        refine ⟨_, c2, EqG_wC EqG_rf (by decide), fun _ => ?_, fun q => absurd (show true = false from q) (by decide)⟩
        rw [g_e]
      · rw [if_neg c4, if_neg (by decide)] at c2
        rw [if_neg c4, if_neg c4]
        refine ⟨_, c2, EqG_wC EqG_rf (by decide), fun _ => ?_, fun q => absurd (show true = false from q) (by decide)⟩
        rw [g_e]
    · rw [if_neg c3, b_I, if_pos rfl, q_takesSC (p := skp B n p) (by omega) hn (TPc_w h (by decide)) 62 (by omega) g_e, skp_sk, wD_ww, wD_ww] at c2
      rw [if_neg c3]
      by_cases c5 : bt B n (skp B n p) = 62
      · rw [if_pos c5, b_I, if_neg (by decide), g_e, q_byte (by omega) hn (TPc_w h (by decide)), b_I] at c2
        rw [decide_eq_true (Or.inr (Or.inr c5))]
        by_cases c4 : bt B n (skp B n p + 1) = 61
        · rw [if_pos c4, if_pos rfl, g_e, awn (by omega), wD_ww] at c2
          rw [if_pos c4, if_pos c4]
          refine ⟨_, c2, EqG_wC EqG_rf (by decide), fun _ => ?_, fun q => absurd (show true = false from q) (by decide)⟩
          rw [g_e]
        · rw [if_neg c4, if_pos rfl] at c2
          rw [if_neg c4, if_neg c4]
          refine ⟨_, c2, EqG_wC EqG_rf (by decide), fun _ => ?_, fun q => absurd (show true = false from q) (by decide)⟩
          rw [g_e]
      · rw [if_neg c5, b_I, if_pos rfl, g_e, q_fail (by omega) _ _ (by omega) (by omega), b_I, Int.add_zero] at c2
        rw [decide_eq_false (by omega), if_neg (show ¬ false = true by decide)]
        refine ⟨_, c2, EqG_wC (EqG_wC EqG_rf (by decide)) (by decide), fun q => absurd q Bool.false_ne_true, fun _ => ?_⟩
        rw [g_e]
theorem q_signM {S : SD} {p f : Nat} (hd : 2 ≤ d) (hn : n ≤ 200) (hA : TAB A B) (h : TPm A n S) (hp : p ≤ n) (hf : f < 320) (hpl : (gD S 85 0 53) = (p : Int)) (h0 : (gD S 85 0 54) = 0) : ∃ S', EE false d 235 [vr (some (85, 0)), vi (f : Int)] S = some (vi (bi (SOK B n p)), S') ∧ EqG [131] [(85, 53), (85, 54)] S S' ∧ (∀ j k, k ≠ f → gD S' 131 j k = gD S 131 j k) ∧ (SOK B n p = true → (gD S' 85 0 53) = (snx B n p : Int) ∧ (gD S' 131 0 f) = svl B n p ∧ (gD S' 85 0 54) = 0) ∧ (SOK B n p = false → (gD S' 85 0 54) = 1 + 8 * (skp B n p : Int)) := by
  have hs := sk_n (B := B) hp
  have c2 := (E235 (d := d) (by omega) S (f : Int)).trans (b235_0 oo (EE false (d - 1)) 999999 S (f : Int))
  rw [q_see (by omega) hn hA h (by omega) hpl, b_I, g_e, awn (by omega), wD_ww] at c2
  have bf : (0 ≤ (f : Int) ∧ (f : Int) < 320) = True := eq_true (by omega)
  have h1 : TPm A n (wD S 85 0 53 ((skp B n p + 1 : Nat) : Int)) := TPm_w h (by decide)
  unfold SOK svl snx
  have done : ∀ (q : Nat) (v : Int), EE false d 235 [vr (some (85, 0)), vi (f : Int)] S = some (vi 1, wD (wD S 85 0 53 (q : Int)) 131 0 f v) → ∃ S', EE false d 235 [vr (some (85, 0)), vi (f : Int)] S = some (vi (bi true), S') ∧ EqG [131] [(85, 53), (85, 54)] S S' ∧ (∀ j k, k ≠ f → gD S' 131 j k = gD S 131 j k) ∧ (true = true → (gD S' 85 0 53) = (q : Int) ∧ (gD S' 131 0 f) = v ∧ (gD S' 85 0 54) = 0) ∧ (true = false → (gD S' 85 0 54) = 1 + 8 * (skp B n p : Int)) := fun q v c => by
    refine ⟨_, c, EqG_wA (EqG_wC EqG_rf (by decide)) (by decide), fun j k hk => ?_, fun _ => ?_, fun q => absurd (show true = false from q) (by decide)⟩
    · rw [g_k hk, g_f (by decide)]
    · rw [g_f (by decide), g_e, g_e, g_f (by decide), g_k (by decide)]
      exact ⟨rfl, rfl, h0⟩
  by_cases c1 : bt B n (skp B n p) = 61
  · rw [c1] at c2
    rw [if_neg (by decide), if_pos rfl, if_pos rfl, if_pos rfl, if_pos (by omega), tn] at c2
    rw [decide_eq_true (Or.inl c1), if_pos c1, if_pos c1]
    exact done _ _ c2
  · rw [if_neg c1, if_neg c1]
    by_cases c3 : bt B n (skp B n p) = 60
    · rw [c3] at c2
      rw [if_pos rfl, if_neg (by decide), g_e, h1.1] at c2
      rw [decide_eq_true (Or.inr (Or.inl c3)), if_pos c3]
      by_cases e : skp B n p + 1 < n
      · rw [if_pos (by omega), if_pos (by omega), tn, h1.2] at c2
        by_cases c4 : bt B n (skp B n p + 1) = 61
        · rw [if_pos ((btA hA e 61 (by decide)).mpr c4), if_neg (by decide), if_pos rfl, if_pos (by omega), tn, awn (by omega), wD_ww] at c2
          rw [if_pos c4, if_pos c4]
          exact done _ _ c2
        · rw [if_neg (fun q => c4 ((btA hA e 61 (by decide)).mp q)), if_neg (by decide), if_pos rfl, if_pos (by omega), tn] at c2
          rw [if_neg c4, if_neg c4]
          exact done _ _ c2
      · have c4 : ¬ bt B n (skp B n p + 1) = 61 := by rw [bt_hi e]; decide
        rw [if_neg (by omega), if_neg (by decide), if_pos rfl, if_pos (by omega), tn] at c2
        rw [if_neg c4, if_neg c4]
        exact done _ _ c2
    · rw [if_neg c3]
      by_cases c5 : bt B n (skp B n p) = 62
      · rw [c5] at c2
        rw [if_neg (by decide), if_neg (by decide), if_pos rfl, if_neg (by decide), g_e, h1.1] at c2
        rw [decide_eq_true (Or.inr (Or.inr c5))]
        by_cases e : skp B n p + 1 < n
        · rw [if_pos (by omega), if_pos (by omega), tn, h1.2] at c2
          by_cases c4 : bt B n (skp B n p + 1) = 61
          · rw [if_pos ((btA hA e 61 (by decide)).mpr c4), if_neg (by decide), if_neg (by decide), if_pos (by omega), tn, awn (by omega), wD_ww] at c2
            rw [if_pos c4, if_pos c4]
            exact done _ _ c2
          · rw [if_neg (fun q => c4 ((btA hA e 61 (by decide)).mp q)), if_neg (by decide), if_neg (by decide), if_pos (by omega), tn] at c2
            rw [if_neg c4, if_neg c4]
            exact done _ _ c2
        · have c4 : ¬ bt B n (skp B n p + 1) = 61 := by rw [bt_hi e]; decide
          rw [if_neg (by omega), if_neg (by decide), if_neg (by decide), if_pos (by omega), tn] at c2
          rw [if_neg c4, if_neg c4]
          exact done _ _ c2
      · rw [if_neg c3, if_neg c1, if_neg c5, q_fails (by omega) 0 _ (by omega) (by omega) (by rw [g_k (by decide)]; exact h0), b_I, if_pos (Or.inl rfl), Int.add_zero] at c2
        rw [decide_eq_false (by omega)]
        refine ⟨_, c2, EqG_wC (EqG_wC EqG_rf (by decide)) (by decide), fun j k hk => ?_, fun q => absurd q Bool.false_ne_true, fun _ => ?_⟩
        · rw [g_f (by decide), g_f (by decide)]
        · rw [g_e]
def kd (B : Nat → Int) (n p : Nat) : Int := if WRD B n 2 p then 0 else if WRD B n 3 p then 1 else if WRD B n 4 p then 2 else if WRD B n 5 p then 3 else -1
theorem WRD_s {j p : Nat} : WRD B n j (skp B n p) = WRD B n j p := by unfold WRD; rw [skp_sk]
theorem q_kindC {S : SD} {p : Nat} (hd : 3 ≤ d) (hn : n ≤ 200) (h : TPc B n S) (hp : p ≤ n) (hpl : (gD S 29 0 4) = (p : Int)) : EE false d 73 [vr (some (29, 0))] S = some (vi (kd B n p), wD S 29 0 4 (skp B n p : Int)) := by
  have hs := sk_n (B := B) hp
  have nx : ∀ j, j < 12 → EE false (d - 1) 64 [vr (some (29, 0)), vr (some (1, j))] (wD S 29 0 4 (skp B n p : Int)) = some (vi (bi (WRD B n j p)), wD S 29 0 4 (skp B n p : Int)) := fun j hj => by
    rw [q_wordC (p := skp B n p) (by omega) hn (TPc_w h (by decide)) hj (by omega) g_e, skp_sk, wD_ww, WRD_s]
  rw [E73 (by omega), b73_0, q_wordC (by omega) hn h (by decide) (by omega) hpl, b_I]
  unfold kd
  cases WRD B n 2 p with
  | true => rw [if_neg (by decide), if_pos rfl]
  | false =>
    rw [if_pos (by decide), if_neg (show ¬ false = true by decide), nx 3 (by decide), b_I]
    cases WRD B n 3 p with
    | true => rw [if_neg (by decide), if_pos rfl]
    | false =>
      rw [if_pos (by decide), if_neg (show ¬ false = true by decide), nx 4 (by decide), b_I]
      cases WRD B n 4 p with
      | true => rw [if_neg (by decide), if_pos rfl]
      | false =>
        rw [if_pos (by decide), if_neg (show ¬ false = true by decide), nx 5 (by decide), b_I]
        cases WRD B n 5 p with
        | true => rw [if_neg (by decide), if_pos rfl]
        | false => rw [if_pos (by decide), if_neg (show ¬ false = true by decide)]
theorem gR_w {S : SD} {f j k f' j' k' : Nat} {v : Int} : gR (wD S f j k v) f' j' k' = gR S f' j' k' := rfl
theorem rR_s {r : Nat} {kn : Option RR} {kj : Nat → Option RR} : rR (some (47, r)) 47 kn kj = kj r := by
  show (if (47 : Nat) = 47 then kj r else none) = kj r
  rw [if_pos rfl]
theorem gR_G {A C} {S S' : SD} {f j k : Nat} (x : EqG A C S S') : gR S' f j k = gR S f j k := by
  show S'.2.1 f j k = S.2.1 f j k
  rw [x.2]
theorem q_addStep {S : SD} {r z : Nat} (hd : 1 ≤ d) (hR : gR S 29 0 3 = some (47, r)) (hz : (gD S 47 r 9) = (z : Int)) (hz2 : z < 128) (v : Int) : EE false d 70 [vr (some (29, 0)), vi v] S = some (vi 0, wD (wD S 54 r z v) 47 r 9 ((z + 1 : Nat) : Int)) := by
  rw [E70 hd, b70_0]
  simp only [gR_w, hR, rR_s, hz]
  rw [if_pos (by omega), if_pos (by omega), tn, g_f (by decide), hz, awn (by omega)]
end
