/-! layer 2: leaves and small checks -/
theorem i01 {p : Prop} [Decidable p] : ((if p then 1 else 0 : Int) = 0) = ¬ p := by
  by_cases h : p <;> simp [h]
theorem i01' {p : Prop} [Decidable p] : ((if p then 1 else 0 : Int) = 0 ∨ (if p then 1 else 0 : Int) = 1) = True := by
  by_cases h : p <;> simp [h]
theorem aw_id {z : Int} (h : -2147483648 ≤ z ∧ z < 2147483648) : aw oo z = z := w32_id (by unfold r32; exact h)
theorem al_id {z : Int} (h : -9223372036854775808 ≤ z ∧ z < 9223372036854775808) : al oo z = z := w64_id (by unfold r64; exact h)
section
variable {d : Nat} (S : SD)
theorem q_within (hd : 1 ≤ d) (a b c : Int) : EE false d 189 [vi a, vi b, vi c] S = some (vi (if b ≤ a ∧ a ≤ c then 1 else 0), S) := by
  rw [E189 hd, b189_0]
  by_cases h1 : a < b
  · rw [if_pos h1, if_neg (by omega)]
  · rw [if_neg h1]
    by_cases h2 : c < a
    · rw [if_pos h2, if_neg (by omega)]
    · rw [if_neg h2, if_pos (by omega)]
theorem q_isTick (hd : 2 ≤ d) (a : Int) : EE false d 190 [vi a] S = some (vi (if 0 ≤ a ∧ a ≤ 3999 then 1 else 0), S) := by
  rw [E190 (by omega), b190_0, q_within S (by omega)]
  simp only [bI, i01', if_true]
theorem q_M_in (hd : 1 ≤ d) (a b c : Int) : EE false d 192 [vl a, vl b, vl c] S = some (vi (if b ≤ a ∧ a ≤ c then 1 else 0), S) := by
  rw [E192 hd, b192_0]
  have h9 : ∀ x y, ab oo 9 x y = if y < x then 1 else if x = y then 0 else -1 := fun x y => rfl
  simp only [h9]
  by_cases h1 : a < b
  · rw [if_neg (show ¬ b < a by omega), if_neg (show ¬ a = b by omega), if_pos (show (-1 : Int) < 0 by omega), if_neg (show ¬ (b ≤ a ∧ a ≤ c) by omega)]
  · rw [if_neg (show ¬ (if b < a then (1 : Int) else if a = b then 0 else -1) < 0 by split <;> (try split) <;> omega)]
    by_cases h2 : c < a
    · rw [if_pos h2, if_pos (show (0 : Int) < 1 by omega), if_neg (show ¬ (b ≤ a ∧ a ≤ c) by omega)]
    · rw [if_neg h2, if_neg (show ¬ (0 : Int) < (if a = c then 0 else -1) by split <;> omega), if_pos (show b ≤ a ∧ a ≤ c by omega)]
theorem q_M_isTick (hd : 1 ≤ d) (a : Int) : EE false d 193 [vi a] S = some (vi (if 0 ≤ a ∧ a ≤ 3999 then 1 else 0), S) := by
  rw [E193 hd, b193_0]
  by_cases h1 : a < 0
  · rw [if_pos h1, if_neg (by omega)]
  · rw [if_neg h1]
    by_cases h2 : a < 4000
    · rw [if_pos h2, if_pos (by omega)]
    · rw [if_neg h2, if_neg (by omega)]
theorem q_M_less (hd : 1 ≤ d) (a b : Int) : EE false d 194 [vi a, vi b] S = some (vi (min a b), S) := by
  rw [E194 hd, b194_0]
  by_cases h : a < b
  · rw [if_pos h, Int.min_eq_left (by omega)]
  · rw [if_neg h, Int.min_eq_right (by omega)]
theorem q_M_more (hd : 1 ≤ d) (a b : Int) : EE false d 195 [vi a, vi b] S = some (vi (max a b), S) := by
  rw [E195 hd, b195_0]
  by_cases h : b < a
  · rw [if_pos h, Int.max_eq_left (by omega)]
  · rw [if_neg h, Int.max_eq_right (by omega)]
theorem q_M_isField (hd : 1 ≤ d) (a : Int) : EE false d 196 [vi a] S = some (vi (if 0 ≤ a ∧ a ≤ 2 then 1 else 0), S) := by
  rw [E196 hd, b196_0]
  by_cases h1 : a < 0
  · rw [if_pos h1, if_neg (by omega)]
  · rw [if_neg h1]
    by_cases h2 : a < 3
    · rw [if_pos h2, if_pos (by omega)]
    · rw [if_neg h2, if_neg (by omega)]
theorem q_M_isThing (hd : 1 ≤ d) (a : Int) : EE false d 197 [vr (some (85, 0)), vi a] S = some (vi (if 0 ≤ a ∧ a < gD S 85 0 6 then 1 else 0), S) := by
  rw [E197 hd, b197_0]
  by_cases h1 : a < 0
  · rw [if_pos h1, if_neg (by omega)]
  · rw [if_neg h1]
    by_cases h2 : a < gD S 85 0 6
    · rw [if_pos h2, if_pos (by omega)]
    · rw [if_neg h2, if_neg (by omega)]
theorem q_has (hd : 1 ≤ d) (a : Int) : EE false d 96 [vr (some (3, 0)), vi a] S = some (vi (if 0 ≤ a ∧ a < gD S 3 0 10 then 1 else 0), S) := by
  rw [E96 hd, b96_0]
  by_cases h1 : a < 0
  · rw [if_pos h1, if_neg (by omega)]
  · rw [if_neg h1]
    by_cases h2 : a < gD S 3 0 10
    · rw [if_pos h2, if_pos (by omega)]
    · rw [if_neg h2, if_neg (by omega)]
/-- field: the class's side -/
theorem q_describe (hd : 2 ≤ d) (k f lo hi sp : Int) : EE false d 93 [vr (some (3, 0)), vi k, vi f, vi lo, vi hi, vi sp] S =
    if (0 ≤ k ∧ k ≤ 7) ∧ (0 ≤ f ∧ f ≤ 2) ∧ (0 ≤ sp ∧ sp ≤ 10000) ∧ -100000 ≤ lo ∧ hi ≤ 100000 ∧ lo ≤ hi then some (vi 1, wD (wD (wD S 6 0 (k * 3 + f).toNat lo) 7 0 (k * 3 + f).toNat hi) 8 0 (k * 3 + f).toNat sp) else some (vi 0, S) := by
  rw [E93 (by omega), b93_0]
  simp only [q_within _ (show 1 ≤ d - 1 by omega), bI, i01]
  by_cases h1 : 0 ≤ k ∧ k ≤ 7
  · rw [if_neg (not_not_intro h1)]
    by_cases h2 : 0 ≤ f ∧ f ≤ 2
    · rw [if_neg (not_not_intro h2)]
      have e1 : aw oo (aw oo (k * 3) + f) = k * 3 + f := by rw [aw_id (z := k * 3) (by omega), aw_id (by omega)]
      rw [e1]
      by_cases h3 : 0 ≤ sp ∧ sp ≤ 10000
      · rw [if_neg (not_not_intro h3)]
        by_cases h4 : lo < -100000
        · rw [if_pos h4, if_neg (by omega)]
        · rw [if_neg h4]
          by_cases h5 : 100000 < hi
          · rw [if_pos h5, if_neg (by omega)]
          · rw [if_neg h5]
            by_cases h6 : hi < lo
            · rw [if_pos h6, if_neg (by omega)]
            · rw [if_neg h6, if_pos (by omega), if_pos (by omega), if_pos (by omega), if_pos (by omega)]
      · rw [if_pos h3, if_neg (by omega)]
    · rw [if_pos h2, if_neg (by omega)]
  · rw [if_pos h1, if_neg (by omega)]
/-- field: the reference's side -/
theorem q_M_field (hd : 2 ≤ d) (k f lo hi sp : Int) : EE false d 198 [vr (some (85, 0)), vi k, vi f, vi lo, vi hi, vi sp] S =
    if (0 ≤ k ∧ k ≤ 7) ∧ (0 ≤ f ∧ f ≤ 2) ∧ (0 ≤ sp ∧ sp ≤ 10000) ∧ -100000 ≤ lo ∧ hi ≤ 100000 ∧ lo ≤ hi then some (vi 1, wD (wD (wD S 86 0 (3 * k + f).toNat lo) 87 0 (3 * k + f).toNat hi) 88 0 (3 * k + f).toNat sp) else some (vi 0, S) := by
  rw [E198 (by omega), b198_0]
  simp only [q_M_in _ (show 1 ≤ d - 1 by omega), q_M_isField _ (show 1 ≤ d - 1 by omega), bI, i01]
  by_cases h1 : 0 ≤ k ∧ k ≤ 7
  · rw [if_neg (not_not_intro h1)]
    by_cases h2 : 0 ≤ f ∧ f ≤ 2
    · rw [if_neg (not_not_intro h2)]
      have e1 : aw oo (aw oo (3 * k) + f) = 3 * k + f := by rw [aw_id (z := 3 * k) (by omega), aw_id (by omega)]
      rw [e1]
      by_cases h3 : -100000 ≤ hi ∧ hi ≤ 100000
      · rw [if_neg (not_not_intro h3)]
        by_cases h4 : -100000 ≤ lo ∧ lo ≤ hi
        · rw [if_neg (not_not_intro h4)]
          by_cases h5 : 0 ≤ sp ∧ sp ≤ 10000
          · rw [if_neg (not_not_intro h5), if_pos (by omega), if_pos (by omega), if_pos (by omega), if_pos (by omega)]
          · rw [if_pos h5, if_neg (by omega)]
        · rw [if_pos h4, if_neg (by omega)]
      · rw [if_pos h3, if_neg (by omega)]
    · rw [if_pos h2, if_neg (by omega)]
  · rw [if_pos h1, if_neg (by omega)]
end
