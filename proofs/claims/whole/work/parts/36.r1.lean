/-! layer 2: Things, both sides -/
section
variable {d : Nat} (S : SD)
def okField (k f lo hi sp : Int) : Prop := (0 ≤ k ∧ k ≤ 7) ∧ (0 ≤ f ∧ f ≤ 2) ∧ (0 ≤ sp ∧ sp ≤ 10000) ∧ -100000 ≤ lo ∧ hi ≤ 100000 ∧ lo ≤ hi
theorem q_field (hd : 3 ≤ d) (k f lo hi sp : Int) : (okField k f lo hi sp → EE false d 148 [vr (some (2, 0)), vi k, vi f, vi lo, vi hi, vi sp] S = some (vi 1, wD (wD (wD S 6 0 (k * 3 + f).toNat lo) 7 0 (k * 3 + f).toNat hi) 8 0 (k * 3 + f).toNat sp)) ∧ (¬ okField k f lo hi sp → EE false d 148 [vr (some (2, 0)), vi k, vi f, vi lo, vi hi, vi sp] S = some (vi 0, S)) := by
  unfold okField
  refine ⟨fun h => ?_, fun h => ?_⟩
  · rw [E148 (by omega), b148_0, q_describe _ (show 2 ≤ d - 1 by omega), if_pos h]
    rfl
  · rw [E148 (by omega), b148_0, q_describe _ (show 2 ≤ d - 1 by omega), if_neg h]
    rfl
theorem q_M_field' (hd : 2 ≤ d) (k f lo hi sp : Int) : (okField k f lo hi sp → EE false d 198 [vr (some (85, 0)), vi k, vi f, vi lo, vi hi, vi sp] S = some (vi 1, wD (wD (wD S 86 0 (3 * k + f).toNat lo) 87 0 (3 * k + f).toNat hi) 88 0 (3 * k + f).toNat sp)) ∧ (¬ okField k f lo hi sp → EE false d 198 [vr (some (85, 0)), vi k, vi f, vi lo, vi hi, vi sp] S = some (vi 0, S)) := by
  unfold okField
  exact ⟨fun h => by rw [q_M_field _ hd, if_pos h], fun h => by rw [q_M_field _ hd, if_neg h]⟩
def okKind (k a b : Int) : Prop := (0 ≤ k ∧ k ≤ 7) ∧ (0 ≤ a ∧ a ≤ 500) ∧ (0 ≤ b ∧ b ≤ 9999)
theorem q_kind (hd : 3 ≤ d) (k a b : Int) : (okKind k a b → EE false d 149 [vr (some (2, 0)), vi k, vi a, vi b] S = some (vi 1, wD (wD S 4 0 k.toNat a) 5 0 k.toNat b)) ∧ (¬ okKind k a b → EE false d 149 [vr (some (2, 0)), vi k, vi a, vi b] S = some (vi 0, S)) := by
  unfold okKind
  refine ⟨fun ⟨h1, h2, h3⟩ => ?_, fun h => ?_⟩
  · rw [E149 (by omega), b149_0, E94 (by omega), b94_0]
    simp only [q_within _ (show 1 ≤ d - 1 - 1 by omega), bI, i01]
    rw [if_neg (not_not_intro h1), if_neg (not_not_intro h2), if_neg (not_not_intro h3), if_pos (by omega), if_pos (by omega)]
    rfl
  · rw [E149 (by omega), b149_0, E94 (by omega), b94_0]
    simp only [q_within _ (show 1 ≤ d - 1 - 1 by omega), bI, i01]
    by_cases h1 : 0 ≤ k ∧ k ≤ 7
    · rw [if_neg (not_not_intro h1)]
      by_cases h2 : 0 ≤ a ∧ a ≤ 500
      · rw [if_neg (not_not_intro h2)]
        by_cases h3 : 0 ≤ b ∧ b ≤ 9999
        · exact absurd ⟨h1, h2, h3⟩ h
        · rw [if_pos h3]; rfl
      · rw [if_pos h2]; rfl
    · rw [if_pos h1]; rfl
theorem q_M_kind (hd : 2 ≤ d) (k a b : Int) : (okKind k a b → EE false d 199 [vr (some (85, 0)), vi k, vi a, vi b] S = some (vi 1, wD (wD S 89 0 k.toNat a) 90 0 k.toNat b)) ∧ (¬ okKind k a b → EE false d 199 [vr (some (85, 0)), vi k, vi a, vi b] S = some (vi 0, S)) := by
  unfold okKind
  refine ⟨fun ⟨h1, h2, h3⟩ => ?_, fun h => ?_⟩
  · rw [E199 (by omega), b199_0]
    simp only [q_M_in _ (show 1 ≤ d - 1 by omega), bI, i01]
    rw [if_neg (not_not_intro h1), if_neg (not_not_intro h2), if_neg (not_not_intro h3), if_pos (by omega), if_pos (by omega)]
  · rw [E199 (by omega), b199_0]
    simp only [q_M_in _ (show 1 ≤ d - 1 by omega), bI, i01]
    by_cases h1 : 0 ≤ k ∧ k ≤ 7
    · rw [if_neg (not_not_intro h1)]
      by_cases h2 : 0 ≤ a ∧ a ≤ 500
      · rw [if_neg (not_not_intro h2)]
        by_cases h3 : 0 ≤ b ∧ b ≤ 9999
        · exact absurd ⟨h1, h2, h3⟩ h
        · rw [if_pos h3]
      · rw [if_pos h2]
    · rw [if_pos h1]
theorem gD_wD (f j k : Nat) (v : Int) (f1 j1 k1 : Nat) : gD (wD S f j k v) f1 j1 k1 = if f1 = f ∧ j1 = j ∧ k1 = k then v else gD S f1 j1 k1 := rfl
def okAdd (n k o : Int) : Prop := n < 40 ∧ (0 ≤ k ∧ k ≤ 7) ∧ (0 ≤ o ∧ o ≤ 7)
theorem q_thing (hd : 3 ≤ d) (k o : Int) (hn : 0 ≤ gD S 3 0 10 ∧ gD S 3 0 10 ≤ 40) : (okAdd (gD S 3 0 10) k o → EE false d 150 [vr (some (2, 0)), vi k, vi o] S = some (vi (gD S 3 0 10), wD (wD (wD S 9 0 (gD S 3 0 10).toNat k) 10 0 (gD S 3 0 10).toNat o) 3 0 10 (gD S 3 0 10 + 1))) ∧ (¬ okAdd (gD S 3 0 10) k o → EE false d 150 [vr (some (2, 0)), vi k, vi o] S = some (vi (-1), S)) := by
  unfold okAdd
  refine ⟨fun ⟨h1, h2, h3⟩ => ?_, fun h => ?_⟩
  · rw [E150 (by omega), b150_0, E95 (by omega), b95_0, if_pos h1]
    simp only [q_within _ (show 1 ≤ d - 1 - 1 by omega), bI, i01]
    rw [if_neg (not_not_intro h2), if_neg (not_not_intro h3)]
    have e1 : aw oo (gD S 3 0 10 + 1) = gD S 3 0 10 + 1 := aw_id (by omega)
    have e2 : aw oo (gD S 3 0 10) = gD S 3 0 10 := aw_id (by omega)
    simp [gD_wD, hn.1, h1, e1, e2]
  · rw [E150 (by omega), b150_0, E95 (by omega), b95_0]
    simp only [q_within _ (show 1 ≤ d - 1 - 1 by omega), bI, i01]
    by_cases h1 : gD S 3 0 10 < 40
    · rw [if_pos h1]
      by_cases h2 : 0 ≤ k ∧ k ≤ 7
      · rw [if_neg (not_not_intro h2)]
        by_cases h3 : 0 ≤ o ∧ o ≤ 7
        · exact absurd ⟨h1, h2, h3⟩ h
        · rw [if_pos h3]
      · rw [if_pos h2]
    · rw [if_neg h1]
theorem q_M_thing (hd : 2 ≤ d) (k o : Int) (hn : 0 ≤ gD S 85 0 6 ∧ gD S 85 0 6 ≤ 40) : (okAdd (gD S 85 0 6) k o → EE false d 200 [vr (some (85, 0)), vi k, vi o] S = some (vi (gD S 85 0 6), wD (wD (wD (wD (wD S 91 0 (gD S 85 0 6).toNat k) 92 0 (gD S 85 0 6).toNat o) 95 0 (gD S 85 0 6).toNat (-1)) 96 0 (gD S 85 0 6).toNat (-1)) 85 0 6 (gD S 85 0 6 + 1))) ∧ (¬ okAdd (gD S 85 0 6) k o → EE false d 200 [vr (some (85, 0)), vi k, vi o] S = some (vi (-1), S)) := by
  unfold okAdd
  refine ⟨fun ⟨h1, h2, h3⟩ => ?_, fun h => ?_⟩
  · rw [E200 (by omega), b200_0, if_neg (by omega)]
    simp only [q_M_in _ (show 1 ≤ d - 1 by omega), bI, i01]
    rw [if_neg (not_not_intro h2), if_neg (not_not_intro h3)]
    have e1 : aw oo (gD S 85 0 6 + 1) = gD S 85 0 6 + 1 := aw_id (by omega)
    have e2 : aw oo (gD S 85 0 6) = gD S 85 0 6 := aw_id (by omega)
    simp [gD_wD, hn.1, h1, e1, e2]
  · rw [E200 (by omega), b200_0]
    simp only [q_M_in _ (show 1 ≤ d - 1 by omega), bI, i01]
    by_cases h1 : gD S 85 0 6 = 40
    · rw [if_pos h1]
    · rw [if_neg h1]
      by_cases h2 : 0 ≤ k ∧ k ≤ 7
      · rw [if_neg (not_not_intro h2)]
        by_cases h3 : 0 ≤ o ∧ o ≤ 7
        · exact absurd ⟨by omega, h2, h3⟩ h
        · rw [if_pos h3]
      · rw [if_pos h2]
def okSet (n now t k : Int) : Prop := (0 ≤ t ∧ t < n) ∧ (0 ≤ k ∧ k ≤ now)
theorem q_set (hd : 3 ≤ d) (t k : Int) (hn : 0 ≤ gD S 3 0 9 ∧ gD S 3 0 9 < 512) : (okSet (gD S 3 0 10) (gD S 2 0 9) t k → EE false d 154 [vr (some (2, 0)), vi t, vi k] S = some (vi 1, wD (wD (wD S 11 0 (gD S 3 0 9).toNat t) 12 0 (gD S 3 0 9).toNat k) 3 0 9 (gD S 3 0 9 + 1))) ∧ (¬ okSet (gD S 3 0 10) (gD S 2 0 9) t k → EE false d 154 [vr (some (2, 0)), vi t, vi k] S = some (vi 0, S)) := by
  unfold okSet
  refine ⟨fun ⟨h1, h2⟩ => ?_, fun h => ?_⟩
  · rw [E154 (by omega), b154_0]
    simp only [q_has _ (show 1 ≤ d - 1 by omega), q_within _ (show 1 ≤ d - 1 by omega), bI, i01]
    rw [if_neg (not_not_intro h1), if_neg (not_not_intro h2), E105 (by omega), b105_0, if_pos hn.2]
    have e1 : aw oo (gD S 3 0 9 + 1) = gD S 3 0 9 + 1 := aw_id (by omega)
    simp [gD_wD, hn.1, hn.2, e1, bV]
  · rw [E154 (by omega), b154_0]
    simp only [q_has _ (show 1 ≤ d - 1 by omega), q_within _ (show 1 ≤ d - 1 by omega), bI, i01]
    by_cases h1 : 0 ≤ t ∧ t < gD S 3 0 10
    · rw [if_neg (not_not_intro h1)]
      by_cases h2 : 0 ≤ k ∧ k ≤ gD S 2 0 9
      · exact absurd ⟨h1, h2⟩ h
      · rw [if_pos h2]
    · rw [if_pos h1]
end
