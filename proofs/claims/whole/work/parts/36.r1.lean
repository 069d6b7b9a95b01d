/-! layer 2: Things, both sides -/
section
variable {d : Nat} (S : SD)
def okField (k f lo hi sp : Int) : Prop := (0 ≤ k ∧ k ≤ 7) ∧ (0 ≤ f ∧ f ≤ 2) ∧ (0 ≤ sp ∧ sp ≤ 10000) ∧ -100000 ≤ lo ∧ hi ≤ 100000 ∧ lo ≤ hi
theorem q_field (hd : 3 ≤ d) (k f lo hi sp : Int) : (okField k f lo hi sp → EE false d 148 [vr (some (2, 0)), vi k, vi f, vi lo, vi hi, vi sp] S = some (vi 1, wD (wD (wD S 6 0 (k * 3 + f).toNat lo) 7 0 (k * 3 + f).toNat hi) 8 0 (k * 3 + f).toNat sp)) ∧ (¬ okField k f lo hi sp → EE false d 148 [vr (some (2, 0)), vi k, vi f, vi lo, vi hi, vi sp] S = some (vi 0, S)) := by
  unfold okField
  refine ⟨fun h => ?_, fun h => ?_⟩
  · rw [E148 (by omega), b148_0, q_describe _ (show 2 ≤ d - 1 by omega), if_pos h]
    rfl
  · rw [E148 (by omega), b148_0, q_describe _ (show 2 ≤ d - 1 by omega), if_neg h]
    rfl
theorem q_M_field' (hd : 2 ≤ d) (k f lo hi sp : Int) : (okField k f lo hi sp → EE false d 198 [vr (some (85, 0)), vi k, vi f, vi lo, vi hi, vi sp] S = some (vi 1, wD (wD (wD S 86 0 (3 * k + f).toNat lo) 87 0 (3 * k + f).toNat hi) 88 0 (3 * k + f).toNat sp)) ∧ (¬ okField k f lo hi sp → EE false d 198 [vr (some (85, 0)), vi k, vi f, vi lo, vi hi, vi sp] S = some (vi 0, S)) := by
  unfold okField
  exact ⟨fun h => by rw [q_M_field _ hd, if_pos h], fun h => by rw [q_M_field _ hd, if_neg h]⟩
end
