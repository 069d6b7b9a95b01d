/-! plain rules -/
section
variable {d : Nat}
theorem w_plain {Sc Sm : SD} {r F : Nat} (h1 : RR1 r Sc Sm) (hr : r < 20) (hF : (gD Sc 47 r 7) = (F : Int)) (hF16 : F ≤ 16) : ∀ (n k : Nat), k ≤ F → F - k < n → ∃ b, (∀ K, run oo K false mi_53 n 19 [(0, vr (some (47, r))), (1, vi (k : Int))] [] Sc = some (vi (bi b), Sc)) ∧ (∀ K, run oo K false mi_273 n 22 [(0, vr (some (85, 0))), (1, vi (r : Int)), (2, vi (k : Int))] [] Sm = some (vi (bi b), Sm)) ∧ (b = true ↔ ∀ i, k ≤ i → i < F → (gD Sc 48 r i) = 0) := by
  unfold RR1 at h1
  obtain ⟨a1, a2, a3, a4, a5, a6⟩ := h1
  intro n
  induction n with
  | zero => intro k z1 z2; omega
  | succ n ih =>
    intro k z1 z2
    by_cases hk : k < F
    · obtain ⟨f1, _⟩ := a6 k (by omega)
      by_cases q : (gD Sc 48 r k) = 0
      · obtain ⟨b, i1, i2, i3⟩ := ih (k + 1) (by omega) (by omega)
        refine ⟨b, fun K => ?_, fun K => ?_, i3.trans ⟨fun h i j1 j2 => ?_, fun h i j1 j2 => h i (by omega) j2⟩⟩
        · rw [b53_19, hF, if_pos (by omega), if_pos (by omega), bnd (by omega), tn, if_pos q, awp (by omega)]
          exact i1 K
        · rw [b273_22, bnd (by omega), tn, a1, hF, if_pos (by omega), awB (by omega), bnd (by omega), tn, f1, if_pos q, awp (by omega)]
          exact i2 K
        · by_cases e : i = k
          · subst e; exact q
          · exact h i (by omega) j2
      · refine ⟨false, fun K => ?_, fun K => ?_, fun h => (by cases h), fun h => absurd (h k (by omega) hk) q⟩
        · rw [b53_19, hF, if_pos (by omega), if_pos (by omega), bnd (by omega), tn, if_neg q]
          rfl
        · rw [b273_22, bnd (by omega), tn, a1, hF, if_pos (by omega), awB (by omega), bnd (by omega), tn, f1, if_neg q]
          rfl
    · refine ⟨true, fun K => ?_, fun K => ?_, fun _ i j1 j2 => by omega, fun _ => rfl⟩
      · rw [b53_19, hF, if_neg (by omega)]
        rfl
      · rw [b273_22, bnd (by omega), tn, a1, hF, if_neg (by omega)]
        rfl
def PLN (S : SD) (r : Nat) : Prop := (gD S 47 r 13) ≠ -1 ∧ (gD S 47 r 11) = 0 ∧ ∀ i : Nat, (i : Int) < (gD S 47 r 7) → (gD S 48 r i) = 0
theorem plain_both {Sc Sm : SD} {r : Nat} (h1 : RR1 r Sc Sm) (h3 : RR3 r Sc Sm) (hr : r < 20) : ∃ b, (∀ d, 1 ≤ d → EE false d 53 [vr (some (47, r))] Sc = some (vi (bi b), Sc)) ∧ (∀ d, 1 ≤ d → EE false d 273 [vr (some (85, 0)), vi (r : Int)] Sm = some (vi (bi b), Sm)) ∧ (b = true ↔ PLN Sc r) := by
  have h1' := h1
  unfold RR1 at h1'
  obtain ⟨a1, a2, a3, a4, a5, a6⟩ := h1'
  unfold RR3 at h3
  obtain ⟨l1, l2, l3, l4, l5, l6, l7, l8, l9⟩ := h3
  obtain ⟨F, hF⟩ := Int.eq_ofNat_of_zero_le (show 0 ≤ (gD Sc 47 r 7) by omega)
  obtain ⟨b, i1, i2, i3⟩ := w_plain h1 hr hF (by omega) 999999 0 (by omega) (by omega)
  rcases l9 with ⟨p1, p2, p3, p4, p5, p6⟩ | ⟨p1, p2, p3, p4⟩
  · by_cases q : (gD Sc 47 r 11) = 0
    · rw [if_pos q] at l3
      refine ⟨b, fun d hd => ?_, fun d hd => ?_, i3.trans ⟨fun h => ⟨by omega, q, fun i hi => h i (by omega) (by omega)⟩, fun h i j1 j2 => h.2.2 i (by omega)⟩⟩
      · rw [E53 hd, b53_0, if_neg (by omega), if_pos q]
        exact i1 _
      · rw [E273 hd, b273_0, bnd (by omega), tn, p1, if_neg (by decide), bnd (by omega), l3, if_pos rfl]
        exact i2 _
    · rw [if_neg q] at l3
      refine ⟨false, fun d hd => ?_, fun d hd => ?_, fun h => (by cases h), fun h => absurd h.2.1 q⟩
      · rw [E53 hd, b53_0, if_neg (by omega), if_neg q]
        rfl
      · rw [E273 hd, b273_0, bnd (by omega), tn, p1, if_neg (by decide), bnd (by omega), l3, if_neg (by decide)]
        rfl
  · refine ⟨false, fun d hd => ?_, fun d hd => ?_, fun h => (by cases h), fun h => absurd p2 h.1⟩
    · rw [E53 hd, b53_0, if_pos p2]
      rfl
    · rw [E273 hd, b273_0, bnd (by omega), tn, p1, if_pos rfl]
      rfl
end
