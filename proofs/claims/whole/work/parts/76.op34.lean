/-! pools of numbers -/
section
variable {d : Nat}
theorem awm {x : Nat} (h : 1 ≤ x ∧ x < 1000000) : aw oo ((x : Int) - 1) = ((x - 1 : Nat) : Int) := by rw [aw0 (by omega)]; omega
theorem awm' {x : Nat} (h : 1 ≤ x ∧ x < 1000000) : aw oo ((x : Int) + (-1)) = ((x - 1 : Nat) : Int) := by rw [aw0 (by omega)]; omega
theorem w_shift {K : KT} {ref a E : Nat} {x : Int} (hr : ref < 12) (hE : E < 1024) (ha : a ≤ E) : ∀ (n m : Nat) (S : SD), a + m ≤ E → m < n → ∃ S', run oo K false mi_89 n 68 [(0, vr (some (62, 0))), (1, vi (ref : Int)), (2, vi x), (3, vi (a : Int)), (4, vi (E : Int)), (5, vi ((a + m : Nat) : Int))] [] S = some (vi 0, S') ∧ EqX [65, 66] [] S S' ∧ (∀ j : Nat, gD S' 65 0 j = if j = a then x else if a < j ∧ j ≤ a + m then gD S 65 0 (j - 1) else gD S 65 0 j) ∧ (∀ j : Nat, gD S' 66 0 j = if j = ref + 1 then ((E + 1 : Nat) : Int) else gD S 66 0 j) := by
  intro n
  induction n with
  | zero => intro m S z1 z2; omega
  | succ n ih =>
    intro m S z1 z2
    rw [b89_68]
    by_cases hm : m = 0
    · subst hm
      refine ⟨wD (wD S 65 0 a x) 66 0 (ref + 1) ((E + 1 : Nat) : Int), ?_, EqX_wA (EqX_wA EqX_rf (by decide)) (by decide), fun j => ?_, fun j => ?_⟩
      · rw [if_neg (by omega), if_pos (by omega), awn (by omega), if_pos (by omega), tn, tn, awn (by omega)]
      · rw [g_f (by decide), g_i]
        by_cases e : j = a
        · rw [if_pos e, if_pos e]
        · rw [if_neg e, if_neg e, if_neg (by omega)]
      · rw [g_i]
        by_cases e : j = ref + 1
        · rw [if_pos e, if_pos e]
        · rw [if_neg e, if_neg e, g_f (by decide)]
    · rw [if_pos (by omega), awm (by omega), awm' (by omega), if_pos (by omega), if_pos (by omega), tn, tn, show a + m - 1 = a + (m - 1) by omega]
      obtain ⟨S', i1, i2, i3, i4⟩ := ih (m - 1) (wD S 65 0 (a + m) (gD S 65 0 (a + (m - 1)))) (by omega) (by omega)
      refine ⟨S', i1, EqX_tr (EqX_wA EqX_rf (by decide)) i2, fun j => ?_, fun j => ?_⟩
      · rw [i3 j]
        by_cases e : j = a
        · rw [if_pos e, if_pos e]
        · rw [if_neg e, if_neg e]
          by_cases e2 : a < j ∧ j ≤ a + (m - 1)
          · rw [if_pos e2, if_pos (by omega), g_i, if_neg (by omega)]
          · rw [if_neg e2, g_i]
            by_cases e3 : j = a + m
            · rw [if_pos e3, if_pos (by omega), show j - 1 = a + (m - 1) by omega]
            · rw [if_neg e3, if_neg (by omega)]
      · rw [i4 j, g_f (by decide)]
end
