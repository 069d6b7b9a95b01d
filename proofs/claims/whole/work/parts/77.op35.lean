/-! pools of numbers: the reference's shift -/
section
variable {d : Nat}
theorem awK {r i : Nat} (h : r < 12 ∧ i ≤ 1000) : aw oo (aw oo (1000 * (r : Int)) + (i : Int)) = ((1000 * r + i : Nat) : Int) := by rw [aw0 (z := 1000 * (r : Int)) (by omega), aw0 (by omega)]; omega
theorem w_M_shift {K : KT} {ref a E : Nat} {x : Int} (hr : ref < 12) (hE : E < 999) (ha : a ≤ E) : ∀ (n m : Nat) (S : SD), a + m ≤ E → m < n → (gD S 150 0 ref = (E : Int)) → ∃ S', run oo K false mi_275 n 111 [(0, vr (some (85, 0))), (1, vi (ref : Int)), (2, vi x), (4, vi (a : Int)), (5, vi ((a + m : Nat) : Int))] [] S = some (vi 0, S') ∧ EqX [151, 150] [] S S' ∧ (∀ j : Nat, gD S' 151 0 j = if j = 1000 * ref + a then x else if 1000 * ref + a < j ∧ j ≤ 1000 * ref + a + m then gD S 151 0 (j - 1) else gD S 151 0 j) ∧ (∀ j : Nat, gD S' 150 0 j = if j = ref then ((E + 1 : Nat) : Int) else gD S 150 0 j) := by
  intro n
  induction n with
  | zero => intro m S z1 z2; omega
  | succ n ih =>
    intro m S z1 z2 z3
    rw [b275_111]
    by_cases hm : m = 0
    · subst hm
      refine ⟨wD (wD S 151 0 (1000 * ref + a) x) 150 0 ref ((E + 1 : Nat) : Int), ?_, EqX_wA (EqX_wA EqX_rf (by decide)) (by decide), fun j => ?_, fun j => ?_⟩
      · rw [if_neg (by omega), awK (by omega), if_pos (by omega), if_pos (by omega), if_pos (by omega), tn, tn, g_f (by decide), z3, awn (by omega)]
      · rw [g_f (by decide), g_i]
        by_cases e : j = 1000 * ref + a
        · rw [if_pos e, if_pos e]
        · rw [if_neg e, if_neg e, if_neg (by omega)]
      · rw [g_i]
        by_cases e : j = ref
        · rw [if_pos e, if_pos e]
        · rw [if_neg e, if_neg e, g_f (by decide)]
    · rw [if_pos (by omega), awK (by omega), awm (by omega), awm' (by omega), if_pos (by omega), if_pos (by omega), tn, tn, show 1000 * ref + (a + m) - 1 = 1000 * ref + (a + (m - 1)) by omega, show a + m - 1 = a + (m - 1) by omega]
      obtain ⟨S', i1, i2, i3, i4⟩ := ih (m - 1) (wD S 151 0 (1000 * ref + (a + m)) (gD S 151 0 (1000 * ref + (a + (m - 1))))) (by omega) (by omega) (by rw [g_f (by decide)]; exact z3)
      refine ⟨S', i1, EqX_tr (EqX_wA EqX_rf (by decide)) i2, fun j => ?_, fun j => ?_⟩
      · rw [i3 j]
        by_cases e : j = 1000 * ref + a
        · rw [if_pos e, if_pos e]
        · rw [if_neg e, if_neg e]
          by_cases e2 : 1000 * ref + a < j ∧ j ≤ 1000 * ref + a + (m - 1)
          · rw [if_pos e2, if_pos (by omega), g_i, if_neg (by omega)]
          · rw [if_neg e2, g_i]
            by_cases e3 : j = 1000 * ref + (a + m)
            · rw [if_pos e3, if_pos (by omega), show j - 1 = 1000 * ref + (a + (m - 1)) by omega]
            · rw [if_neg e3, if_neg (by omega)]
      · rw [i4 j, g_f (by decide)]
end
