/-! pools of numbers: the reference's search -/
section
variable {d : Nat}
theorem awJ {r l : Nat} (h : r < 12 ∧ 1 ≤ l ∧ l ≤ 1000) : aw oo (aw oo (aw oo (1000 * (r : Int)) + (l : Int)) - 1) = ((1000 * r + (l - 1) : Nat) : Int) := by rw [awK (by omega), aw0 (by omega)]; omega
theorem w_M_find {K : KT} {ref n0 : Nat} {x : Int} {P : Nat → Int} {a : Nat} {S : SD} (hr : ref < 12) (hB : n0 < 999) (hs : SRT P n0) (hP : ∀ i, i < n0 → (gD S 151 0 (1000 * ref + i)) = P i) (hM : (gD S 150 0 ref) = (n0 : Int)) (ha : PLC P n0 x a) {G : SD → Prop} (hf : a < n0 → P a = x → G S) (hn : ¬ (a < n0 ∧ P a = x) → ∀ n, 990000 ≤ n → ∃ S', run oo K false mi_275 n 111 [(0, vr (some (85, 0))), (1, vi (ref : Int)), (2, vi x), (4, vi (a : Int)), (5, vi (n0 : Int))] [] S = some (vi 0, S') ∧ G S') : ∀ (n j : Nat), a ≤ j → j ≤ n0 → 990000 + (j - a) < n → (a < n0 ∧ P a = x → a < j) → ∃ S', run oo K false mi_275 n 48 [(0, vr (some (85, 0))), (1, vi (ref : Int)), (2, vi x), (4, vi (j : Int))] [] S = some (vi 0, S') ∧ G S' := by
  obtain ⟨a1, a2, a3⟩ := ha
  intro n
  induction n with
  | zero => intro j z1 z2 z3 z4; omega
  | succ n ih =>
    intro j z1 z2 z3 z4
    rw [b275_48]
    by_cases h0 : j = 0
    · subst h0
      have e : a = 0 := by omega
      subst e
      rw [if_neg (by omega), if_neg (by omega), if_pos (by omega), tn, hM]
      exact hn (fun q => absurd (z4 q) (by omega)) n (by omega)
    · rw [if_pos (by omega), awJ (by omega), if_pos (by omega), tn, hP (j - 1) (by omega)]
      by_cases c : x < P (j - 1)
      · rw [if_pos c, awm' (by omega)]
        have : a ≤ j - 1 := by
          by_cases e : a = j
          · have := a2 (j - 1) (by omega)
            omega
          · omega
        exact ih (j - 1) (by omega) (by omega) (by omega) (fun q => by
          have := z4 q
          by_cases e : a = j - 1
          · rw [← e] at c
            have := q.2
            omega
          · omega)
      · rw [if_neg c, if_pos (by omega), if_pos (by omega)]
        by_cases q : P (j - 1) = x
        · rw [if_pos q]
          have e : a = j - 1 := by
            by_cases e : a = j
            · have := a2 (j - 1) (by omega)
              omega
            · by_cases e2 : a = j - 1
              · exact e2
              · have := a3 a (by omega) (by omega)
                have := hs a (j - 1) (by omega) (by omega)
                omega
          exact ⟨S, rfl, hf (by omega) (by rw [e]; exact q)⟩
        · rw [if_neg q, if_pos (by omega), tn, hM]
          have e : a = j := by
            by_cases e : a = j
            · exact e
            · have := a3 (j - 1) (by omega) (by omega)
              omega
          subst e
          exact hn (fun q => absurd (z4 q) (by omega)) n (by omega)
end
