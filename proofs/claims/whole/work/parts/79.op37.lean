/-! pools of numbers: insert of the class -/
section
variable {d : Nat}
theorem w_find {K : KT} {ref B n0 : Nat} {x : Int} {P : Nat → Int} {a : Nat} {S : SD} (hB : B + n0 < 1024) (hP : ∀ i, i < n0 → (gD S 65 0 (B + i)) = P i) (ha : PLC P n0 x a) {G : SD → Prop} (hf : a < n0 → P a = x → G S) (hn : ¬ (a < n0 ∧ P a = x) → ∀ n, 990000 ≤ n → ∃ S', run oo K false mi_89 n 68 [(0, vr (some (62, 0))), (1, vi (ref : Int)), (2, vi x), (3, vi ((B + a : Nat) : Int)), (4, vi ((B + n0 : Nat) : Int)), (5, vi ((B + n0 : Nat) : Int))] [] S = some (vi 0, S') ∧ G S') : ∀ (n j : Nat), j ≤ a → 990000 + (a - j) < n → ∃ S', run oo K false mi_89 n 17 [(0, vr (some (62, 0))), (1, vi (ref : Int)), (2, vi x), (3, vi ((B + j : Nat) : Int)), (4, vi ((B + n0 : Nat) : Int))] [] S = some (vi 0, S') ∧ G S' := by
  obtain ⟨a1, a2, a3⟩ := ha
  intro n
  induction n with
  | zero => intro j z1 z2; omega
  | succ n ih =>
    intro j z1 z2
    rw [b89_17]
    by_cases hj : j < a
    · have e := awp (show B + j < 1000000 by omega)
      rw [show B + j + 1 = B + (j + 1) by omega] at e
      rw [if_pos (by omega), if_pos (by omega), tn, hP j (by omega), if_pos (a2 j hj), e]
      exact ih (j + 1) (by omega) (by omega)
    · have e : j = a := by omega
      subst e
      by_cases hjn : j < n0
      · have := a3 j (by omega) hjn
        rw [if_pos (by omega), if_pos (by omega), tn, hP j hjn, if_neg (by omega), if_pos (by omega), if_pos (by omega), if_pos (by omega)]
        by_cases q : P j = x
        · rw [if_pos q]
          exact ⟨S, rfl, hf hjn q⟩
        · rw [if_neg q]
          exact hn (fun h => q h.2) n (by omega)
      · rw [if_neg (by omega), if_pos (by omega), if_neg (by omega)]
        exact hn (fun h => hjn h.1) n (by omega)
end
