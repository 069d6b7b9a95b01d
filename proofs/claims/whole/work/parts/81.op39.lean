/-! pools of numbers: the place is there; insert of the class -/
section
variable {d : Nat}
theorem PLC_ex {P : Nat → Int} {x : Int} : ∀ n, SRT P n → ∃ a, PLC P n x a := by
  intro n
  induction n with
  | zero => intro _; exact ⟨0, by omega, fun i h => by omega, fun i _ h => by omega⟩
  | succ n ih =>
    intro hs
    obtain ⟨a, h1, h2, h3⟩ := ih (fun i j hi hj => hs i j hi (by omega))
    by_cases c : a = n
    · by_cases c2 : P n < x
      · refine ⟨n + 1, by omega, fun i hi => ?_, fun i _ _ => by omega⟩
        by_cases e : i = n
        · rw [e]; exact c2
        · exact h2 i (by omega)
      · refine ⟨n, by omega, fun i hi => h2 i (by omega), fun i i1 i2 => ?_⟩
        rw [show i = n by omega]; omega
    · refine ⟨a, by omega, h2, fun i i1 i2 => ?_⟩
      by_cases e : i = n
      · have := h3 a (by omega) (by omega)
        have := hs a n (by omega) (by omega)
        rw [e]; omega
      · exact h3 i i1 (by omega)
end
