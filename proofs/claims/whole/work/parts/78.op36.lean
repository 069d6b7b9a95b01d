/-! pools of numbers: the class's search -/
section
variable {d : Nat}
/-- rising numbers -/
def SRT (P : Nat → Int) (n : Nat) : Prop := ∀ i j, i < j → j < n → P i < P j
/-- the place of x -/
def PLC (P : Nat → Int) (n : Nat) (x : Int) (a : Nat) : Prop := a ≤ n ∧ (∀ i, i < a → P i < x) ∧ ∀ i, a ≤ i → i < n → x ≤ P i
theorem PLC_un {P n x a b} (h1 : PLC P n x a) (h2 : PLC P n x b) : a = b := by
  obtain ⟨h1, h3, h4⟩ := h1
  obtain ⟨h2, h5, h6⟩ := h2
  by_cases c : a < b
  · have := h5 a c
    have := h4 a (by omega) (by omega)
    omega
  · by_cases c2 : b < a
    · have := h3 b c2
      have := h6 b (by omega) (by omega)
      omega
    · omega
/-- the list with x in it -/
def INS (P : Nat → Int) (x : Int) (a : Nat) (i : Nat) : Int := if i < a then P i else if i = a then x else P (i - 1)
theorem INS_srt {P n x a} (hs : SRT P n) (h : PLC P n x a) (hx : a < n → P a ≠ x) : SRT (INS P x a) (n + 1) := by
  obtain ⟨h1, h3, h4⟩ := h
  intro i j hij hj
  unfold INS
  by_cases c1 : i < a
  · rw [if_pos c1]
    by_cases c2 : j < a
    · rw [if_pos c2]; exact hs i j hij (by omega)
    · rw [if_neg c2]
      by_cases c3 : j = a
      · rw [if_pos c3]; exact h3 i c1
      · rw [if_neg c3]; exact hs i (j - 1) (by omega) (by omega)
  · rw [if_neg c1, if_neg (show ¬ j < a by omega), if_neg (show ¬ j = a by omega)]
    by_cases c3 : i = a
    · rw [if_pos c3]
      have q1 := h4 a (by omega) (by omega)
      have q2 := hx (by omega)
      by_cases c4 : j - 1 = a
      · rw [c4]; omega
      · have := hs a (j - 1) (by omega) (by omega)
        omega
    · rw [if_neg c3]; exact hs (i - 1) (j - 1) (by omega) (by omega)
end
