/-! layer 2: what ties the class's cells (in Sc) to the reference's (in Sm), module by module -/
def IN (Sc Sm : SD) : Prop := (gD Sm 85 0 0) = (gD Sc 2 0 9) ∧ 0 ≤ (gD Sc 2 0 9) ∧ (gD Sc 2 0 9) ≤ 3999
def IN_ac : List Nat := []
def IN_cc : List (Nat × Nat) := [(2, 9)]
def IN_am : List Nat := []
def IN_cm : List (Nat × Nat) := [(85, 0)]
theorem IN_fr {Sc Sc' Sm Sm' : SD} (h : AgA IN_ac IN_cc Sc Sc') (h' : AgA IN_am IN_cm Sm Sm') (hI : IN Sc Sm) : IN Sc' Sm' := by
  have e1 : ∀ j, gD Sc' 2 j 9 = gD Sc 2 j 9 := h.2 (2, 9) (by decide)
  have e2 : ∀ j, gD Sm' 85 j 0 = gD Sm 85 j 0 := h'.2 (85, 0) (by decide)
  unfold IN at *
  simp only [e1, e2]
  exact hI
def IT (Sc Sm : SD) : Prop := (gD Sm 85 0 6) = (gD Sc 3 0 10) ∧ 0 ≤ (gD Sc 3 0 10) ∧ (gD Sc 3 0 10) ≤ 40
  ∧ (∀ k : Nat, (gD Sm 91 0 k) = (gD Sc 9 0 k)) ∧ (∀ k : Nat, 0 ≤ (gD Sc 9 0 k) ∧ (gD Sc 9 0 k) ≤ 7)
  ∧ (∀ k : Nat, (gD Sm 92 0 k) = (gD Sc 10 0 k)) ∧ (∀ k : Nat, 0 ≤ (gD Sc 10 0 k) ∧ (gD Sc 10 0 k) ≤ 7)
  ∧ (∀ k : Nat, (gD Sm 86 0 k) = (gD Sc 6 0 k)) ∧ (∀ k : Nat, (gD Sm 87 0 k) = (gD Sc 7 0 k)) ∧ (∀ k : Nat, (gD Sm 88 0 k) = (gD Sc 8 0 k))
  ∧ (∀ k : Nat, -100000 ≤ (gD Sc 6 0 k) ∧ (gD Sc 6 0 k) ≤ (gD Sc 7 0 k) ∧ (gD Sc 7 0 k) ≤ 100000)
  ∧ (∀ k : Nat, 0 ≤ (gD Sc 8 0 k) ∧ (gD Sc 8 0 k) ≤ 10000)
  ∧ (∀ k : Nat, (gD Sm 89 0 k) = (gD Sc 4 0 k)) ∧ (∀ k : Nat, 0 ≤ (gD Sc 4 0 k) ∧ (gD Sc 4 0 k) ≤ 500)
  ∧ (∀ k : Nat, (gD Sm 90 0 k) = (gD Sc 5 0 k)) ∧ (∀ k : Nat, 0 ≤ (gD Sc 5 0 k) ∧ (gD Sc 5 0 k) ≤ 9999)
def IT_ac : List Nat := [4, 5, 6, 7, 8, 9, 10]
def IT_cc : List (Nat × Nat) := [(3, 10)]
def IT_am : List Nat := [86, 87, 88, 89, 90, 91, 92]
def IT_cm : List (Nat × Nat) := [(85, 6)]
theorem IT_fr {Sc Sc' Sm Sm' : SD} (h : AgA IT_ac IT_cc Sc Sc') (h' : AgA IT_am IT_cm Sm Sm') (hI : IT Sc Sm) : IT Sc' Sm' := by
  have e1 : ∀ j k, gD Sc' 4 j k = gD Sc 4 j k := h.1 4 (by decide)
  have e2 : ∀ j k, gD Sc' 5 j k = gD Sc 5 j k := h.1 5 (by decide)
  have e3 : ∀ j k, gD Sc' 6 j k = gD Sc 6 j k := h.1 6 (by decide)
  have e4 : ∀ j k, gD Sc' 7 j k = gD Sc 7 j k := h.1 7 (by decide)
  have e5 : ∀ j k, gD Sc' 8 j k = gD Sc 8 j k := h.1 8 (by decide)
  have e6 : ∀ j k, gD Sc' 9 j k = gD Sc 9 j k := h.1 9 (by decide)
  have e7 : ∀ j k, gD Sc' 10 j k = gD Sc 10 j k := h.1 10 (by decide)
  have e8 : ∀ j, gD Sc' 3 j 10 = gD Sc 3 j 10 := h.2 (3, 10) (by decide)
  have e9 : ∀ j k, gD Sm' 86 j k = gD Sm 86 j k := h'.1 86 (by decide)
  have e10 : ∀ j k, gD Sm' 87 j k = gD Sm 87 j k := h'.1 87 (by decide)
  have e11 : ∀ j k, gD Sm' 88 j k = gD Sm 88 j k := h'.1 88 (by decide)
  have e12 : ∀ j k, gD Sm' 89 j k = gD Sm 89 j k := h'.1 89 (by decide)
  have e13 : ∀ j k, gD Sm' 90 j k = gD Sm 90 j k := h'.1 90 (by decide)
  have e14 : ∀ j k, gD Sm' 91 j k = gD Sm 91 j k := h'.1 91 (by decide)
  have e15 : ∀ j k, gD Sm' 92 j k = gD Sm 92 j k := h'.1 92 (by decide)
  have e16 : ∀ j, gD Sm' 85 j 6 = gD Sm 85 j 6 := h'.2 (85, 6) (by decide)
  unfold IT at *
  simp only [e1, e2, e3, e4, e5, e6, e7, e8, e9, e10, e11, e12, e13, e14, e15, e16]
  exact hI
def IS (i : Nat) (Sc Sm : SD) : Prop := (gD Sm 85 0 27) = (gD Sc 3 0 9) ∧ 0 ≤ (gD Sc 3 0 9) ∧ (gD Sc 3 0 9) ≤ (i : Int)
  ∧ (∀ k : Nat, (gD Sm 110 0 k) = (gD Sc 11 0 k)) ∧ (∀ k : Nat, (gD Sm 111 0 k) = (gD Sc 12 0 k)) ∧ (∀ k : Nat, 0 ≤ (gD Sc 12 0 k) ∧ (gD Sc 12 0 k) ≤ 3999)
def IS_ac : List Nat := [11, 12]
def IS_cc : List (Nat × Nat) := [(3, 9)]
def IS_am : List Nat := [110, 111]
def IS_cm : List (Nat × Nat) := [(85, 27)]
theorem IS_fr {Sc Sc' Sm Sm' : SD} {i : Nat} (h : AgA IS_ac IS_cc Sc Sc') (h' : AgA IS_am IS_cm Sm Sm') (hI : IS i Sc Sm) : IS i Sc' Sm' := by
  have e1 : ∀ j k, gD Sc' 11 j k = gD Sc 11 j k := h.1 11 (by decide)
  have e2 : ∀ j k, gD Sc' 12 j k = gD Sc 12 j k := h.1 12 (by decide)
  have e3 : ∀ j, gD Sc' 3 j 9 = gD Sc 3 j 9 := h.2 (3, 9) (by decide)
  have e4 : ∀ j k, gD Sm' 110 j k = gD Sm 110 j k := h'.1 110 (by decide)
  have e5 : ∀ j k, gD Sm' 111 j k = gD Sm 111 j k := h'.1 111 (by decide)
  have e6 : ∀ j, gD Sm' 85 j 27 = gD Sm 85 j 27 := h'.2 (85, 27) (by decide)
  unfold IS at *
  simp only [e1, e2, e3, e4, e5, e6]
  exact hI
def IW (Sc Sm : SD) : Prop := (gD Sm 85 0 13) = (gD Sc 13 0 16) ∧ 0 ≤ (gD Sc 13 0 16) ∧ (gD Sc 13 0 16) ≤ 400
  ∧ (∀ k : Nat, (gD Sm 97 0 k) = (gD Sc 14 0 k)) ∧ (∀ k : Nat, (gD Sm 98 0 k) = (gD Sc 15 0 k)) ∧ (∀ k : Nat, (gD Sm 99 0 k) = (gD Sc 16 0 k))
  ∧ (∀ k : Nat, (gD Sm 100 0 k) = (gD Sc 17 0 k)) ∧ (∀ k : Nat, (gD Sm 101 0 k) = (gD Sc 18 0 k)) ∧ (∀ k : Nat, (gD Sm 102 0 k) = (gD Sc 19 0 k))
  ∧ (∀ k : Nat, (gD Sm 103 0 k) = (gD Sc 20 0 k)) ∧ (∀ k : Nat, (gD Sm 104 0 k) = (gD Sc 21 0 k)) ∧ (∀ k : Nat, (gD Sm 105 0 k) = (gD Sc 22 0 k))
  ∧ (∀ k : Nat, (gD Sm 106 0 k) = (gD Sc 23 0 k)) ∧ (∀ k : Nat, (gD Sc 23 0 k) = -1000000 ∨ (-100000 ≤ (gD Sc 23 0 k) ∧ (gD Sc 23 0 k) ≤ 100000))
  ∧ (∀ k : Nat, (k : Int) < (gD Sc 13 0 16) → 0 ≤ (gD Sc 14 0 k) ∧ (gD Sc 14 0 k) < (gD Sc 3 0 10) ∧ 1 ≤ (gD Sc 15 0 k) ∧ (gD Sc 15 0 k) ≤ 200 ∧ 0 ≤ (gD Sc 17 0 k) ∧ (gD Sc 17 0 k) ≤ (gD Sc 2 0 9) ∧ 0 ≤ (gD Sc 18 0 k) ∧ (gD Sc 18 0 k) ≤ 3999 ∧ 0 ≤ (gD Sc 19 0 k) ∧ (gD Sc 19 0 k) ≤ 3999)
  ∧ (∀ k l : Nat, k ≤ l → (l : Int) < (gD Sc 13 0 16) → (gD Sc 17 0 k) ≤ (gD Sc 17 0 l))
  ∧ (∀ k : Nat, (gD Sc 28 0 k) = 0 ∨ (gD Sc 28 0 k) = 1 ∨ (gD Sc 28 0 k) = 2)
  ∧ (∀ k : Nat, (gD Sm 107 0 k) = if (gD Sc 28 0 k) = 1 then 1 else 0)
  ∧ (∀ k : Nat, ((gD Sc 28 0 k) = 2 → (gD Sm 108 0 k) = 1) ∧ ((gD Sc 28 0 k) = 0 → (gD Sm 108 0 k) = 0))
  ∧ (∀ k : Nat, (k : Int) < (gD Sc 13 0 16) → (gD Sc 28 0 (((gD Sc 14 0 k) * 201 + (gD Sc 15 0 k)).toNat)) = 1)
  ∧ (∀ k l : Nat, (k : Int) < (gD Sc 13 0 16) → (l : Int) < (gD Sc 13 0 16) → (gD Sc 14 0 k) = (gD Sc 14 0 l) → (gD Sc 15 0 k) = (gD Sc 15 0 l) → k = l)
  ∧ (∀ k : Nat, (k : Int) ≥ (gD Sc 13 0 16) → (gD Sc 22 0 k) = 0)
  ∧ (∀ k : Nat, (gD Sc 21 0 k) = 0 ∨ (gD Sc 21 0 k) = 1) ∧ (∀ k : Nat, (gD Sc 22 0 k) = 0 ∨ (gD Sc 22 0 k) = 1)
def IW_ac : List Nat := [14, 15, 16, 17, 18, 19, 20, 21, 22, 23, 28]
def IW_cc : List (Nat × Nat) := [(2, 9), (3, 10), (13, 16)]
def IW_am : List Nat := [97, 98, 99, 100, 101, 102, 103, 104, 105, 106, 107, 108]
def IW_cm : List (Nat × Nat) := [(85, 13)]
theorem IW_fr {Sc Sc' Sm Sm' : SD} (h : AgA IW_ac IW_cc Sc Sc') (h' : AgA IW_am IW_cm Sm Sm') (hI : IW Sc Sm) : IW Sc' Sm' := by
  have e1 : ∀ j k, gD Sc' 14 j k = gD Sc 14 j k := h.1 14 (by decide)
  have e2 : ∀ j k, gD Sc' 15 j k = gD Sc 15 j k := h.1 15 (by decide)
  have e3 : ∀ j k, gD Sc' 16 j k = gD Sc 16 j k := h.1 16 (by decide)
  have e4 : ∀ j k, gD Sc' 17 j k = gD Sc 17 j k := h.1 17 (by decide)
  have e5 : ∀ j k, gD Sc' 18 j k = gD Sc 18 j k := h.1 18 (by decide)
  have e6 : ∀ j k, gD Sc' 19 j k = gD Sc 19 j k := h.1 19 (by decide)
  have e7 : ∀ j k, gD Sc' 20 j k = gD Sc 20 j k := h.1 20 (by decide)
  have e8 : ∀ j k, gD Sc' 21 j k = gD Sc 21 j k := h.1 21 (by decide)
  have e9 : ∀ j k, gD Sc' 22 j k = gD Sc 22 j k := h.1 22 (by decide)
  have e10 : ∀ j k, gD Sc' 23 j k = gD Sc 23 j k := h.1 23 (by decide)
  have e11 : ∀ j k, gD Sc' 28 j k = gD Sc 28 j k := h.1 28 (by decide)
  have e12 : ∀ j, gD Sc' 2 j 9 = gD Sc 2 j 9 := h.2 (2, 9) (by decide)
  have e13 : ∀ j, gD Sc' 3 j 10 = gD Sc 3 j 10 := h.2 (3, 10) (by decide)
  have e14 : ∀ j, gD Sc' 13 j 16 = gD Sc 13 j 16 := h.2 (13, 16) (by decide)
  have e15 : ∀ j k, gD Sm' 97 j k = gD Sm 97 j k := h'.1 97 (by decide)
  have e16 : ∀ j k, gD Sm' 98 j k = gD Sm 98 j k := h'.1 98 (by decide)
  have e17 : ∀ j k, gD Sm' 99 j k = gD Sm 99 j k := h'.1 99 (by decide)
  have e18 : ∀ j k, gD Sm' 100 j k = gD Sm 100 j k := h'.1 100 (by decide)
  have e19 : ∀ j k, gD Sm' 101 j k = gD Sm 101 j k := h'.1 101 (by decide)
  have e20 : ∀ j k, gD Sm' 102 j k = gD Sm 102 j k := h'.1 102 (by decide)
  have e21 : ∀ j k, gD Sm' 103 j k = gD Sm 103 j k := h'.1 103 (by decide)
  have e22 : ∀ j k, gD Sm' 104 j k = gD Sm 104 j k := h'.1 104 (by decide)
  have e23 : ∀ j k, gD Sm' 105 j k = gD Sm 105 j k := h'.1 105 (by decide)
  have e24 : ∀ j k, gD Sm' 106 j k = gD Sm 106 j k := h'.1 106 (by decide)
  have e25 : ∀ j k, gD Sm' 107 j k = gD Sm 107 j k := h'.1 107 (by decide)
  have e26 : ∀ j k, gD Sm' 108 j k = gD Sm 108 j k := h'.1 108 (by decide)
  have e27 : ∀ j, gD Sm' 85 j 13 = gD Sm 85 j 13 := h'.2 (85, 13) (by decide)
  unfold IW at *
  simp only [e1, e2, e3, e4, e5, e6, e7, e8, e9, e10, e11, e12, e13, e14, e15, e16, e17, e18, e19, e20, e21, e22, e23, e24, e25, e26, e27]
  exact hI
def IC (Sc Sm : SD) : Prop := (∀ t : Nat, t < 40 → ((gD Sc 26 0 t) = -1 ∧ (gD Sm 109 0 t) = 0 ∧ ∀ k : Nat, (k : Int) < (gD Sc 13 0 16) → (gD Sc 14 0 k) ≠ (t : Int)) ∨ (∃ w : Nat, (gD Sc 26 0 t) = (w : Int) ∧ (w : Int) < (gD Sc 13 0 16) ∧ (gD Sc 14 0 w) = (t : Int) ∧ (gD Sm 109 0 t) = (gD Sc 15 0 w) ∧ ∀ k : Nat, (k : Int) < (gD Sc 13 0 16) → (gD Sc 14 0 k) = (t : Int) → (gD Sc 15 0 k) ≤ (gD Sc 15 0 w)))
  ∧ (∀ w : Nat, (w : Int) < (gD Sc 13 0 16) → ((gD Sc 24 0 w) = -1 ∧ ∀ k : Nat, (k : Int) < (gD Sc 13 0 16) → (gD Sc 14 0 k) = (gD Sc 14 0 w) → (gD Sc 15 0 w) ≤ (gD Sc 15 0 k)) ∨ (∃ v : Nat, (gD Sc 24 0 w) = (v : Int) ∧ (v : Int) < (gD Sc 13 0 16) ∧ (gD Sc 14 0 v) = (gD Sc 14 0 w) ∧ (gD Sc 15 0 v) < (gD Sc 15 0 w) ∧ ∀ k : Nat, (k : Int) < (gD Sc 13 0 16) → (gD Sc 14 0 k) = (gD Sc 14 0 w) → (gD Sc 15 0 k) < (gD Sc 15 0 w) → (gD Sc 15 0 k) ≤ (gD Sc 15 0 v)))
  ∧ (∀ t : Nat, t < 40 → ((gD Sc 27 0 t) = -1 ∧ ∀ k : Nat, (k : Int) < (gD Sc 13 0 16) → (gD Sc 14 0 k) ≠ (t : Int)) ∨ (∃ w : Nat, (gD Sc 27 0 t) = (w : Int) ∧ (w : Int) < (gD Sc 13 0 16) ∧ (gD Sc 14 0 w) = (t : Int) ∧ ∀ k : Nat, (k : Int) < (gD Sc 13 0 16) → (gD Sc 14 0 k) = (t : Int) → k ≤ w))
  ∧ (∀ w : Nat, (w : Int) < (gD Sc 13 0 16) → ((gD Sc 25 0 w) = -1 ∧ ∀ k : Nat, k < w → (gD Sc 14 0 k) ≠ (gD Sc 14 0 w)) ∨ (∃ v : Nat, (gD Sc 25 0 w) = (v : Int) ∧ v < w ∧ (gD Sc 14 0 v) = (gD Sc 14 0 w) ∧ ∀ k : Nat, k < w → (gD Sc 14 0 k) = (gD Sc 14 0 w) → k ≤ v))
def IC_ac : List Nat := [14, 15, 24, 25, 26, 27]
def IC_cc : List (Nat × Nat) := [(13, 16)]
def IC_am : List Nat := [109]
def IC_cm : List (Nat × Nat) := []
theorem IC_fr {Sc Sc' Sm Sm' : SD} (h : AgA IC_ac IC_cc Sc Sc') (h' : AgA IC_am IC_cm Sm Sm') (hI : IC Sc Sm) : IC Sc' Sm' := by
  have e1 : ∀ j k, gD Sc' 14 j k = gD Sc 14 j k := h.1 14 (by decide)
  have e2 : ∀ j k, gD Sc' 15 j k = gD Sc 15 j k := h.1 15 (by decide)
  have e3 : ∀ j k, gD Sc' 24 j k = gD Sc 24 j k := h.1 24 (by decide)
  have e4 : ∀ j k, gD Sc' 25 j k = gD Sc 25 j k := h.1 25 (by decide)
  have e5 : ∀ j k, gD Sc' 26 j k = gD Sc 26 j k := h.1 26 (by decide)
  have e6 : ∀ j k, gD Sc' 27 j k = gD Sc 27 j k := h.1 27 (by decide)
  have e7 : ∀ j, gD Sc' 13 j 16 = gD Sc 13 j 16 := h.2 (13, 16) (by decide)
  have e8 : ∀ j k, gD Sm' 109 j k = gD Sm 109 j k := h'.1 109 (by decide)
  unfold IC at *
  simp only [e1, e2, e3, e4, e5, e6, e7, e8]
  exact hI
def IO (Sc Sm : SD) : Prop := (gD Sm 85 0 73) = (gD Sc 35 0 5) ∧ 0 ≤ (gD Sc 35 0 5) ∧ (gD Sc 35 0 5) ≤ 200
  ∧ (∀ k : Nat, (gD Sm 142 0 k) = (gD Sc 36 0 k)) ∧ (∀ k : Nat, (gD Sm 143 0 k) = (gD Sc 37 0 k)) ∧ (∀ k : Nat, (gD Sm 144 0 k) = (gD Sc 38 0 k))
  ∧ (∀ k : Nat, (gD Sm 145 0 k) = (gD Sc 39 0 k)) ∧ (∀ k : Nat, (gD Sm 146 0 k) = (gD Sc 40 0 k))
  ∧ (∀ k : Nat, 0 ≤ (gD Sc 39 0 k) ∧ (gD Sc 39 0 k) ≤ 3) ∧ (∀ k : Nat, (gD Sc 35 0 5) ≤ (k : Int) → (gD Sc 39 0 k) = 0 ∧ (gD Sc 40 0 k) = 0)
def IO_ac : List Nat := [36, 37, 38, 39, 40]
def IO_cc : List (Nat × Nat) := [(35, 5)]
def IO_am : List Nat := [142, 143, 144, 145, 146]
def IO_cm : List (Nat × Nat) := [(85, 73)]
theorem IO_fr {Sc Sc' Sm Sm' : SD} (h : AgA IO_ac IO_cc Sc Sc') (h' : AgA IO_am IO_cm Sm Sm') (hI : IO Sc Sm) : IO Sc' Sm' := by
  have e1 : ∀ j k, gD Sc' 36 j k = gD Sc 36 j k := h.1 36 (by decide)
  have e2 : ∀ j k, gD Sc' 37 j k = gD Sc 37 j k := h.1 37 (by decide)
  have e3 : ∀ j k, gD Sc' 38 j k = gD Sc 38 j k := h.1 38 (by decide)
  have e4 : ∀ j k, gD Sc' 39 j k = gD Sc 39 j k := h.1 39 (by decide)
  have e5 : ∀ j k, gD Sc' 40 j k = gD Sc 40 j k := h.1 40 (by decide)
  have e6 : ∀ j, gD Sc' 35 j 5 = gD Sc 35 j 5 := h.2 (35, 5) (by decide)
  have e7 : ∀ j k, gD Sm' 142 j k = gD Sm 142 j k := h'.1 142 (by decide)
  have e8 : ∀ j k, gD Sm' 143 j k = gD Sm 143 j k := h'.1 143 (by decide)
  have e9 : ∀ j k, gD Sm' 144 j k = gD Sm 144 j k := h'.1 144 (by decide)
  have e10 : ∀ j k, gD Sm' 145 j k = gD Sm 145 j k := h'.1 145 (by decide)
  have e11 : ∀ j k, gD Sm' 146 j k = gD Sm 146 j k := h'.1 146 (by decide)
  have e12 : ∀ j, gD Sm' 85 j 73 = gD Sm 85 j 73 := h'.2 (85, 73) (by decide)
  unfold IO at *
  simp only [e1, e2, e3, e4, e5, e6, e7, e8, e9, e10, e11, e12]
  exact hI
def IX (b : Nat) (Sc Sm : SD) : Prop := (∀ k : Nat, (gD Sm 139 0 k) = (gD Sc 32 0 k)) ∧ (∀ k : Nat, 0 ≤ (gD Sc 32 0 k) ∧ (gD Sc 32 0 k) ≤ 9)
  ∧ (∀ k : Nat, (gD Sm 140 0 k) = (gD Sc 33 0 k)) ∧ (∀ k : Nat, (gD Sm 141 0 k) = (gD Sc 34 0 k))
  ∧ (gD Sm 85 0 72) = (gD Sc 31 0 3) ∧ 0 ≤ (gD Sc 31 0 3) ∧ (gD Sc 31 0 3) ≤ (b : Int) ∧ (∀ k : Nat, 0 ≤ (gD Sc 34 0 k) ∧ (gD Sc 34 0 k) ≤ (gD Sc 31 0 3))
  ∧ (∀ k : Nat, (gD Sc 34 0 k) ≠ 0 → (gD Sc 33 0 k) ≠ -1000000)
def IX_ac : List Nat := [32, 33, 34]
def IX_cc : List (Nat × Nat) := [(31, 3)]
def IX_am : List Nat := [139, 140, 141]
def IX_cm : List (Nat × Nat) := [(85, 72)]
theorem IX_fr {Sc Sc' Sm Sm' : SD} {b : Nat} (h : AgA IX_ac IX_cc Sc Sc') (h' : AgA IX_am IX_cm Sm Sm') (hI : IX b Sc Sm) : IX b Sc' Sm' := by
  have e1 : ∀ j k, gD Sc' 32 j k = gD Sc 32 j k := h.1 32 (by decide)
  have e2 : ∀ j k, gD Sc' 33 j k = gD Sc 33 j k := h.1 33 (by decide)
  have e3 : ∀ j k, gD Sc' 34 j k = gD Sc 34 j k := h.1 34 (by decide)
  have e4 : ∀ j, gD Sc' 31 j 3 = gD Sc 31 j 3 := h.2 (31, 3) (by decide)
  have e5 : ∀ j k, gD Sm' 139 j k = gD Sm 139 j k := h'.1 139 (by decide)
  have e6 : ∀ j k, gD Sm' 140 j k = gD Sm 140 j k := h'.1 140 (by decide)
  have e7 : ∀ j k, gD Sm' 141 j k = gD Sm 141 j k := h'.1 141 (by decide)
  have e8 : ∀ j, gD Sm' 85 j 72 = gD Sm 85 j 72 := h'.2 (85, 72) (by decide)
  unfold IX at *
  simp only [e1, e2, e3, e4, e5, e6, e7, e8]
  exact hI
def IP (Sc Sm : SD) : Prop := (gD Sm 85 0 31) = (gD Sc 29 0 2) ∧ 0 ≤ (gD Sc 29 0 2) ∧ (gD Sc 29 0 2) ≤ 200 ∧ (∀ k : Nat, (gD Sc 30 0 k) = (gD Sm 112 0 k) % 256) ∧ (∀ k : Nat, -128 ≤ (gD Sm 112 0 k) ∧ (gD Sm 112 0 k) < 128)
def IP_ac : List Nat := [30]
def IP_cc : List (Nat × Nat) := [(29, 2)]
def IP_am : List Nat := [112]
def IP_cm : List (Nat × Nat) := [(85, 31)]
theorem IP_fr {Sc Sc' Sm Sm' : SD} (h : AgA IP_ac IP_cc Sc Sc') (h' : AgA IP_am IP_cm Sm Sm') (hI : IP Sc Sm) : IP Sc' Sm' := by
  have e1 : ∀ j k, gD Sc' 30 j k = gD Sc 30 j k := h.1 30 (by decide)
  have e2 : ∀ j, gD Sc' 29 j 2 = gD Sc 29 j 2 := h.2 (29, 2) (by decide)
  have e3 : ∀ j k, gD Sm' 112 j k = gD Sm 112 j k := h'.1 112 (by decide)
  have e4 : ∀ j, gD Sm' 85 j 31 = gD Sm 85 j 31 := h'.2 (85, 31) (by decide)
  unfold IP at *
  simp only [e1, e2, e3, e4]
  exact hI
def stD (s : Nat → Int) (lo hi : Int) : Nat → Option (Nat × Nat)
  | 0 => some (0, lo.toNat)
  | n + 1 => match stD s lo hi n with
    | none => none
    | some (d, g) => if s n = (g : Int) ∧ (g : Int) < hi then some (d + 1, g + 1) else if s n = -1 ∧ 1 ≤ d then some (d, g) else if (s n = -2 ∨ s n = -3) ∧ 2 ≤ d then some (d - 1, g) else none
def RR1 (r : Nat) (Sc Sm : SD) : Prop := (gD Sm 123 0 r) = (gD Sc 47 r 7) ∧ (gD Sc 47 r 7) ≤ 16 ∧ (gD Sm 124 0 r) = (gD Sc 47 r 8) ∧ 1 ≤ (gD Sc 47 r 8) ∧ (gD Sc 47 r 8) ≤ (gD Sc 47 r 7)
  ∧ (∀ k : Nat, (k : Int) < (gD Sc 47 r 7) → (gD Sm 127 0 (16 * r + k)) = (gD Sc 48 r k) ∧ 0 ≤ (gD Sc 48 r k) ∧ (gD Sc 48 r k) ≤ 3
    ∧ (gD Sm 128 0 (16 * r + k)) = (gD Sc 49 r k) ∧ 0 ≤ (gD Sc 49 r k) ∧ (gD Sc 49 r k) < (gD Sc 3 0 10)
    ∧ (gD Sm 129 0 (16 * r + k)) = (gD Sc 50 r k) ∧ ((gD Sc 48 r k) ≠ 3 → 0 ≤ (gD Sc 50 r k) ∧ (gD Sc 50 r k) ≤ 2)
    ∧ ((gD Sc 48 r k) = 1 ∨ (gD Sc 48 r k) = 2 → (gD Sm 130 0 (16 * r + k)) = (gD Sc 51 r k) ∧ 1 ≤ (gD Sc 51 r k) ∧ (gD Sc 51 r k) ≤ 60)
    ∧ (gD Sm 131 0 (16 * r + k)) = (gD Sc 52 r k) ∧ 0 ≤ (gD Sc 52 r k) ∧ (gD Sc 52 r k) ≤ 4
    ∧ (gD Sm 132 0 (16 * r + k)) = (gD Sc 53 r k) ∧ -999999 ≤ (gD Sc 53 r k) ∧ (gD Sc 53 r k) ≤ 999999)
def RR1_ac : List Nat := [48, 49, 50, 51, 52, 53]
def RR1_cc : List (Nat × Nat) := [(3, 10), (47, 7), (47, 8)]
def RR1_am : List Nat := [123, 124, 127, 128, 129, 130, 131, 132]
def RR1_cm : List (Nat × Nat) := []
theorem RR1_fr {Sc Sc' Sm Sm' : SD} {r : Nat} (h : AgA RR1_ac RR1_cc Sc Sc') (h' : AgA RR1_am RR1_cm Sm Sm') (hI : RR1 r Sc Sm) : RR1 r Sc' Sm' := by
  have e1 : ∀ j k, gD Sc' 48 j k = gD Sc 48 j k := h.1 48 (by decide)
  have e2 : ∀ j k, gD Sc' 49 j k = gD Sc 49 j k := h.1 49 (by decide)
  have e3 : ∀ j k, gD Sc' 50 j k = gD Sc 50 j k := h.1 50 (by decide)
  have e4 : ∀ j k, gD Sc' 51 j k = gD Sc 51 j k := h.1 51 (by decide)
  have e5 : ∀ j k, gD Sc' 52 j k = gD Sc 52 j k := h.1 52 (by decide)
  have e6 : ∀ j k, gD Sc' 53 j k = gD Sc 53 j k := h.1 53 (by decide)
  have e7 : ∀ j, gD Sc' 3 j 10 = gD Sc 3 j 10 := h.2 (3, 10) (by decide)
  have e8 : ∀ j, gD Sc' 47 j 7 = gD Sc 47 j 7 := h.2 (47, 7) (by decide)
  have e9 : ∀ j, gD Sc' 47 j 8 = gD Sc 47 j 8 := h.2 (47, 8) (by decide)
  have e10 : ∀ j k, gD Sm' 123 j k = gD Sm 123 j k := h'.1 123 (by decide)
  have e11 : ∀ j k, gD Sm' 124 j k = gD Sm 124 j k := h'.1 124 (by decide)
  have e12 : ∀ j k, gD Sm' 127 j k = gD Sm 127 j k := h'.1 127 (by decide)
  have e13 : ∀ j k, gD Sm' 128 j k = gD Sm 128 j k := h'.1 128 (by decide)
  have e14 : ∀ j k, gD Sm' 129 j k = gD Sm 129 j k := h'.1 129 (by decide)
  have e15 : ∀ j k, gD Sm' 130 j k = gD Sm 130 j k := h'.1 130 (by decide)
  have e16 : ∀ j k, gD Sm' 131 j k = gD Sm 131 j k := h'.1 131 (by decide)
  have e17 : ∀ j k, gD Sm' 132 j k = gD Sm 132 j k := h'.1 132 (by decide)
  unfold RR1 at *
  simp only [e1, e2, e3, e4, e5, e6, e7, e8, e9, e10, e11, e12, e13, e14, e15, e16, e17]
  exact hI
def RR2 (r : Nat) (Sc Sm : SD) : Prop := (gD Sm 125 0 (2 * r)) = (gD Sc 47 r 10) ∧ (gD Sm 125 0 (2 * r + 1)) = (gD Sc 47 r 9) - (gD Sc 47 r 10) ∧ 1 ≤ (gD Sc 47 r 10) ∧ (gD Sc 47 r 10) ≤ (gD Sc 47 r 9) ∧ (gD Sc 47 r 9) ≤ 100
  ∧ (∀ k : Nat, (k : Int) < (gD Sc 47 r 10) → (gD Sm 126 0 (200 * r + k)) = (gD Sc 54 r k))
  ∧ (∀ k : Nat, (k : Int) < (gD Sc 47 r 9) - (gD Sc 47 r 10) → (gD Sm 126 0 (200 * r + 100 + k)) = (gD Sc 54 r (((gD Sc 47 r 10)).toNat + k)))
  ∧ stD (fun k => (gD Sc 54 r k)) 0 (gD Sc 47 r 8) ((gD Sc 47 r 10)).toNat = some (1, ((gD Sc 47 r 8)).toNat)
  ∧ (((gD Sc 47 r 9) = (gD Sc 47 r 10) ∧ (gD Sc 47 r 7) = (gD Sc 47 r 8)) ∨ stD (fun k => (gD Sc 54 r (((gD Sc 47 r 10)).toNat + k))) (gD Sc 47 r 8) (gD Sc 47 r 7) ((gD Sc 47 r 9) - (gD Sc 47 r 10)).toNat = some (1, ((gD Sc 47 r 7)).toNat))
def RR2_ac : List Nat := [54]
def RR2_cc : List (Nat × Nat) := [(47, 7), (47, 8), (47, 9), (47, 10)]
def RR2_am : List Nat := [125, 126]
def RR2_cm : List (Nat × Nat) := []
theorem RR2_fr {Sc Sc' Sm Sm' : SD} {r : Nat} (h : AgA RR2_ac RR2_cc Sc Sc') (h' : AgA RR2_am RR2_cm Sm Sm') (hI : RR2 r Sc Sm) : RR2 r Sc' Sm' := by
  have e1 : ∀ j k, gD Sc' 54 j k = gD Sc 54 j k := h.1 54 (by decide)
  have e2 : ∀ j, gD Sc' 47 j 7 = gD Sc 47 j 7 := h.2 (47, 7) (by decide)
  have e3 : ∀ j, gD Sc' 47 j 8 = gD Sc 47 j 8 := h.2 (47, 8) (by decide)
  have e4 : ∀ j, gD Sc' 47 j 9 = gD Sc 47 j 9 := h.2 (47, 9) (by decide)
  have e5 : ∀ j, gD Sc' 47 j 10 = gD Sc 47 j 10 := h.2 (47, 10) (by decide)
  have e6 : ∀ j k, gD Sm' 125 j k = gD Sm 125 j k := h'.1 125 (by decide)
  have e7 : ∀ j k, gD Sm' 126 j k = gD Sm 126 j k := h'.1 126 (by decide)
  unfold RR2 at *
  simp only [e1, e2, e3, e4, e5, e6, e7]
  exact hI
def RR3 (r : Nat) (Sc Sm : SD) : Prop := 0 ≤ (gD Sc 47 r 11) ∧ (gD Sc 47 r 11) ≤ 60 ∧ ((gD Sm 116 0 r) = if (gD Sc 47 r 11) = 0 then 0 else 1) ∧ (gD Sm 115 0 r) = max (gD Sc 47 r 11) 1
  ∧ (gD Sm 120 0 r) = (gD Sc 47 r 12) ∧ 0 ≤ (gD Sc 47 r 12) ∧ (gD Sc 47 r 12) < (gD Sc 3 0 10) ∧ (gD Sm 122 0 r) = (gD Sc 47 r 14)
  ∧ (((gD Sm 119 0 r) = 1 ∧ (gD Sm 121 0 r) = (gD Sc 47 r 13) ∧ 0 ≤ (gD Sc 47 r 13) ∧ (gD Sc 47 r 13) ≤ 2 ∧ -999999 ≤ (gD Sc 47 r 14) ∧ (gD Sc 47 r 14) ≤ 999999) ∨ ((gD Sm 119 0 r) = 0 ∧ (gD Sc 47 r 13) = -1 ∧ 1 ≤ (gD Sc 47 r 14) ∧ (gD Sc 47 r 14) ≤ 60))
def RR3_ac : List Nat := []
def RR3_cc : List (Nat × Nat) := [(3, 10), (47, 11), (47, 12), (47, 13), (47, 14)]
def RR3_am : List Nat := [115, 116, 119, 120, 121, 122]
def RR3_cm : List (Nat × Nat) := []
theorem RR3_fr {Sc Sc' Sm Sm' : SD} {r : Nat} (h : AgA RR3_ac RR3_cc Sc Sc') (h' : AgA RR3_am RR3_cm Sm Sm') (hI : RR3 r Sc Sm) : RR3 r Sc' Sm' := by
  have e1 : ∀ j, gD Sc' 3 j 10 = gD Sc 3 j 10 := h.2 (3, 10) (by decide)
  have e2 : ∀ j, gD Sc' 47 j 11 = gD Sc 47 j 11 := h.2 (47, 11) (by decide)
  have e3 : ∀ j, gD Sc' 47 j 12 = gD Sc 47 j 12 := h.2 (47, 12) (by decide)
  have e4 : ∀ j, gD Sc' 47 j 13 = gD Sc 47 j 13 := h.2 (47, 13) (by decide)
  have e5 : ∀ j, gD Sc' 47 j 14 = gD Sc 47 j 14 := h.2 (47, 14) (by decide)
  have e6 : ∀ j k, gD Sm' 115 j k = gD Sm 115 j k := h'.1 115 (by decide)
  have e7 : ∀ j k, gD Sm' 116 j k = gD Sm 116 j k := h'.1 116 (by decide)
  have e8 : ∀ j k, gD Sm' 119 j k = gD Sm 119 j k := h'.1 119 (by decide)
  have e9 : ∀ j k, gD Sm' 120 j k = gD Sm 120 j k := h'.1 120 (by decide)
  have e10 : ∀ j k, gD Sm' 121 j k = gD Sm 121 j k := h'.1 121 (by decide)
  have e11 : ∀ j k, gD Sm' 122 j k = gD Sm 122 j k := h'.1 122 (by decide)
  unfold RR3 at *
  simp only [e1, e2, e3, e4, e5, e6, e7, e8, e9, e10, e11]
  exact hI
def IR (Sc Sm : SD) : Prop := (gD Sm 85 0 32) = (gD Sc 41 0 8) ∧ 0 ≤ (gD Sc 41 0 8) ∧ (gD Sc 41 0 8) ≤ 20 ∧ (gD Sm 85 0 63) = 0
  ∧ (∀ r : Nat, (r : Int) < (gD Sc 41 0 8) → RR1 r Sc Sm ∧ RR2 r Sc Sm ∧ RR3 r Sc Sm)
def IR_ac : List Nat := [48, 49, 50, 51, 52, 53, 54]
def IR_cc : List (Nat × Nat) := [(3, 10), (41, 8), (47, 7), (47, 8), (47, 9), (47, 10), (47, 11), (47, 12), (47, 13), (47, 14)]
def IR_am : List Nat := [115, 116, 119, 120, 121, 122, 123, 124, 125, 126, 127, 128, 129, 130, 131, 132]
def IR_cm : List (Nat × Nat) := [(85, 32), (85, 63)]
theorem IR_fr {Sc Sc' Sm Sm' : SD} (h : AgA IR_ac IR_cc Sc Sc') (h' : AgA IR_am IR_cm Sm Sm') (hI : IR Sc Sm) : IR Sc' Sm' := by
  have e1 : ∀ j k, gD Sc' 48 j k = gD Sc 48 j k := h.1 48 (by decide)
  have e2 : ∀ j k, gD Sc' 49 j k = gD Sc 49 j k := h.1 49 (by decide)
  have e3 : ∀ j k, gD Sc' 50 j k = gD Sc 50 j k := h.1 50 (by decide)
  have e4 : ∀ j k, gD Sc' 51 j k = gD Sc 51 j k := h.1 51 (by decide)
  have e5 : ∀ j k, gD Sc' 52 j k = gD Sc 52 j k := h.1 52 (by decide)
  have e6 : ∀ j k, gD Sc' 53 j k = gD Sc 53 j k := h.1 53 (by decide)
  have e7 : ∀ j k, gD Sc' 54 j k = gD Sc 54 j k := h.1 54 (by decide)
  have e8 : ∀ j, gD Sc' 3 j 10 = gD Sc 3 j 10 := h.2 (3, 10) (by decide)
  have e9 : ∀ j, gD Sc' 41 j 8 = gD Sc 41 j 8 := h.2 (41, 8) (by decide)
  have e10 : ∀ j, gD Sc' 47 j 7 = gD Sc 47 j 7 := h.2 (47, 7) (by decide)
  have e11 : ∀ j, gD Sc' 47 j 8 = gD Sc 47 j 8 := h.2 (47, 8) (by decide)
  have e12 : ∀ j, gD Sc' 47 j 9 = gD Sc 47 j 9 := h.2 (47, 9) (by decide)
  have e13 : ∀ j, gD Sc' 47 j 10 = gD Sc 47 j 10 := h.2 (47, 10) (by decide)
  have e14 : ∀ j, gD Sc' 47 j 11 = gD Sc 47 j 11 := h.2 (47, 11) (by decide)
  have e15 : ∀ j, gD Sc' 47 j 12 = gD Sc 47 j 12 := h.2 (47, 12) (by decide)
  have e16 : ∀ j, gD Sc' 47 j 13 = gD Sc 47 j 13 := h.2 (47, 13) (by decide)
  have e17 : ∀ j, gD Sc' 47 j 14 = gD Sc 47 j 14 := h.2 (47, 14) (by decide)
  have e18 : ∀ j k, gD Sm' 115 j k = gD Sm 115 j k := h'.1 115 (by decide)
  have e19 : ∀ j k, gD Sm' 116 j k = gD Sm 116 j k := h'.1 116 (by decide)
  have e20 : ∀ j k, gD Sm' 119 j k = gD Sm 119 j k := h'.1 119 (by decide)
  have e21 : ∀ j k, gD Sm' 120 j k = gD Sm 120 j k := h'.1 120 (by decide)
  have e22 : ∀ j k, gD Sm' 121 j k = gD Sm 121 j k := h'.1 121 (by decide)
  have e23 : ∀ j k, gD Sm' 122 j k = gD Sm 122 j k := h'.1 122 (by decide)
  have e24 : ∀ j k, gD Sm' 123 j k = gD Sm 123 j k := h'.1 123 (by decide)
  have e25 : ∀ j k, gD Sm' 124 j k = gD Sm 124 j k := h'.1 124 (by decide)
  have e26 : ∀ j k, gD Sm' 125 j k = gD Sm 125 j k := h'.1 125 (by decide)
  have e27 : ∀ j k, gD Sm' 126 j k = gD Sm 126 j k := h'.1 126 (by decide)
  have e28 : ∀ j k, gD Sm' 127 j k = gD Sm 127 j k := h'.1 127 (by decide)
  have e29 : ∀ j k, gD Sm' 128 j k = gD Sm 128 j k := h'.1 128 (by decide)
  have e30 : ∀ j k, gD Sm' 129 j k = gD Sm 129 j k := h'.1 129 (by decide)
  have e31 : ∀ j k, gD Sm' 130 j k = gD Sm 130 j k := h'.1 130 (by decide)
  have e32 : ∀ j k, gD Sm' 131 j k = gD Sm 131 j k := h'.1 131 (by decide)
  have e33 : ∀ j k, gD Sm' 132 j k = gD Sm 132 j k := h'.1 132 (by decide)
  have e34 : ∀ j, gD Sm' 85 j 32 = gD Sm 85 j 32 := h'.2 (85, 32) (by decide)
  have e35 : ∀ j, gD Sm' 85 j 63 = gD Sm 85 j 63 := h'.2 (85, 63) (by decide)
  unfold IR RR1 RR2 RR3 at *
  simp only [e1, e2, e3, e4, e5, e6, e7, e8, e9, e10, e11, e12, e13, e14, e15, e16, e17, e18, e19, e20, e21, e22, e23, e24, e25, e26, e27, e28, e29, e30, e31, e32, e33, e34, e35]
  exact hI
def IF (Sc Sm : SD) : Prop := (∀ r : Nat, (r : Int) < (gD Sc 41 0 8) → (gD Sm 113 0 r) = (gD Sc 47 r 15) ∧ 0 ≤ (gD Sc 47 r 15) ∧ (gD Sc 47 r 15) ≤ 7
    ∧ (gD Sm 114 0 r) = (gD Sc 47 r 16) ∧ 0 ≤ (gD Sc 47 r 16) ∧ (gD Sc 47 r 16) ≤ (gD Sc 2 0 9) ∧ (gD Sm 117 0 r) = (gD Sc 47 r 17) ∧ (gD Sm 118 0 r) = (gD Sc 47 r 18)
    ∧ ((gD Sc 47 r 17) = 0 ∨ (gD Sc 47 r 17) = 1) ∧ ((gD Sc 47 r 18) = 0 ∨ (gD Sc 47 r 18) = 1) ∧ ((gD Sc 47 r 17) = 0 → (gD Sc 47 r 18) = 0))
def IF_ac : List Nat := []
def IF_cc : List (Nat × Nat) := [(2, 9), (41, 8), (47, 15), (47, 16), (47, 17), (47, 18)]
def IF_am : List Nat := [113, 114, 117, 118]
def IF_cm : List (Nat × Nat) := []
theorem IF_fr {Sc Sc' Sm Sm' : SD} (h : AgA IF_ac IF_cc Sc Sc') (h' : AgA IF_am IF_cm Sm Sm') (hI : IF Sc Sm) : IF Sc' Sm' := by
  have e1 : ∀ j, gD Sc' 2 j 9 = gD Sc 2 j 9 := h.2 (2, 9) (by decide)
  have e2 : ∀ j, gD Sc' 41 j 8 = gD Sc 41 j 8 := h.2 (41, 8) (by decide)
  have e3 : ∀ j, gD Sc' 47 j 15 = gD Sc 47 j 15 := h.2 (47, 15) (by decide)
  have e4 : ∀ j, gD Sc' 47 j 16 = gD Sc 47 j 16 := h.2 (47, 16) (by decide)
  have e5 : ∀ j, gD Sc' 47 j 17 = gD Sc 47 j 17 := h.2 (47, 17) (by decide)
  have e6 : ∀ j, gD Sc' 47 j 18 = gD Sc 47 j 18 := h.2 (47, 18) (by decide)
  have e7 : ∀ j k, gD Sm' 113 j k = gD Sm 113 j k := h'.1 113 (by decide)
  have e8 : ∀ j k, gD Sm' 114 j k = gD Sm 114 j k := h'.1 114 (by decide)
  have e9 : ∀ j k, gD Sm' 117 j k = gD Sm 117 j k := h'.1 117 (by decide)
  have e10 : ∀ j k, gD Sm' 118 j k = gD Sm 118 j k := h'.1 118 (by decide)
  unfold IF at *
  simp only [e1, e2, e3, e4, e5, e6, e7, e8, e9, e10]
  exact hI
def IA (Sc Sm : SD) : Prop := (gD Sm 85 0 64) = (gD Sc 41 0 9) ∧ 0 ≤ (gD Sc 41 0 9) ∧ (gD Sc 41 0 9) ≤ 300
  ∧ (∀ k : Nat, (gD Sm 135 0 k) = (gD Sc 43 0 k)) ∧ (∀ k : Nat, (gD Sm 136 0 k) = (gD Sc 44 0 k)) ∧ (∀ k : Nat, (gD Sm 137 0 k) = (gD Sc 45 0 k)) ∧ (∀ k : Nat, (gD Sm 138 0 k) = (gD Sc 46 0 k))
  ∧ (∀ k : Nat, (k : Int) < (gD Sc 41 0 9) → 0 ≤ (gD Sc 43 0 k) ∧ (gD Sc 43 0 k) < (gD Sc 41 0 8) ∧ 0 ≤ (gD Sc 44 0 k) ∧ (gD Sc 44 0 k) ≤ (gD Sc 2 0 9))
def IA_ac : List Nat := [43, 44, 45, 46]
def IA_cc : List (Nat × Nat) := [(2, 9), (41, 8), (41, 9)]
def IA_am : List Nat := [135, 136, 137, 138]
def IA_cm : List (Nat × Nat) := [(85, 64)]
theorem IA_fr {Sc Sc' Sm Sm' : SD} (h : AgA IA_ac IA_cc Sc Sc') (h' : AgA IA_am IA_cm Sm Sm') (hI : IA Sc Sm) : IA Sc' Sm' := by
  have e1 : ∀ j k, gD Sc' 43 j k = gD Sc 43 j k := h.1 43 (by decide)
  have e2 : ∀ j k, gD Sc' 44 j k = gD Sc 44 j k := h.1 44 (by decide)
  have e3 : ∀ j k, gD Sc' 45 j k = gD Sc 45 j k := h.1 45 (by decide)
  have e4 : ∀ j k, gD Sc' 46 j k = gD Sc 46 j k := h.1 46 (by decide)
  have e5 : ∀ j, gD Sc' 2 j 9 = gD Sc 2 j 9 := h.2 (2, 9) (by decide)
  have e6 : ∀ j, gD Sc' 41 j 8 = gD Sc 41 j 8 := h.2 (41, 8) (by decide)
  have e7 : ∀ j, gD Sc' 41 j 9 = gD Sc 41 j 9 := h.2 (41, 9) (by decide)
  have e8 : ∀ j k, gD Sm' 135 j k = gD Sm 135 j k := h'.1 135 (by decide)
  have e9 : ∀ j k, gD Sm' 136 j k = gD Sm 136 j k := h'.1 136 (by decide)
  have e10 : ∀ j k, gD Sm' 137 j k = gD Sm 137 j k := h'.1 137 (by decide)
  have e11 : ∀ j k, gD Sm' 138 j k = gD Sm 138 j k := h'.1 138 (by decide)
  have e12 : ∀ j, gD Sm' 85 j 64 = gD Sm 85 j 64 := h'.2 (85, 64) (by decide)
  unfold IA at *
  simp only [e1, e2, e3, e4, e5, e6, e7, e8, e9, e10, e11, e12]
  exact hI
def IH (Sc Sm : SD) : Prop := (gD Sm 85 0 92) = (gD Sc 55 0 9) ∧ 0 ≤ (gD Sc 55 0 9) ∧ (gD Sc 55 0 9) ≤ 12 ∧ (gD Sm 85 0 96) = (gD Sc 55 0 10) ∧ 0 ≤ (gD Sc 55 0 10) ∧ (gD Sc 55 0 10) ≤ 200
  ∧ (∀ k : Nat, (k : Int) < (gD Sc 55 0 9) → (gD Sc 59 0 k) = 3 * (gD Sm 157 0 k) + (gD Sm 158 0 k) ∧ 0 ≤ (gD Sm 158 0 k) ∧ (gD Sm 158 0 k) ≤ 2 ∧ 0 ≤ (gD Sm 157 0 k) ∧ (gD Sm 157 0 k) < 40 ∧ (gD Sm 159 0 k) = (gD Sc 60 0 k))
  ∧ (∀ k : Nat, (k : Int) < (gD Sc 55 0 10) → (gD Sm 160 0 k) = (gD Sc 61 0 k)) ∧ (gD Sc 66 0 0) = 0
def IH_ac : List Nat := [59, 60, 61, 66]
def IH_cc : List (Nat × Nat) := [(55, 9), (55, 10)]
def IH_am : List Nat := [157, 158, 159, 160]
def IH_cm : List (Nat × Nat) := [(85, 92), (85, 96)]
theorem IH_fr {Sc Sc' Sm Sm' : SD} (h : AgA IH_ac IH_cc Sc Sc') (h' : AgA IH_am IH_cm Sm Sm') (hI : IH Sc Sm) : IH Sc' Sm' := by
  have e1 : ∀ j k, gD Sc' 59 j k = gD Sc 59 j k := h.1 59 (by decide)
  have e2 : ∀ j k, gD Sc' 60 j k = gD Sc 60 j k := h.1 60 (by decide)
  have e3 : ∀ j k, gD Sc' 61 j k = gD Sc 61 j k := h.1 61 (by decide)
  have e4 : ∀ j k, gD Sc' 66 j k = gD Sc 66 j k := h.1 66 (by decide)
  have e5 : ∀ j, gD Sc' 55 j 9 = gD Sc 55 j 9 := h.2 (55, 9) (by decide)
  have e6 : ∀ j, gD Sc' 55 j 10 = gD Sc 55 j 10 := h.2 (55, 10) (by decide)
  have e7 : ∀ j k, gD Sm' 157 j k = gD Sm 157 j k := h'.1 157 (by decide)
  have e8 : ∀ j k, gD Sm' 158 j k = gD Sm 158 j k := h'.1 158 (by decide)
  have e9 : ∀ j k, gD Sm' 159 j k = gD Sm 159 j k := h'.1 159 (by decide)
  have e10 : ∀ j k, gD Sm' 160 j k = gD Sm 160 j k := h'.1 160 (by decide)
  have e11 : ∀ j, gD Sm' 85 j 92 = gD Sm 85 j 92 := h'.2 (85, 92) (by decide)
  have e12 : ∀ j, gD Sm' 85 j 96 = gD Sm 85 j 96 := h'.2 (85, 96) (by decide)
  unfold IH at *
  simp only [e1, e2, e3, e4, e5, e6, e7, e8, e9, e10, e11, e12]
  exact hI
def IQ (Sc Sm : SD) : Prop := (gD Sm 85 0 100) = (gD Sc 68 0 9) ∧ 0 ≤ (gD Sc 68 0 9) ∧ (gD Sc 68 0 9) ≤ 8
  ∧ (∀ k : Nat, (gD Sm 163 0 k) = (gD Sc 69 0 k)) ∧ (∀ k : Nat, 0 ≤ (gD Sc 69 0 k) ∧ (gD Sc 69 0 k) ≤ 2)
  ∧ (∀ k : Nat, (gD Sm 164 0 k) = (gD Sc 70 0 k)) ∧ (∀ k : Nat, (gD Sm 165 0 k) = (gD Sc 71 0 k)) ∧ (∀ k : Nat, 0 ≤ (gD Sc 71 0 k) ∧ (gD Sc 71 0 k) ≤ 1000000000)
  ∧ (gD Sm 85 0 104) = (gD Sc 68 0 10) ∧ (∀ k t : Nat, (gD Sc 3 0 10) ≤ (t : Int) → t < 40 → tb (gD Sc 70 0 k) t = false)
def IQ_ac : List Nat := [69, 70, 71]
def IQ_cc : List (Nat × Nat) := [(3, 10), (68, 9), (68, 10)]
def IQ_am : List Nat := [163, 164, 165]
def IQ_cm : List (Nat × Nat) := [(85, 100), (85, 104)]
theorem IQ_fr {Sc Sc' Sm Sm' : SD} (h : AgA IQ_ac IQ_cc Sc Sc') (h' : AgA IQ_am IQ_cm Sm Sm') (hI : IQ Sc Sm) : IQ Sc' Sm' := by
  have e1 : ∀ j k, gD Sc' 69 j k = gD Sc 69 j k := h.1 69 (by decide)
  have e2 : ∀ j k, gD Sc' 70 j k = gD Sc 70 j k := h.1 70 (by decide)
  have e3 : ∀ j k, gD Sc' 71 j k = gD Sc 71 j k := h.1 71 (by decide)
  have e4 : ∀ j, gD Sc' 3 j 10 = gD Sc 3 j 10 := h.2 (3, 10) (by decide)
  have e5 : ∀ j, gD Sc' 68 j 9 = gD Sc 68 j 9 := h.2 (68, 9) (by decide)
  have e6 : ∀ j, gD Sc' 68 j 10 = gD Sc 68 j 10 := h.2 (68, 10) (by decide)
  have e7 : ∀ j k, gD Sm' 163 j k = gD Sm 163 j k := h'.1 163 (by decide)
  have e8 : ∀ j k, gD Sm' 164 j k = gD Sm 164 j k := h'.1 164 (by decide)
  have e9 : ∀ j k, gD Sm' 165 j k = gD Sm 165 j k := h'.1 165 (by decide)
  have e10 : ∀ j, gD Sm' 85 j 100 = gD Sm 85 j 100 := h'.2 (85, 100) (by decide)
  have e11 : ∀ j, gD Sm' 85 j 104 = gD Sm 85 j 104 := h'.2 (85, 104) (by decide)
  unfold IQ at *
  simp only [e1, e2, e3, e4, e5, e6, e7, e8, e9, e10, e11]
  exact hI
def chsL (n k : Nat) : Nat → Int
  | 0 => 1
  | i + 1 => w64 (Int.tdiv (w64 (chsL n k i * (w32 (w32 ((n : Int) - k) + (i + 1))))) (i + 1))
def chs (n k : Nat) : Int := if k ≤ n then chsL n k k else 0
def IG (Sc Sm : SD) : Prop := (∀ t : Nat, (t : Int) < (gD Sc 3 0 10) → (gD Sm 95 0 t) = (gD Sc 76 0 t) ∧ (gD Sm 96 0 t) = (gD Sc 79 0 t))
  ∧ (∀ t : Nat, (gD Sc 3 0 10) ≤ (t : Int) → t < 40 → (gD Sc 76 0 t) = -1 ∧ (gD Sc 79 0 t) = -1)
  ∧ (∀ t : Nat, t < 40 → -1 ≤ (gD Sc 76 0 t) ∧ (gD Sc 76 0 t) ≤ 7 ∧ -1 ≤ (gD Sc 79 0 t) ∧ (gD Sc 79 0 t) ≤ 1)
  ∧ (∀ k : Nat, (gD Sm 93 0 k) = (gD Sc 77 0 k)) ∧ (∀ k : Nat, (gD Sm 94 0 k) = (gD Sc 78 0 k))
  ∧ (∀ k : Nat, (gD Sm 167 0 k) = (gD Sc 80 0 k)) ∧ (∀ k : Nat, 0 ≤ (gD Sc 80 0 k) ∧ (gD Sc 80 0 k) ≤ 999)
  ∧ (∀ k : Nat, (gD Sm 168 0 k) = (gD Sc 81 0 k)) ∧ (∀ k : Nat, (gD Sc 81 0 k) = 0 ∨ (gD Sc 81 0 k) = 1)
  ∧ (∀ k : Nat, (gD Sm 169 0 k) = (gD Sc 82 0 k)) ∧ (∀ k : Nat, (gD Sm 170 0 k) = (gD Sc 83 0 k))
  ∧ (∀ n k : Nat, k ≤ n → n ≤ 40 → (gD Sc 84 0 (41 * n + k)) = chs n k)
def IG_ac : List Nat := [76, 77, 78, 79, 80, 81, 82, 83, 84]
def IG_cc : List (Nat × Nat) := [(3, 10)]
def IG_am : List Nat := [93, 94, 95, 96, 167, 168, 169, 170]
def IG_cm : List (Nat × Nat) := []
theorem IG_fr {Sc Sc' Sm Sm' : SD} (h : AgA IG_ac IG_cc Sc Sc') (h' : AgA IG_am IG_cm Sm Sm') (hI : IG Sc Sm) : IG Sc' Sm' := by
  have e1 : ∀ j k, gD Sc' 76 j k = gD Sc 76 j k := h.1 76 (by decide)
  have e2 : ∀ j k, gD Sc' 77 j k = gD Sc 77 j k := h.1 77 (by decide)
  have e3 : ∀ j k, gD Sc' 78 j k = gD Sc 78 j k := h.1 78 (by decide)
  have e4 : ∀ j k, gD Sc' 79 j k = gD Sc 79 j k := h.1 79 (by decide)
  have e5 : ∀ j k, gD Sc' 80 j k = gD Sc 80 j k := h.1 80 (by decide)
  have e6 : ∀ j k, gD Sc' 81 j k = gD Sc 81 j k := h.1 81 (by decide)
  have e7 : ∀ j k, gD Sc' 82 j k = gD Sc 82 j k := h.1 82 (by decide)
  have e8 : ∀ j k, gD Sc' 83 j k = gD Sc 83 j k := h.1 83 (by decide)
  have e9 : ∀ j k, gD Sc' 84 j k = gD Sc 84 j k := h.1 84 (by decide)
  have e10 : ∀ j, gD Sc' 3 j 10 = gD Sc 3 j 10 := h.2 (3, 10) (by decide)
  have e11 : ∀ j k, gD Sm' 93 j k = gD Sm 93 j k := h'.1 93 (by decide)
  have e12 : ∀ j k, gD Sm' 94 j k = gD Sm 94 j k := h'.1 94 (by decide)
  have e13 : ∀ j k, gD Sm' 95 j k = gD Sm 95 j k := h'.1 95 (by decide)
  have e14 : ∀ j k, gD Sm' 96 j k = gD Sm 96 j k := h'.1 96 (by decide)
  have e15 : ∀ j k, gD Sm' 167 j k = gD Sm 167 j k := h'.1 167 (by decide)
  have e16 : ∀ j k, gD Sm' 168 j k = gD Sm 168 j k := h'.1 168 (by decide)
  have e17 : ∀ j k, gD Sm' 169 j k = gD Sm 169 j k := h'.1 169 (by decide)
  have e18 : ∀ j k, gD Sm' 170 j k = gD Sm 170 j k := h'.1 170 (by decide)
  unfold IG at *
  simp only [e1, e2, e3, e4, e5, e6, e7, e8, e9, e10, e11, e12, e13, e14, e15, e16, e17, e18]
  exact hI
def CI2 (i : Nat) (Sc Sm : SD) : Prop := IN Sc Sm ∧ IT Sc Sm ∧ IS i Sc Sm ∧ IW Sc Sm ∧ IC Sc Sm ∧ IO Sc Sm ∧ IX (21 * i) Sc Sm ∧ IP Sc Sm ∧ IR Sc Sm ∧ IF Sc Sm ∧ IA Sc Sm ∧ IH Sc Sm ∧ IQ Sc Sm ∧ IG Sc Sm
theorem IS_up {i : Nat} {Sc Sm : SD} (h : IS i Sc Sm) : IS (i + 1) Sc Sm := by
  unfold IS at *
  exact ⟨h.1, h.2.1, by omega, h.2.2.2⟩
theorem IX_up {i : Nat} {Sc Sm : SD} (h : IX (21 * i) Sc Sm) : IX (21 * (i + 1)) Sc Sm := by
  unfold IX at *
  obtain ⟨h1, h2, h3, h4, h5, h6, h7, h8⟩ := h
  exact ⟨h1, h2, h3, h4, h5, h6, by omega, h8⟩
theorem CI2_up {i : Nat} {Sc Sm : SD} (h : CI2 i Sc Sm) : CI2 (i + 1) Sc Sm := by
  obtain ⟨h1, h2, h3, h4, h5, h6, h7, h8⟩ := h
  exact ⟨h1, h2, IS_up h3, h4, h5, h6, IX_up h7, h8⟩
theorem PI2_ro {d : Nat} {y z : Nat} {res : Int → V} {a : List V} (H : ∀ (i : Nat) (Sc Sm : SD), i < 512 → CI2 i Sc Sm → ∃ x, EE false d y (vr (some (2, 0)) :: a) Sc = some (res x, Sc) ∧ EE false d z (vr (some (85, 0)) :: a) Sm = some (res x, Sm)) : PI2 d CI2 y z res a := fun i Sc Sm hi hC => by
  obtain ⟨x, h1, h2⟩ := H i Sc Sm hi hC
  exact ⟨x, Sc, Sm, h1, EqC_rf, h2, EqM_rf, CI2_up hC⟩
theorem CF_CI2 : CF CI2 := fun i Sc Sm Sc' Sm' h h1 h2 => by
  obtain ⟨hIN, hIT, hIS, hIW, hIC, hIO, hIX, hIP, hIR, hIF, hIA, hIH, hIQ, hIG⟩ := h
  have q : ∀ (fa : List Nat) (fc : List (Nat × Nat)), (fa.all (fun f => Nat.blt 0 f && Nat.blt f 85) && fc.all (fun c => Nat.blt 0 c.1 && Nat.blt c.1 85)) = true → AgA fa fc Sc Sc' := fun fa fc hd => by
    have hd := (Bool.and_eq_true _ _).mp hd
    refine ⟨fun f hf j k => ?_, fun c hc j => ?_⟩
    · have := (Bool.and_eq_true _ _).mp (List.all_eq_true.mp hd.1 f hf)
      exact h1 f j k (Nat.blt_eq.mp this.1) (Nat.blt_eq.mp this.2)
    · have := (Bool.and_eq_true _ _).mp (List.all_eq_true.mp hd.2 c hc)
      exact h1 c.1 j c.2 (Nat.blt_eq.mp this.1) (Nat.blt_eq.mp this.2)
  have q' : ∀ (fa : List Nat) (fc : List (Nat × Nat)), (fa.all (fun f => Nat.ble 85 f) && fc.all (fun c => Nat.ble 85 c.1)) = true → AgA fa fc Sm Sm' := fun fa fc hd => by
    have hd := (Bool.and_eq_true _ _).mp hd
    exact ⟨fun f hf j k => h2 f j k (Nat.le_of_ble_eq_true (List.all_eq_true.mp hd.1 f hf)), fun c hc j => h2 c.1 j c.2 (Nat.le_of_ble_eq_true (List.all_eq_true.mp hd.2 c hc))⟩
  exact ⟨IN_fr (q _ _ rfl) (q' _ _ rfl) hIN, IT_fr (q _ _ rfl) (q' _ _ rfl) hIT, IS_fr (q _ _ rfl) (q' _ _ rfl) hIS, IW_fr (q _ _ rfl) (q' _ _ rfl) hIW, IC_fr (q _ _ rfl) (q' _ _ rfl) hIC, IO_fr (q _ _ rfl) (q' _ _ rfl) hIO, IX_fr (q _ _ rfl) (q' _ _ rfl) hIX, IP_fr (q _ _ rfl) (q' _ _ rfl) hIP, IR_fr (q _ _ rfl) (q' _ _ rfl) hIR, IF_fr (q _ _ rfl) (q' _ _ rfl) hIF, IA_fr (q _ _ rfl) (q' _ _ rfl) hIA, IH_fr (q _ _ rfl) (q' _ _ rfl) hIH, IQ_fr (q _ _ rfl) (q' _ _ rfl) hIQ, IG_fr (q _ _ rfl) (q' _ _ rfl) hIG⟩
