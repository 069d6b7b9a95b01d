theorem ab9 (x : Int) : ab oo 9 x x = 0 := by
  show (if x < x then (1 : Int) else if x = x then 0 else -1) = 0
  rw [if_neg (by omega), if_pos rfl]
theorem lc_0 {K : KT} {n : Nat} {S S1 S2 : SD} {l3 x : Int} (hlt : ¬ aw oo (gD S 0 1 0 - 7) < l3) (hb : 0 ≤ l3 ∧ l3 + 6 < gD S 0 1 0) (hm : l3 < 100000) (hc : ab oo 0 (gD S 0 0 l3.toNat) 63 = 0) (hg : S1.1 0 = S.1 0) (h1 : K 148 [vr (some (2, 0)), vi (gD S 0 0 (l3 + 1).toNat), vi (gD S 0 0 (l3 + 2).toNat), vi (gD S 0 0 (l3 + 3).toNat), vi (gD S 0 0 (l3 + 4).toNat), vi (gD S 0 0 (l3 + 5).toNat)] S = some (vi x, S1)) (h2 : K 198 [vr (some (85, 0)), vi (gD S 0 0 (l3 + 1).toNat), vi (gD S 0 0 (l3 + 2).toNat), vi (gD S 0 0 (l3 + 3).toNat), vi (gD S 0 0 (l3 + 4).toNat), vi (gD S 0 0 (l3 + 5).toNat)] S1 = some (vi x, S2)) : run oo K false mi_307 (n + 1) 18 [(0, vr (some (0, 0))), (1, vr (some (2, 0))), (2, vr (some (85, 0))), (3, vi l3)] [] S = run oo K false mi_307 n 18 [(0, vr (some (0, 0))), (1, vr (some (2, 0))), (2, vr (some (85, 0))), (3, vi (l3 + 7))] [] S2 := by
  have g1 : ∀ j k, gD S1 0 j k = gD S 0 j k := fun j k => by show S1.1 0 j k = S.1 0 j k; rw [hg]
  have e1 : aw oo (l3 + 1) = l3 + 1 := aw_id (by omega)
  have e2 : aw oo (l3 + 2) = l3 + 2 := aw_id (by omega)
  have e3 : aw oo (l3 + 3) = l3 + 3 := aw_id (by omega)
  have e4 : aw oo (l3 + 4) = l3 + 4 := aw_id (by omega)
  have e5 : aw oo (l3 + 5) = l3 + 5 := aw_id (by omega)
  have e6 : aw oo (l3 + 6) = l3 + 6 := aw_id (by omega)
  have e7 : aw oo (l3 + 7) = l3 + 7 := aw_id (by omega)
  have c1 : (0 ≤ l3 + 1 ∧ l3 + 1 < gD S 0 1 0) = True := eq_true ⟨by omega, by omega⟩
  have c2 : (0 ≤ l3 + 2 ∧ l3 + 2 < gD S 0 1 0) = True := eq_true ⟨by omega, by omega⟩
  have c3 : (0 ≤ l3 + 3 ∧ l3 + 3 < gD S 0 1 0) = True := eq_true ⟨by omega, by omega⟩
  have c4 : (0 ≤ l3 + 4 ∧ l3 + 4 < gD S 0 1 0) = True := eq_true ⟨by omega, by omega⟩
  have c5 : (0 ≤ l3 + 5 ∧ l3 + 5 < gD S 0 1 0) = True := eq_true ⟨by omega, by omega⟩
  have c6 : (0 ≤ l3 + 6 ∧ l3 + 6 < gD S 0 1 0) = True := eq_true ⟨by omega, by omega⟩
  rw [b307_18, if_neg hlt, if_pos (show 0 ≤ l3 ∧ l3 < gD S 0 1 0 by omega), if_pos hc]
  simp only [e1, e2, e3, e4, e5, e6, e7, g1, c1, c2, c3, c4, c5, c6, if_true, if_false, h1, bI, bL, h2, ab9]
theorem lc_1 {K : KT} {n : Nat} {S S1 S2 : SD} {l3 x : Int} (hlt : ¬ aw oo (gD S 0 1 0 - 7) < l3) (hb : 0 ≤ l3 ∧ l3 + 6 < gD S 0 1 0) (hm : l3 < 100000) (hc : ab oo 0 (gD S 0 0 l3.toNat) 63 = 1) (hg : S1.1 0 = S.1 0) (h1 : K 149 [vr (some (2, 0)), vi (gD S 0 0 (l3 + 1).toNat), vi (gD S 0 0 (l3 + 2).toNat), vi (gD S 0 0 (l3 + 3).toNat)] S = some (vi x, S1)) (h2 : K 199 [vr (some (85, 0)), vi (gD S 0 0 (l3 + 1).toNat), vi (gD S 0 0 (l3 + 2).toNat), vi (gD S 0 0 (l3 + 3).toNat)] S1 = some (vi x, S2)) : run oo K false mi_307 (n + 1) 18 [(0, vr (some (0, 0))), (1, vr (some (2, 0))), (2, vr (some (85, 0))), (3, vi l3)] [] S = run oo K false mi_307 n 18 [(0, vr (some (0, 0))), (1, vr (some (2, 0))), (2, vr (some (85, 0))), (3, vi (l3 + 7))] [] S2 := by
  have g1 : ∀ j k, gD S1 0 j k = gD S 0 j k := fun j k => by show S1.1 0 j k = S.1 0 j k; rw [hg]
  have e1 : aw oo (l3 + 1) = l3 + 1 := aw_id (by omega)
  have e2 : aw oo (l3 + 2) = l3 + 2 := aw_id (by omega)
  have e3 : aw oo (l3 + 3) = l3 + 3 := aw_id (by omega)
  have e4 : aw oo (l3 + 4) = l3 + 4 := aw_id (by omega)
  have e5 : aw oo (l3 + 5) = l3 + 5 := aw_id (by omega)
  have e6 : aw oo (l3 + 6) = l3 + 6 := aw_id (by omega)
  have e7 : aw oo (l3 + 7) = l3 + 7 := aw_id (by omega)
  have c1 : (0 ≤ l3 + 1 ∧ l3 + 1 < gD S 0 1 0) = True := eq_true ⟨by omega, by omega⟩
  have c2 : (0 ≤ l3 + 2 ∧ l3 + 2 < gD S 0 1 0) = True := eq_true ⟨by omega, by omega⟩
  have c3 : (0 ≤ l3 + 3 ∧ l3 + 3 < gD S 0 1 0) = True := eq_true ⟨by omega, by omega⟩
  have c4 : (0 ≤ l3 + 4 ∧ l3 + 4 < gD S 0 1 0) = True := eq_true ⟨by omega, by omega⟩
  have c5 : (0 ≤ l3 + 5 ∧ l3 + 5 < gD S 0 1 0) = True := eq_true ⟨by omega, by omega⟩
  have c6 : (0 ≤ l3 + 6 ∧ l3 + 6 < gD S 0 1 0) = True := eq_true ⟨by omega, by omega⟩
  rw [b307_18, if_neg hlt, if_pos (show 0 ≤ l3 ∧ l3 < gD S 0 1 0 by omega), if_neg (show ¬ ab oo 0 (gD S 0 0 l3.toNat) 63 = 0 by rw [hc]; decide), if_pos hc]
  simp only [e1, e2, e3, e4, e5, e6, e7, g1, c1, c2, c3, c4, c5, c6, if_true, if_false, h1, bI, bL, h2, ab9]
theorem lc_2 {K : KT} {n : Nat} {S S1 S2 : SD} {l3 x : Int} (hlt : ¬ aw oo (gD S 0 1 0 - 7) < l3) (hb : 0 ≤ l3 ∧ l3 + 6 < gD S 0 1 0) (hm : l3 < 100000) (hc : ab oo 0 (gD S 0 0 l3.toNat) 63 = 2) (hg : S1.1 0 = S.1 0) (h1 : K 150 [vr (some (2, 0)), vi (gD S 0 0 (l3 + 1).toNat), vi (gD S 0 0 (l3 + 2).toNat)] S = some (vi x, S1)) (h2 : K 200 [vr (some (85, 0)), vi (gD S 0 0 (l3 + 1).toNat), vi (gD S 0 0 (l3 + 2).toNat)] S1 = some (vi x, S2)) : run oo K false mi_307 (n + 1) 18 [(0, vr (some (0, 0))), (1, vr (some (2, 0))), (2, vr (some (85, 0))), (3, vi l3)] [] S = run oo K false mi_307 n 18 [(0, vr (some (0, 0))), (1, vr (some (2, 0))), (2, vr (some (85, 0))), (3, vi (l3 + 7))] [] S2 := by
  have g1 : ∀ j k, gD S1 0 j k = gD S 0 j k := fun j k => by show S1.1 0 j k = S.1 0 j k; rw [hg]
  have e1 : aw oo (l3 + 1) = l3 + 1 := aw_id (by omega)
  have e2 : aw oo (l3 + 2) = l3 + 2 := aw_id (by omega)
  have e3 : aw oo (l3 + 3) = l3 + 3 := aw_id (by omega)
  have e4 : aw oo (l3 + 4) = l3 + 4 := aw_id (by omega)
  have e5 : aw oo (l3 + 5) = l3 + 5 := aw_id (by omega)
  have e6 : aw oo (l3 + 6) = l3 + 6 := aw_id (by omega)
  have e7 : aw oo (l3 + 7) = l3 + 7 := aw_id (by omega)
  have c1 : (0 ≤ l3 + 1 ∧ l3 + 1 < gD S 0 1 0) = True := eq_true ⟨by omega, by omega⟩
  have c2 : (0 ≤ l3 + 2 ∧ l3 + 2 < gD S 0 1 0) = True := eq_true ⟨by omega, by omega⟩
  have c3 : (0 ≤ l3 + 3 ∧ l3 + 3 < gD S 0 1 0) = True := eq_true ⟨by omega, by omega⟩
  have c4 : (0 ≤ l3 + 4 ∧ l3 + 4 < gD S 0 1 0) = True := eq_true ⟨by omega, by omega⟩
  have c5 : (0 ≤ l3 + 5 ∧ l3 + 5 < gD S 0 1 0) = True := eq_true ⟨by omega, by omega⟩
  have c6 : (0 ≤ l3 + 6 ∧ l3 + 6 < gD S 0 1 0) = True := eq_true ⟨by omega, by omega⟩
  rw [b307_18, if_neg hlt, if_pos (show 0 ≤ l3 ∧ l3 < gD S 0 1 0 by omega), if_neg (show ¬ ab oo 0 (gD S 0 0 l3.toNat) 63 = 0 by rw [hc]; decide), if_neg (show ¬ ab oo 0 (gD S 0 0 l3.toNat) 63 = 1 by rw [hc]; decide), if_pos hc]
  simp only [e1, e2, e3, e4, e5, e6, e7, g1, c1, c2, c3, c4, c5, c6, if_true, if_false, h1, bI, bL, h2, ab9]
theorem lc_3 {K : KT} {n : Nat} {S S1 S2 : SD} {l3 x : Int} (hlt : ¬ aw oo (gD S 0 1 0 - 7) < l3) (hb : 0 ≤ l3 ∧ l3 + 6 < gD S 0 1 0) (hm : l3 < 100000) (hc : ab oo 0 (gD S 0 0 l3.toNat) 63 = 3) (hg : S1.1 0 = S.1 0) (h1 : K 151 [vr (some (2, 0))] S = some (vi x, S1)) (h2 : K 259 [vr (some (85, 0))] S1 = some (vi x, S2)) : run oo K false mi_307 (n + 1) 18 [(0, vr (some (0, 0))), (1, vr (some (2, 0))), (2, vr (some (85, 0))), (3, vi l3)] [] S = run oo K false mi_307 n 18 [(0, vr (some (0, 0))), (1, vr (some (2, 0))), (2, vr (some (85, 0))), (3, vi (l3 + 7))] [] S2 := by
  have g1 : ∀ j k, gD S1 0 j k = gD S 0 j k := fun j k => by show S1.1 0 j k = S.1 0 j k; rw [hg]
  have e1 : aw oo (l3 + 1) = l3 + 1 := aw_id (by omega)
  have e2 : aw oo (l3 + 2) = l3 + 2 := aw_id (by omega)
  have e3 : aw oo (l3 + 3) = l3 + 3 := aw_id (by omega)
  have e4 : aw oo (l3 + 4) = l3 + 4 := aw_id (by omega)
  have e5 : aw oo (l3 + 5) = l3 + 5 := aw_id (by omega)
  have e6 : aw oo (l3 + 6) = l3 + 6 := aw_id (by omega)
  have e7 : aw oo (l3 + 7) = l3 + 7 := aw_id (by omega)
  have c1 : (0 ≤ l3 + 1 ∧ l3 + 1 < gD S 0 1 0) = True := eq_true ⟨by omega, by omega⟩
  have c2 : (0 ≤ l3 + 2 ∧ l3 + 2 < gD S 0 1 0) = True := eq_true ⟨by omega, by omega⟩
  have c3 : (0 ≤ l3 + 3 ∧ l3 + 3 < gD S 0 1 0) = True := eq_true ⟨by omega, by omega⟩
  have c4 : (0 ≤ l3 + 4 ∧ l3 + 4 < gD S 0 1 0) = True := eq_true ⟨by omega, by omega⟩
  have c5 : (0 ≤ l3 + 5 ∧ l3 + 5 < gD S 0 1 0) = True := eq_true ⟨by omega, by omega⟩
  have c6 : (0 ≤ l3 + 6 ∧ l3 + 6 < gD S 0 1 0) = True := eq_true ⟨by omega, by omega⟩
  rw [b307_18, if_neg hlt, if_pos (show 0 ≤ l3 ∧ l3 < gD S 0 1 0 by omega), if_neg (show ¬ ab oo 0 (gD S 0 0 l3.toNat) 63 = 0 by rw [hc]; decide), if_neg (show ¬ ab oo 0 (gD S 0 0 l3.toNat) 63 = 1 by rw [hc]; decide), if_neg (show ¬ ab oo 0 (gD S 0 0 l3.toNat) 63 = 2 by rw [hc]; decide), if_pos hc]
  simp only [e1, e2, e3, e4, e5, e6, e7, g1, c1, c2, c3, c4, c5, c6, if_true, if_false, h1, bI, bL, h2, ab9]
theorem lc_4 {K : KT} {n : Nat} {S S1 S2 : SD} {l3 x : Int} (hlt : ¬ aw oo (gD S 0 1 0 - 7) < l3) (hb : 0 ≤ l3 ∧ l3 + 6 < gD S 0 1 0) (hm : l3 < 100000) (hc : ab oo 0 (gD S 0 0 l3.toNat) 63 = 4) (hg : S1.1 0 = S.1 0) (h1 : K 152 [vr (some (2, 0)), vi (gD S 0 0 (l3 + 1).toNat), vi (gD S 0 0 (l3 + 2).toNat), vi (gD S 0 0 (l3 + 3).toNat), vi (gD S 0 0 (l3 + 4).toNat), vi (gD S 0 0 (l3 + 5).toNat), vi (gD S 0 0 (l3 + 6).toNat)] S = some (vi x, S1)) (h2 : K 211 [vr (some (85, 0)), vi (gD S 0 0 (l3 + 1).toNat), vi (gD S 0 0 (l3 + 2).toNat), vi (gD S 0 0 (l3 + 3).toNat), vi (gD S 0 0 (l3 + 4).toNat), vi (gD S 0 0 (l3 + 5).toNat), vi (gD S 0 0 (l3 + 6).toNat)] S1 = some (vi x, S2)) : run oo K false mi_307 (n + 1) 18 [(0, vr (some (0, 0))), (1, vr (some (2, 0))), (2, vr (some (85, 0))), (3, vi l3)] [] S = run oo K false mi_307 n 18 [(0, vr (some (0, 0))), (1, vr (some (2, 0))), (2, vr (some (85, 0))), (3, vi (l3 + 7))] [] S2 := by
  have g1 : ∀ j k, gD S1 0 j k = gD S 0 j k := fun j k => by show S1.1 0 j k = S.1 0 j k; rw [hg]
  have e1 : aw oo (l3 + 1) = l3 + 1 := aw_id (by omega)
  have e2 : aw oo (l3 + 2) = l3 + 2 := aw_id (by omega)
  have e3 : aw oo (l3 + 3) = l3 + 3 := aw_id (by omega)
  have e4 : aw oo (l3 + 4) = l3 + 4 := aw_id (by omega)
  have e5 : aw oo (l3 + 5) = l3 + 5 := aw_id (by omega)
  have e6 : aw oo (l3 + 6) = l3 + 6 := aw_id (by omega)
  have e7 : aw oo (l3 + 7) = l3 + 7 := aw_id (by omega)
  have c1 : (0 ≤ l3 + 1 ∧ l3 + 1 < gD S 0 1 0) = True := eq_true ⟨by omega, by omega⟩
  have c2 : (0 ≤ l3 + 2 ∧ l3 + 2 < gD S 0 1 0) = True := eq_true ⟨by omega, by omega⟩
  have c3 : (0 ≤ l3 + 3 ∧ l3 + 3 < gD S 0 1 0) = True := eq_true ⟨by omega, by omega⟩
  have c4 : (0 ≤ l3 + 4 ∧ l3 + 4 < gD S 0 1 0) = True := eq_true ⟨by omega, by omega⟩
  have c5 : (0 ≤ l3 + 5 ∧ l3 + 5 < gD S 0 1 0) = True := eq_true ⟨by omega, by omega⟩
  have c6 : (0 ≤ l3 + 6 ∧ l3 + 6 < gD S 0 1 0) = True := eq_true ⟨by omega, by omega⟩
  rw [b307_18, if_neg hlt, if_pos (show 0 ≤ l3 ∧ l3 < gD S 0 1 0 by omega), if_neg (show ¬ ab oo 0 (gD S 0 0 l3.toNat) 63 = 0 by rw [hc]; decide), if_neg (show ¬ ab oo 0 (gD S 0 0 l3.toNat) 63 = 1 by rw [hc]; decide), if_neg (show ¬ ab oo 0 (gD S 0 0 l3.toNat) 63 = 2 by rw [hc]; decide), if_neg (show ¬ ab oo 0 (gD S 0 0 l3.toNat) 63 = 3 by rw [hc]; decide), if_pos hc]
  simp only [e1, e2, e3, e4, e5, e6, e7, g1, c1, c2, c3, c4, c5, c6, if_true, if_false, h1, bI, bL, h2, ab9]
theorem lc_5 {K : KT} {n : Nat} {S S1 S2 : SD} {l3 x : Int} (hlt : ¬ aw oo (gD S 0 1 0 - 7) < l3) (hb : 0 ≤ l3 ∧ l3 + 6 < gD S 0 1 0) (hm : l3 < 100000) (hc : ab oo 0 (gD S 0 0 l3.toNat) 63 = 5) (hg : S1.1 0 = S.1 0) (h1 : K 153 [vr (some (2, 0)), vi (gD S 0 0 (l3 + 1).toNat), vi (gD S 0 0 (l3 + 2).toNat)] S = some (vi x, S1)) (h2 : K 212 [vr (some (85, 0)), vi (gD S 0 0 (l3 + 1).toNat), vi (gD S 0 0 (l3 + 2).toNat)] S1 = some (vi x, S2)) : run oo K false mi_307 (n + 1) 18 [(0, vr (some (0, 0))), (1, vr (some (2, 0))), (2, vr (some (85, 0))), (3, vi l3)] [] S = run oo K false mi_307 n 18 [(0, vr (some (0, 0))), (1, vr (some (2, 0))), (2, vr (some (85, 0))), (3, vi (l3 + 7))] [] S2 := by
  have g1 : ∀ j k, gD S1 0 j k = gD S 0 j k := fun j k => by show S1.1 0 j k = S.1 0 j k; rw [hg]
  have e1 : aw oo (l3 + 1) = l3 + 1 := aw_id (by omega)
  have e2 : aw oo (l3 + 2) = l3 + 2 := aw_id (by omega)
  have e3 : aw oo (l3 + 3) = l3 + 3 := aw_id (by omega)
  have e4 : aw oo (l3 + 4) = l3 + 4 := aw_id (by omega)
  have e5 : aw oo (l3 + 5) = l3 + 5 := aw_id (by omega)
  have e6 : aw oo (l3 + 6) = l3 + 6 := aw_id (by omega)
  have e7 : aw oo (l3 + 7) = l3 + 7 := aw_id (by omega)
  have c1 : (0 ≤ l3 + 1 ∧ l3 + 1 < gD S 0 1 0) = True := eq_true ⟨by omega, by omega⟩
  have c2 : (0 ≤ l3 + 2 ∧ l3 + 2 < gD S 0 1 0) = True := eq_true ⟨by omega, by omega⟩
  have c3 : (0 ≤ l3 + 3 ∧ l3 + 3 < gD S 0 1 0) = True := eq_true ⟨by omega, by omega⟩
  have c4 : (0 ≤ l3 + 4 ∧ l3 + 4 < gD S 0 1 0) = True := eq_true ⟨by omega, by omega⟩
  have c5 : (0 ≤ l3 + 5 ∧ l3 + 5 < gD S 0 1 0) = True := eq_true ⟨by omega, by omega⟩
  have c6 : (0 ≤ l3 + 6 ∧ l3 + 6 < gD S 0 1 0) = True := eq_true ⟨by omega, by omega⟩
  rw [b307_18, if_neg hlt, if_pos (show 0 ≤ l3 ∧ l3 < gD S 0 1 0 by omega), if_neg (show ¬ ab oo 0 (gD S 0 0 l3.toNat) 63 = 0 by rw [hc]; decide), if_neg (show ¬ ab oo 0 (gD S 0 0 l3.toNat) 63 = 1 by rw [hc]; decide), if_neg (show ¬ ab oo 0 (gD S 0 0 l3.toNat) 63 = 2 by rw [hc]; decide), if_neg (show ¬ ab oo 0 (gD S 0 0 l3.toNat) 63 = 3 by rw [hc]; decide), if_neg (show ¬ ab oo 0 (gD S 0 0 l3.toNat) 63 = 4 by rw [hc]; decide), if_pos hc]
  simp only [e1, e2, e3, e4, e5, e6, e7, g1, c1, c2, c3, c4, c5, c6, if_true, if_false, h1, bI, bL, h2, ab9]
theorem lc_6 {K : KT} {n : Nat} {S S1 S2 : SD} {l3 x : Int} (hlt : ¬ aw oo (gD S 0 1 0 - 7) < l3) (hb : 0 ≤ l3 ∧ l3 + 6 < gD S 0 1 0) (hm : l3 < 100000) (hc : ab oo 0 (gD S 0 0 l3.toNat) 63 = 6) (hg : S1.1 0 = S.1 0) (h1 : K 154 [vr (some (2, 0)), vi (gD S 0 0 (l3 + 1).toNat), vi (gD S 0 0 (l3 + 2).toNat)] S = some (vi x, S1)) (h2 : K 204 [vr (some (85, 0)), vi (gD S 0 0 (l3 + 1).toNat), vi (gD S 0 0 (l3 + 2).toNat)] S1 = some (vi x, S2)) : run oo K false mi_307 (n + 1) 18 [(0, vr (some (0, 0))), (1, vr (some (2, 0))), (2, vr (some (85, 0))), (3, vi l3)] [] S = run oo K false mi_307 n 18 [(0, vr (some (0, 0))), (1, vr (some (2, 0))), (2, vr (some (85, 0))), (3, vi (l3 + 7))] [] S2 := by
  have g1 : ∀ j k, gD S1 0 j k = gD S 0 j k := fun j k => by show S1.1 0 j k = S.1 0 j k; rw [hg]
  have e1 : aw oo (l3 + 1) = l3 + 1 := aw_id (by omega)
  have e2 : aw oo (l3 + 2) = l3 + 2 := aw_id (by omega)
  have e3 : aw oo (l3 + 3) = l3 + 3 := aw_id (by omega)
  have e4 : aw oo (l3 + 4) = l3 + 4 := aw_id (by omega)
  have e5 : aw oo (l3 + 5) = l3 + 5 := aw_id (by omega)
  have e6 : aw oo (l3 + 6) = l3 + 6 := aw_id (by omega)
  have e7 : aw oo (l3 + 7) = l3 + 7 := aw_id (by omega)
  have c1 : (0 ≤ l3 + 1 ∧ l3 + 1 < gD S 0 1 0) = True := eq_true ⟨by omega, by omega⟩
  have c2 : (0 ≤ l3 + 2 ∧ l3 + 2 < gD S 0 1 0) = True := eq_true ⟨by omega, by omega⟩
  have c3 : (0 ≤ l3 + 3 ∧ l3 + 3 < gD S 0 1 0) = True := eq_true ⟨by omega, by omega⟩
  have c4 : (0 ≤ l3 + 4 ∧ l3 + 4 < gD S 0 1 0) = True := eq_true ⟨by omega, by omega⟩
  have c5 : (0 ≤ l3 + 5 ∧ l3 + 5 < gD S 0 1 0) = True := eq_true ⟨by omega, by omega⟩
  have c6 : (0 ≤ l3 + 6 ∧ l3 + 6 < gD S 0 1 0) = True := eq_true ⟨by omega, by omega⟩
  rw [b307_18, if_neg hlt, if_pos (show 0 ≤ l3 ∧ l3 < gD S 0 1 0 by omega), if_neg (show ¬ ab oo 0 (gD S 0 0 l3.toNat) 63 = 0 by rw [hc]; decide), if_neg (show ¬ ab oo 0 (gD S 0 0 l3.toNat) 63 = 1 by rw [hc]; decide), if_neg (show ¬ ab oo 0 (gD S 0 0 l3.toNat) 63 = 2 by rw [hc]; decide), if_neg (show ¬ ab oo 0 (gD S 0 0 l3.toNat) 63 = 3 by rw [hc]; decide), if_neg (show ¬ ab oo 0 (gD S 0 0 l3.toNat) 63 = 4 by rw [hc]; decide), if_neg (show ¬ ab oo 0 (gD S 0 0 l3.toNat) 63 = 5 by rw [hc]; decide), if_pos hc]
  simp only [e1, e2, e3, e4, e5, e6, e7, g1, c1, c2, c3, c4, c5, c6, if_true, if_false, h1, bI, bL, h2, ab9]
theorem lc_7 {K : KT} {n : Nat} {S S1 S2 : SD} {l3 x : Int} (hlt : ¬ aw oo (gD S 0 1 0 - 7) < l3) (hb : 0 ≤ l3 ∧ l3 + 6 < gD S 0 1 0) (hm : l3 < 100000) (hc : ab oo 0 (gD S 0 0 l3.toNat) 63 = 7) (hg : S1.1 0 = S.1 0) (h1 : K 155 [vr (some (2, 0)), vi (gD S 0 0 (l3 + 1).toNat), vi (gD S 0 0 (l3 + 2).toNat)] S = some (vi x, S1)) (h2 : K 214 [vr (some (85, 0)), vi (gD S 0 0 (l3 + 1).toNat), vi (gD S 0 0 (l3 + 2).toNat)] S1 = some (vi x, S2)) : run oo K false mi_307 (n + 1) 18 [(0, vr (some (0, 0))), (1, vr (some (2, 0))), (2, vr (some (85, 0))), (3, vi l3)] [] S = run oo K false mi_307 n 18 [(0, vr (some (0, 0))), (1, vr (some (2, 0))), (2, vr (some (85, 0))), (3, vi (l3 + 7))] [] S2 := by
  have g1 : ∀ j k, gD S1 0 j k = gD S 0 j k := fun j k => by show S1.1 0 j k = S.1 0 j k; rw [hg]
  have e1 : aw oo (l3 + 1) = l3 + 1 := aw_id (by omega)
  have e2 : aw oo (l3 + 2) = l3 + 2 := aw_id (by omega)
  have e3 : aw oo (l3 + 3) = l3 + 3 := aw_id (by omega)
  have e4 : aw oo (l3 + 4) = l3 + 4 := aw_id (by omega)
  have e5 : aw oo (l3 + 5) = l3 + 5 := aw_id (by omega)
  have e6 : aw oo (l3 + 6) = l3 + 6 := aw_id (by omega)
  have e7 : aw oo (l3 + 7) = l3 + 7 := aw_id (by omega)
  have c1 : (0 ≤ l3 + 1 ∧ l3 + 1 < gD S 0 1 0) = True := eq_true ⟨by omega, by omega⟩
  have c2 : (0 ≤ l3 + 2 ∧ l3 + 2 < gD S 0 1 0) = True := eq_true ⟨by omega, by omega⟩
  have c3 : (0 ≤ l3 + 3 ∧ l3 + 3 < gD S 0 1 0) = True := eq_true ⟨by omega, by omega⟩
  have c4 : (0 ≤ l3 + 4 ∧ l3 + 4 < gD S 0 1 0) = True := eq_true ⟨by omega, by omega⟩
  have c5 : (0 ≤ l3 + 5 ∧ l3 + 5 < gD S 0 1 0) = True := eq_true ⟨by omega, by omega⟩
  have c6 : (0 ≤ l3 + 6 ∧ l3 + 6 < gD S 0 1 0) = True := eq_true ⟨by omega, by omega⟩
  rw [b307_18, if_neg hlt, if_pos (show 0 ≤ l3 ∧ l3 < gD S 0 1 0 by omega), if_neg (show ¬ ab oo 0 (gD S 0 0 l3.toNat) 63 = 0 by rw [hc]; decide), if_neg (show ¬ ab oo 0 (gD S 0 0 l3.toNat) 63 = 1 by rw [hc]; decide), if_neg (show ¬ ab oo 0 (gD S 0 0 l3.toNat) 63 = 2 by rw [hc]; decide), if_neg (show ¬ ab oo 0 (gD S 0 0 l3.toNat) 63 = 3 by rw [hc]; decide), if_neg (show ¬ ab oo 0 (gD S 0 0 l3.toNat) 63 = 4 by rw [hc]; decide), if_neg (show ¬ ab oo 0 (gD S 0 0 l3.toNat) 63 = 5 by rw [hc]; decide), if_neg (show ¬ ab oo 0 (gD S 0 0 l3.toNat) 63 = 6 by rw [hc]; decide), if_pos hc]
  simp only [e1, e2, e3, e4, e5, e6, e7, g1, c1, c2, c3, c4, c5, c6, if_true, if_false, h1, bI, bL, h2, ab9]
theorem lc_8 {K : KT} {n : Nat} {S S1 S2 : SD} {l3 x : Int} (hlt : ¬ aw oo (gD S 0 1 0 - 7) < l3) (hb : 0 ≤ l3 ∧ l3 + 6 < gD S 0 1 0) (hm : l3 < 100000) (hc : ab oo 0 (gD S 0 0 l3.toNat) 63 = 8) (hg : S1.1 0 = S.1 0) (h1 : K 156 [vr (some (2, 0)), vi (gD S 0 0 (l3 + 1).toNat), vi (gD S 0 0 (l3 + 2).toNat)] S = some (vi x, S1)) (h2 : K 215 [vr (some (85, 0)), vi (gD S 0 0 (l3 + 1).toNat), vi (gD S 0 0 (l3 + 2).toNat)] S1 = some (vi x, S2)) : run oo K false mi_307 (n + 1) 18 [(0, vr (some (0, 0))), (1, vr (some (2, 0))), (2, vr (some (85, 0))), (3, vi l3)] [] S = run oo K false mi_307 n 18 [(0, vr (some (0, 0))), (1, vr (some (2, 0))), (2, vr (some (85, 0))), (3, vi (l3 + 7))] [] S2 := by
  have g1 : ∀ j k, gD S1 0 j k = gD S 0 j k := fun j k => by show S1.1 0 j k = S.1 0 j k; rw [hg]
  have e1 : aw oo (l3 + 1) = l3 + 1 := aw_id (by omega)
  have e2 : aw oo (l3 + 2) = l3 + 2 := aw_id (by omega)
  have e3 : aw oo (l3 + 3) = l3 + 3 := aw_id (by omega)
  have e4 : aw oo (l3 + 4) = l3 + 4 := aw_id (by omega)
  have e5 : aw oo (l3 + 5) = l3 + 5 := aw_id (by omega)
  have e6 : aw oo (l3 + 6) = l3 + 6 := aw_id (by omega)
  have e7 : aw oo (l3 + 7) = l3 + 7 := aw_id (by omega)
  have c1 : (0 ≤ l3 + 1 ∧ l3 + 1 < gD S 0 1 0) = True := eq_true ⟨by omega, by omega⟩
  have c2 : (0 ≤ l3 + 2 ∧ l3 + 2 < gD S 0 1 0) = True := eq_true ⟨by omega, by omega⟩
  have c3 : (0 ≤ l3 + 3 ∧ l3 + 3 < gD S 0 1 0) = True := eq_true ⟨by omega, by omega⟩
  have c4 : (0 ≤ l3 + 4 ∧ l3 + 4 < gD S 0 1 0) = True := eq_true ⟨by omega, by omega⟩
  have c5 : (0 ≤ l3 + 5 ∧ l3 + 5 < gD S 0 1 0) = True := eq_true ⟨by omega, by omega⟩
  have c6 : (0 ≤ l3 + 6 ∧ l3 + 6 < gD S 0 1 0) = True := eq_true ⟨by omega, by omega⟩
  rw [b307_18, if_neg hlt, if_pos (show 0 ≤ l3 ∧ l3 < gD S 0 1 0 by omega), if_neg (show ¬ ab oo 0 (gD S 0 0 l3.toNat) 63 = 0 by rw [hc]; decide), if_neg (show ¬ ab oo 0 (gD S 0 0 l3.toNat) 63 = 1 by rw [hc]; decide), if_neg (show ¬ ab oo 0 (gD S 0 0 l3.toNat) 63 = 2 by rw [hc]; decide), if_neg (show ¬ ab oo 0 (gD S 0 0 l3.toNat) 63 = 3 by rw [hc]; decide), if_neg (show ¬ ab oo 0 (gD S 0 0 l3.toNat) 63 = 4 by rw [hc]; decide), if_neg (show ¬ ab oo 0 (gD S 0 0 l3.toNat) 63 = 5 by rw [hc]; decide), if_neg (show ¬ ab oo 0 (gD S 0 0 l3.toNat) 63 = 6 by rw [hc]; decide), if_neg (show ¬ ab oo 0 (gD S 0 0 l3.toNat) 63 = 7 by rw [hc]; decide), if_pos hc]
  simp only [e1, e2, e3, e4, e5, e6, e7, g1, c1, c2, c3, c4, c5, c6, if_true, if_false, h1, bI, bL, h2, ab9]
theorem lc_9 {K : KT} {n : Nat} {S S1 S2 : SD} {l3 x : Int} (hlt : ¬ aw oo (gD S 0 1 0 - 7) < l3) (hb : 0 ≤ l3 ∧ l3 + 6 < gD S 0 1 0) (hm : l3 < 100000) (hc : ab oo 0 (gD S 0 0 l3.toNat) 63 = 9) (hg : S1.1 0 = S.1 0) (h1 : K 157 [vr (some (2, 0)), vi (gD S 0 0 (l3 + 1).toNat)] S = some (vi x, S1)) (h2 : K 216 [vr (some (85, 0)), vi (gD S 0 0 (l3 + 1).toNat)] S1 = some (vi x, S2)) : run oo K false mi_307 (n + 1) 18 [(0, vr (some (0, 0))), (1, vr (some (2, 0))), (2, vr (some (85, 0))), (3, vi l3)] [] S = run oo K false mi_307 n 18 [(0, vr (some (0, 0))), (1, vr (some (2, 0))), (2, vr (some (85, 0))), (3, vi (l3 + 7))] [] S2 := by
  have g1 : ∀ j k, gD S1 0 j k = gD S 0 j k := fun j k => by show S1.1 0 j k = S.1 0 j k; rw [hg]
  have e1 : aw oo (l3 + 1) = l3 + 1 := aw_id (by omega)
  have e2 : aw oo (l3 + 2) = l3 + 2 := aw_id (by omega)
  have e3 : aw oo (l3 + 3) = l3 + 3 := aw_id (by omega)
  have e4 : aw oo (l3 + 4) = l3 + 4 := aw_id (by omega)
  have e5 : aw oo (l3 + 5) = l3 + 5 := aw_id (by omega)
  have e6 : aw oo (l3 + 6) = l3 + 6 := aw_id (by omega)
  have e7 : aw oo (l3 + 7) = l3 + 7 := aw_id (by omega)
  have c1 : (0 ≤ l3 + 1 ∧ l3 + 1 < gD S 0 1 0) = True := eq_true ⟨by omega, by omega⟩
  have c2 : (0 ≤ l3 + 2 ∧ l3 + 2 < gD S 0 1 0) = True := eq_true ⟨by omega, by omega⟩
  have c3 : (0 ≤ l3 + 3 ∧ l3 + 3 < gD S 0 1 0) = True := eq_true ⟨by omega, by omega⟩
  have c4 : (0 ≤ l3 + 4 ∧ l3 + 4 < gD S 0 1 0) = True := eq_true ⟨by omega, by omega⟩
  have c5 : (0 ≤ l3 + 5 ∧ l3 + 5 < gD S 0 1 0) = True := eq_true ⟨by omega, by omega⟩
  have c6 : (0 ≤ l3 + 6 ∧ l3 + 6 < gD S 0 1 0) = True := eq_true ⟨by omega, by omega⟩
  rw [b307_18, if_neg hlt, if_pos (show 0 ≤ l3 ∧ l3 < gD S 0 1 0 by omega), if_neg (show ¬ ab oo 0 (gD S 0 0 l3.toNat) 63 = 0 by rw [hc]; decide), if_neg (show ¬ ab oo 0 (gD S 0 0 l3.toNat) 63 = 1 by rw [hc]; decide), if_neg (show ¬ ab oo 0 (gD S 0 0 l3.toNat) 63 = 2 by rw [hc]; decide), if_neg (show ¬ ab oo 0 (gD S 0 0 l3.toNat) 63 = 3 by rw [hc]; decide), if_neg (show ¬ ab oo 0 (gD S 0 0 l3.toNat) 63 = 4 by rw [hc]; decide), if_neg (show ¬ ab oo 0 (gD S 0 0 l3.toNat) 63 = 5 by rw [hc]; decide), if_neg (show ¬ ab oo 0 (gD S 0 0 l3.toNat) 63 = 6 by rw [hc]; decide), if_neg (show ¬ ab oo 0 (gD S 0 0 l3.toNat) 63 = 7 by rw [hc]; decide), if_neg (show ¬ ab oo 0 (gD S 0 0 l3.toNat) 63 = 8 by rw [hc]; decide), if_pos hc]
  simp only [e1, e2, e3, e4, e5, e6, e7, g1, c1, c2, c3, c4, c5, c6, if_true, if_false, h1, bI, bL, h2, ab9]
theorem lc_10 {K : KT} {n : Nat} {S S1 S2 : SD} {l3 x : Int} (hlt : ¬ aw oo (gD S 0 1 0 - 7) < l3) (hb : 0 ≤ l3 ∧ l3 + 6 < gD S 0 1 0) (hm : l3 < 100000) (hc : ab oo 0 (gD S 0 0 l3.toNat) 63 = 10) (hg : S1.1 0 = S.1 0) (h1 : K 158 [vr (some (2, 0)), vi (gD S 0 0 (l3 + 1).toNat), vi (gD S 0 0 (l3 + 2).toNat), vi (gD S 0 0 (l3 + 3).toNat), vi (gD S 0 0 (l3 + 4).toNat)] S = some (vi x, S1)) (h2 : K 219 [vr (some (85, 0)), vi (gD S 0 0 (l3 + 1).toNat), vi (gD S 0 0 (l3 + 2).toNat), vi (gD S 0 0 (l3 + 3).toNat), vi (gD S 0 0 (l3 + 4).toNat)] S1 = some (vi x, S2)) : run oo K false mi_307 (n + 1) 18 [(0, vr (some (0, 0))), (1, vr (some (2, 0))), (2, vr (some (85, 0))), (3, vi l3)] [] S = run oo K false mi_307 n 18 [(0, vr (some (0, 0))), (1, vr (some (2, 0))), (2, vr (some (85, 0))), (3, vi (l3 + 7))] [] S2 := by
  have g1 : ∀ j k, gD S1 0 j k = gD S 0 j k := fun j k => by show S1.1 0 j k = S.1 0 j k; rw [hg]
  have e1 : aw oo (l3 + 1) = l3 + 1 := aw_id (by omega)
  have e2 : aw oo (l3 + 2) = l3 + 2 := aw_id (by omega)
  have e3 : aw oo (l3 + 3) = l3 + 3 := aw_id (by omega)
  have e4 : aw oo (l3 + 4) = l3 + 4 := aw_id (by omega)
  have e5 : aw oo (l3 + 5) = l3 + 5 := aw_id (by omega)
  have e6 : aw oo (l3 + 6) = l3 + 6 := aw_id (by omega)
  have e7 : aw oo (l3 + 7) = l3 + 7 := aw_id (by omega)
  have c1 : (0 ≤ l3 + 1 ∧ l3 + 1 < gD S 0 1 0) = True := eq_true ⟨by omega, by omega⟩
  have c2 : (0 ≤ l3 + 2 ∧ l3 + 2 < gD S 0 1 0) = True := eq_true ⟨by omega, by omega⟩
  have c3 : (0 ≤ l3 + 3 ∧ l3 + 3 < gD S 0 1 0) = True := eq_true ⟨by omega, by omega⟩
  have c4 : (0 ≤ l3 + 4 ∧ l3 + 4 < gD S 0 1 0) = True := eq_true ⟨by omega, by omega⟩
  have c5 : (0 ≤ l3 + 5 ∧ l3 + 5 < gD S 0 1 0) = True := eq_true ⟨by omega, by omega⟩
  have c6 : (0 ≤ l3 + 6 ∧ l3 + 6 < gD S 0 1 0) = True := eq_true ⟨by omega, by omega⟩
  rw [b307_18, if_neg hlt, if_pos (show 0 ≤ l3 ∧ l3 < gD S 0 1 0 by omega), if_neg (show ¬ ab oo 0 (gD S 0 0 l3.toNat) 63 = 0 by rw [hc]; decide), if_neg (show ¬ ab oo 0 (gD S 0 0 l3.toNat) 63 = 1 by rw [hc]; decide), if_neg (show ¬ ab oo 0 (gD S 0 0 l3.toNat) 63 = 2 by rw [hc]; decide), if_neg (show ¬ ab oo 0 (gD S 0 0 l3.toNat) 63 = 3 by rw [hc]; decide), if_neg (show ¬ ab oo 0 (gD S 0 0 l3.toNat) 63 = 4 by rw [hc]; decide), if_neg (show ¬ ab oo 0 (gD S 0 0 l3.toNat) 63 = 5 by rw [hc]; decide), if_neg (show ¬ ab oo 0 (gD S 0 0 l3.toNat) 63 = 6 by rw [hc]; decide), if_neg (show ¬ ab oo 0 (gD S 0 0 l3.toNat) 63 = 7 by rw [hc]; decide), if_neg (show ¬ ab oo 0 (gD S 0 0 l3.toNat) 63 = 8 by rw [hc]; decide), if_neg (show ¬ ab oo 0 (gD S 0 0 l3.toNat) 63 = 9 by rw [hc]; decide), if_pos hc]
  simp only [e1, e2, e3, e4, e5, e6, e7, g1, c1, c2, c3, c4, c5, c6, if_true, if_false, h1, bI, bL, h2, ab9]
theorem lc_11 {K : KT} {n : Nat} {S S1 S2 : SD} {l3 x : Int} (hlt : ¬ aw oo (gD S 0 1 0 - 7) < l3) (hb : 0 ≤ l3 ∧ l3 + 6 < gD S 0 1 0) (hm : l3 < 100000) (hc : ab oo 0 (gD S 0 0 l3.toNat) 63 = 11) (hg : S1.1 0 = S.1 0) (h1 : K 159 [vr (some (2, 0)), vi (gD S 0 0 (l3 + 1).toNat), vi (gD S 0 0 (l3 + 2).toNat), vi (gD S 0 0 (l3 + 3).toNat), vi (gD S 0 0 (l3 + 4).toNat), vi (gD S 0 0 (l3 + 5).toNat)] S = some (vi x, S1)) (h2 : K 220 [vr (some (85, 0)), vi (gD S 0 0 (l3 + 1).toNat), vi (gD S 0 0 (l3 + 2).toNat), vi (gD S 0 0 (l3 + 3).toNat), vi (gD S 0 0 (l3 + 4).toNat), vi (gD S 0 0 (l3 + 5).toNat)] S1 = some (vi x, S2)) : run oo K false mi_307 (n + 1) 18 [(0, vr (some (0, 0))), (1, vr (some (2, 0))), (2, vr (some (85, 0))), (3, vi l3)] [] S = run oo K false mi_307 n 18 [(0, vr (some (0, 0))), (1, vr (some (2, 0))), (2, vr (some (85, 0))), (3, vi (l3 + 7))] [] S2 := by
  have g1 : ∀ j k, gD S1 0 j k = gD S 0 j k := fun j k => by show S1.1 0 j k = S.1 0 j k; rw [hg]
  have e1 : aw oo (l3 + 1) = l3 + 1 := aw_id (by omega)
  have e2 : aw oo (l3 + 2) = l3 + 2 := aw_id (by omega)
  have e3 : aw oo (l3 + 3) = l3 + 3 := aw_id (by omega)
  have e4 : aw oo (l3 + 4) = l3 + 4 := aw_id (by omega)
  have e5 : aw oo (l3 + 5) = l3 + 5 := aw_id (by omega)
  have e6 : aw oo (l3 + 6) = l3 + 6 := aw_id (by omega)
  have e7 : aw oo (l3 + 7) = l3 + 7 := aw_id (by omega)
  have c1 : (0 ≤ l3 + 1 ∧ l3 + 1 < gD S 0 1 0) = True := eq_true ⟨by omega, by omega⟩
  have c2 : (0 ≤ l3 + 2 ∧ l3 + 2 < gD S 0 1 0) = True := eq_true ⟨by omega, by omega⟩
  have c3 : (0 ≤ l3 + 3 ∧ l3 + 3 < gD S 0 1 0) = True := eq_true ⟨by omega, by omega⟩
  have c4 : (0 ≤ l3 + 4 ∧ l3 + 4 < gD S 0 1 0) = True := eq_true ⟨by omega, by omega⟩
  have c5 : (0 ≤ l3 + 5 ∧ l3 + 5 < gD S 0 1 0) = True := eq_true ⟨by omega, by omega⟩
  have c6 : (0 ≤ l3 + 6 ∧ l3 + 6 < gD S 0 1 0) = True := eq_true ⟨by omega, by omega⟩
  rw [b307_18, if_neg hlt, if_pos (show 0 ≤ l3 ∧ l3 < gD S 0 1 0 by omega), if_neg (show ¬ ab oo 0 (gD S 0 0 l3.toNat) 63 = 0 by rw [hc]; decide), if_neg (show ¬ ab oo 0 (gD S 0 0 l3.toNat) 63 = 1 by rw [hc]; decide), if_neg (show ¬ ab oo 0 (gD S 0 0 l3.toNat) 63 = 2 by rw [hc]; decide), if_neg (show ¬ ab oo 0 (gD S 0 0 l3.toNat) 63 = 3 by rw [hc]; decide), if_neg (show ¬ ab oo 0 (gD S 0 0 l3.toNat) 63 = 4 by rw [hc]; decide), if_neg (show ¬ ab oo 0 (gD S 0 0 l3.toNat) 63 = 5 by rw [hc]; decide), if_neg (show ¬ ab oo 0 (gD S 0 0 l3.toNat) 63 = 6 by rw [hc]; decide), if_neg (show ¬ ab oo 0 (gD S 0 0 l3.toNat) 63 = 7 by rw [hc]; decide), if_neg (show ¬ ab oo 0 (gD S 0 0 l3.toNat) 63 = 8 by rw [hc]; decide), if_neg (show ¬ ab oo 0 (gD S 0 0 l3.toNat) 63 = 9 by rw [hc]; decide), if_neg (show ¬ ab oo 0 (gD S 0 0 l3.toNat) 63 = 10 by rw [hc]; decide), if_pos hc]
  simp only [e1, e2, e3, e4, e5, e6, e7, g1, c1, c2, c3, c4, c5, c6, if_true, if_false, h1, bI, bL, h2, ab9]
theorem lc_12 {K : KT} {n : Nat} {S S1 S2 : SD} {l3 x : Int} (hlt : ¬ aw oo (gD S 0 1 0 - 7) < l3) (hb : 0 ≤ l3 ∧ l3 + 6 < gD S 0 1 0) (hm : l3 < 100000) (hc : ab oo 0 (gD S 0 0 l3.toNat) 63 = 12) (hg : S1.1 0 = S.1 0) (h1 : K 160 [vr (some (2, 0)), vi (gD S 0 0 (l3 + 1).toNat), vi (gD S 0 0 (l3 + 2).toNat), vi (gD S 0 0 (l3 + 3).toNat), vi (gD S 0 0 (l3 + 4).toNat), vi (gD S 0 0 (l3 + 5).toNat)] S = some (vi x, S1)) (h2 : K 222 [vr (some (85, 0)), vi (gD S 0 0 (l3 + 1).toNat), vi (gD S 0 0 (l3 + 2).toNat), vi (gD S 0 0 (l3 + 3).toNat), vi (gD S 0 0 (l3 + 4).toNat), vi (gD S 0 0 (l3 + 5).toNat)] S1 = some (vi x, S2)) : run oo K false mi_307 (n + 1) 18 [(0, vr (some (0, 0))), (1, vr (some (2, 0))), (2, vr (some (85, 0))), (3, vi l3)] [] S = run oo K false mi_307 n 18 [(0, vr (some (0, 0))), (1, vr (some (2, 0))), (2, vr (some (85, 0))), (3, vi (l3 + 7))] [] S2 := by
  have g1 : ∀ j k, gD S1 0 j k = gD S 0 j k := fun j k => by show S1.1 0 j k = S.1 0 j k; rw [hg]
  have e1 : aw oo (l3 + 1) = l3 + 1 := aw_id (by omega)
  have e2 : aw oo (l3 + 2) = l3 + 2 := aw_id (by omega)
  have e3 : aw oo (l3 + 3) = l3 + 3 := aw_id (by omega)
  have e4 : aw oo (l3 + 4) = l3 + 4 := aw_id (by omega)
  have e5 : aw oo (l3 + 5) = l3 + 5 := aw_id (by omega)
  have e6 : aw oo (l3 + 6) = l3 + 6 := aw_id (by omega)
  have e7 : aw oo (l3 + 7) = l3 + 7 := aw_id (by omega)
  have c1 : (0 ≤ l3 + 1 ∧ l3 + 1 < gD S 0 1 0) = True := eq_true ⟨by omega, by omega⟩
  have c2 : (0 ≤ l3 + 2 ∧ l3 + 2 < gD S 0 1 0) = True := eq_true ⟨by omega, by omega⟩
  have c3 : (0 ≤ l3 + 3 ∧ l3 + 3 < gD S 0 1 0) = True := eq_true ⟨by omega, by omega⟩
  have c4 : (0 ≤ l3 + 4 ∧ l3 + 4 < gD S 0 1 0) = True := eq_true ⟨by omega, by omega⟩
  have c5 : (0 ≤ l3 + 5 ∧ l3 + 5 < gD S 0 1 0) = True := eq_true ⟨by omega, by omega⟩
  have c6 : (0 ≤ l3 + 6 ∧ l3 + 6 < gD S 0 1 0) = True := eq_true ⟨by omega, by omega⟩
  rw [b307_18, if_neg hlt, if_pos (show 0 ≤ l3 ∧ l3 < gD S 0 1 0 by omega), if_neg (show ¬ ab oo 0 (gD S 0 0 l3.toNat) 63 = 0 by rw [hc]; decide), if_neg (show ¬ ab oo 0 (gD S 0 0 l3.toNat) 63 = 1 by rw [hc]; decide), if_neg (show ¬ ab oo 0 (gD S 0 0 l3.toNat) 63 = 2 by rw [hc]; decide), if_neg (show ¬ ab oo 0 (gD S 0 0 l3.toNat) 63 = 3 by rw [hc]; decide), if_neg (show ¬ ab oo 0 (gD S 0 0 l3.toNat) 63 = 4 by rw [hc]; decide), if_neg (show ¬ ab oo 0 (gD S 0 0 l3.toNat) 63 = 5 by rw [hc]; decide), if_neg (show ¬ ab oo 0 (gD S 0 0 l3.toNat) 63 = 6 by rw [hc]; decide), if_neg (show ¬ ab oo 0 (gD S 0 0 l3.toNat) 63 = 7 by rw [hc]; decide), if_neg (show ¬ ab oo 0 (gD S 0 0 l3.toNat) 63 = 8 by rw [hc]; decide), if_neg (show ¬ ab oo 0 (gD S 0 0 l3.toNat) 63 = 9 by rw [hc]; decide), if_neg (show ¬ ab oo 0 (gD S 0 0 l3.toNat) 63 = 10 by rw [hc]; decide), if_neg (show ¬ ab oo 0 (gD S 0 0 l3.toNat) 63 = 11 by rw [hc]; decide), if_pos hc]
  simp only [e1, e2, e3, e4, e5, e6, e7, g1, c1, c2, c3, c4, c5, c6, if_true, if_false, h1, bI, bL, h2, ab9]
theorem lc_13 {K : KT} {n : Nat} {S S1 S2 : SD} {l3 x : Int} (hlt : ¬ aw oo (gD S 0 1 0 - 7) < l3) (hb : 0 ≤ l3 ∧ l3 + 6 < gD S 0 1 0) (hm : l3 < 100000) (hc : ab oo 0 (gD S 0 0 l3.toNat) 63 = 13) (hg : S1.1 0 = S.1 0) (h1 : K 161 [vr (some (2, 0)), vi (gD S 0 0 (l3 + 1).toNat)] S = some (vi x, S1)) (h2 : K 223 [vr (some (85, 0)), vi (gD S 0 0 (l3 + 1).toNat)] S1 = some (vi x, S2)) : run oo K false mi_307 (n + 1) 18 [(0, vr (some (0, 0))), (1, vr (some (2, 0))), (2, vr (some (85, 0))), (3, vi l3)] [] S = run oo K false mi_307 n 18 [(0, vr (some (0, 0))), (1, vr (some (2, 0))), (2, vr (some (85, 0))), (3, vi (l3 + 7))] [] S2 := by
  have g1 : ∀ j k, gD S1 0 j k = gD S 0 j k := fun j k => by show S1.1 0 j k = S.1 0 j k; rw [hg]
  have e1 : aw oo (l3 + 1) = l3 + 1 := aw_id (by omega)
  have e2 : aw oo (l3 + 2) = l3 + 2 := aw_id (by omega)
  have e3 : aw oo (l3 + 3) = l3 + 3 := aw_id (by omega)
  have e4 : aw oo (l3 + 4) = l3 + 4 := aw_id (by omega)
  have e5 : aw oo (l3 + 5) = l3 + 5 := aw_id (by omega)
  have e6 : aw oo (l3 + 6) = l3 + 6 := aw_id (by omega)
  have e7 : aw oo (l3 + 7) = l3 + 7 := aw_id (by omega)
  have c1 : (0 ≤ l3 + 1 ∧ l3 + 1 < gD S 0 1 0) = True := eq_true ⟨by omega, by omega⟩
  have c2 : (0 ≤ l3 + 2 ∧ l3 + 2 < gD S 0 1 0) = True := eq_true ⟨by omega, by omega⟩
  have c3 : (0 ≤ l3 + 3 ∧ l3 + 3 < gD S 0 1 0) = True := eq_true ⟨by omega, by omega⟩
  have c4 : (0 ≤ l3 + 4 ∧ l3 + 4 < gD S 0 1 0) = True := eq_true ⟨by omega, by omega⟩
  have c5 : (0 ≤ l3 + 5 ∧ l3 + 5 < gD S 0 1 0) = True := eq_true ⟨by omega, by omega⟩
  have c6 : (0 ≤ l3 + 6 ∧ l3 + 6 < gD S 0 1 0) = True := eq_true ⟨by omega, by omega⟩
  rw [b307_18, if_neg hlt, if_pos (show 0 ≤ l3 ∧ l3 < gD S 0 1 0 by omega), if_neg (show ¬ ab oo 0 (gD S 0 0 l3.toNat) 63 = 0 by rw [hc]; decide), if_neg (show ¬ ab oo 0 (gD S 0 0 l3.toNat) 63 = 1 by rw [hc]; decide), if_neg (show ¬ ab oo 0 (gD S 0 0 l3.toNat) 63 = 2 by rw [hc]; decide), if_neg (show ¬ ab oo 0 (gD S 0 0 l3.toNat) 63 = 3 by rw [hc]; decide), if_neg (show ¬ ab oo 0 (gD S 0 0 l3.toNat) 63 = 4 by rw [hc]; decide), if_neg (show ¬ ab oo 0 (gD S 0 0 l3.toNat) 63 = 5 by rw [hc]; decide), if_neg (show ¬ ab oo 0 (gD S 0 0 l3.toNat) 63 = 6 by rw [hc]; decide), if_neg (show ¬ ab oo 0 (gD S 0 0 l3.toNat) 63 = 7 by rw [hc]; decide), if_neg (show ¬ ab oo 0 (gD S 0 0 l3.toNat) 63 = 8 by rw [hc]; decide), if_neg (show ¬ ab oo 0 (gD S 0 0 l3.toNat) 63 = 9 by rw [hc]; decide), if_neg (show ¬ ab oo 0 (gD S 0 0 l3.toNat) 63 = 10 by rw [hc]; decide), if_neg (show ¬ ab oo 0 (gD S 0 0 l3.toNat) 63 = 11 by rw [hc]; decide), if_neg (show ¬ ab oo 0 (gD S 0 0 l3.toNat) 63 = 12 by rw [hc]; decide), if_pos hc]
  simp only [e1, e2, e3, e4, e5, e6, e7, g1, c1, c2, c3, c4, c5, c6, if_true, if_false, h1, bI, bL, h2, ab9]
theorem lc_14 {K : KT} {n : Nat} {S S1 S2 : SD} {l3 x : Int} (hlt : ¬ aw oo (gD S 0 1 0 - 7) < l3) (hb : 0 ≤ l3 ∧ l3 + 6 < gD S 0 1 0) (hm : l3 < 100000) (hc : ab oo 0 (gD S 0 0 l3.toNat) 63 = 14) (hg : S1.1 0 = S.1 0) (h1 : K 162 [vr (some (2, 0)), vi (gD S 0 0 (l3 + 1).toNat)] S = some (vi x, S1)) (h2 : K 246 [vr (some (85, 0)), vi (gD S 0 0 (l3 + 1).toNat)] S1 = some (vi x, S2)) : run oo K false mi_307 (n + 1) 18 [(0, vr (some (0, 0))), (1, vr (some (2, 0))), (2, vr (some (85, 0))), (3, vi l3)] [] S = run oo K false mi_307 n 18 [(0, vr (some (0, 0))), (1, vr (some (2, 0))), (2, vr (some (85, 0))), (3, vi (l3 + 7))] [] S2 := by
  have g1 : ∀ j k, gD S1 0 j k = gD S 0 j k := fun j k => by show S1.1 0 j k = S.1 0 j k; rw [hg]
  have e1 : aw oo (l3 + 1) = l3 + 1 := aw_id (by omega)
  have e2 : aw oo (l3 + 2) = l3 + 2 := aw_id (by omega)
  have e3 : aw oo (l3 + 3) = l3 + 3 := aw_id (by omega)
  have e4 : aw oo (l3 + 4) = l3 + 4 := aw_id (by omega)
  have e5 : aw oo (l3 + 5) = l3 + 5 := aw_id (by omega)
  have e6 : aw oo (l3 + 6) = l3 + 6 := aw_id (by omega)
  have e7 : aw oo (l3 + 7) = l3 + 7 := aw_id (by omega)
  have c1 : (0 ≤ l3 + 1 ∧ l3 + 1 < gD S 0 1 0) = True := eq_true ⟨by omega, by omega⟩
  have c2 : (0 ≤ l3 + 2 ∧ l3 + 2 < gD S 0 1 0) = True := eq_true ⟨by omega, by omega⟩
  have c3 : (0 ≤ l3 + 3 ∧ l3 + 3 < gD S 0 1 0) = True := eq_true ⟨by omega, by omega⟩
  have c4 : (0 ≤ l3 + 4 ∧ l3 + 4 < gD S 0 1 0) = True := eq_true ⟨by omega, by omega⟩
  have c5 : (0 ≤ l3 + 5 ∧ l3 + 5 < gD S 0 1 0) = True := eq_true ⟨by omega, by omega⟩
  have c6 : (0 ≤ l3 + 6 ∧ l3 + 6 < gD S 0 1 0) = True := eq_true ⟨by omega, by omega⟩
  rw [b307_18, if_neg hlt, if_pos (show 0 ≤ l3 ∧ l3 < gD S 0 1 0 by omega), if_neg (show ¬ ab oo 0 (gD S 0 0 l3.toNat) 63 = 0 by rw [hc]; decide), if_neg (show ¬ ab oo 0 (gD S 0 0 l3.toNat) 63 = 1 by rw [hc]; decide), if_neg (show ¬ ab oo 0 (gD S 0 0 l3.toNat) 63 = 2 by rw [hc]; decide), if_neg (show ¬ ab oo 0 (gD S 0 0 l3.toNat) 63 = 3 by rw [hc]; decide), if_neg (show ¬ ab oo 0 (gD S 0 0 l3.toNat) 63 = 4 by rw [hc]; decide), if_neg (show ¬ ab oo 0 (gD S 0 0 l3.toNat) 63 = 5 by rw [hc]; decide), if_neg (show ¬ ab oo 0 (gD S 0 0 l3.toNat) 63 = 6 by rw [hc]; decide), if_neg (show ¬ ab oo 0 (gD S 0 0 l3.toNat) 63 = 7 by rw [hc]; decide), if_neg (show ¬ ab oo 0 (gD S 0 0 l3.toNat) 63 = 8 by rw [hc]; decide), if_neg (show ¬ ab oo 0 (gD S 0 0 l3.toNat) 63 = 9 by rw [hc]; decide), if_neg (show ¬ ab oo 0 (gD S 0 0 l3.toNat) 63 = 10 by rw [hc]; decide), if_neg (show ¬ ab oo 0 (gD S 0 0 l3.toNat) 63 = 11 by rw [hc]; decide), if_neg (show ¬ ab oo 0 (gD S 0 0 l3.toNat) 63 = 12 by rw [hc]; decide), if_neg (show ¬ ab oo 0 (gD S 0 0 l3.toNat) 63 = 13 by rw [hc]; decide), if_pos hc]
  simp only [e1, e2, e3, e4, e5, e6, e7, g1, c1, c2, c3, c4, c5, c6, if_true, if_false, h1, bI, bL, h2, ab9]
theorem lc_15a {K : KT} {n : Nat} {S S1 S2 : SD} {l3 x : Int} (hlt : ¬ aw oo (gD S 0 1 0 - 7) < l3) (hb : 0 ≤ l3 ∧ l3 + 6 < gD S 0 1 0) (hm : l3 < 100000) (hc : ab oo 0 (gD S 0 0 l3.toNat) 63 = 15) (hx : (gD S 0 0 (l3 + 2).toNat = 0) = True) (hg : S1.1 0 = S.1 0) (h1 : K 163 [vr (some (2, 0)), vi (gD S 0 0 (l3 + 1).toNat), vi 0] S = some (vi x, S1)) (h2 : K 248 [vr (some (85, 0)), vi (gD S 0 0 (l3 + 1).toNat), vi 0] S1 = some (vi x, S2)) : run oo K false mi_307 (n + 1) 18 [(0, vr (some (0, 0))), (1, vr (some (2, 0))), (2, vr (some (85, 0))), (3, vi l3)] [] S = run oo K false mi_307 n 18 [(0, vr (some (0, 0))), (1, vr (some (2, 0))), (2, vr (some (85, 0))), (3, vi (l3 + 7))] [] S2 := by
  have g1 : ∀ j k, gD S1 0 j k = gD S 0 j k := fun j k => by show S1.1 0 j k = S.1 0 j k; rw [hg]
  have e1 : aw oo (l3 + 1) = l3 + 1 := aw_id (by omega)
  have e2 : aw oo (l3 + 2) = l3 + 2 := aw_id (by omega)
  have e3 : aw oo (l3 + 3) = l3 + 3 := aw_id (by omega)
  have e4 : aw oo (l3 + 4) = l3 + 4 := aw_id (by omega)
  have e5 : aw oo (l3 + 5) = l3 + 5 := aw_id (by omega)
  have e6 : aw oo (l3 + 6) = l3 + 6 := aw_id (by omega)
  have e7 : aw oo (l3 + 7) = l3 + 7 := aw_id (by omega)
  have c1 : (0 ≤ l3 + 1 ∧ l3 + 1 < gD S 0 1 0) = True := eq_true ⟨by omega, by omega⟩
  have c2 : (0 ≤ l3 + 2 ∧ l3 + 2 < gD S 0 1 0) = True := eq_true ⟨by omega, by omega⟩
  have c3 : (0 ≤ l3 + 3 ∧ l3 + 3 < gD S 0 1 0) = True := eq_true ⟨by omega, by omega⟩
  have c4 : (0 ≤ l3 + 4 ∧ l3 + 4 < gD S 0 1 0) = True := eq_true ⟨by omega, by omega⟩
  have c5 : (0 ≤ l3 + 5 ∧ l3 + 5 < gD S 0 1 0) = True := eq_true ⟨by omega, by omega⟩
  have c6 : (0 ≤ l3 + 6 ∧ l3 + 6 < gD S 0 1 0) = True := eq_true ⟨by omega, by omega⟩
  rw [b307_18, if_neg hlt, if_pos (show 0 ≤ l3 ∧ l3 < gD S 0 1 0 by omega), if_neg (show ¬ ab oo 0 (gD S 0 0 l3.toNat) 63 = 0 by rw [hc]; decide), if_neg (show ¬ ab oo 0 (gD S 0 0 l3.toNat) 63 = 1 by rw [hc]; decide), if_neg (show ¬ ab oo 0 (gD S 0 0 l3.toNat) 63 = 2 by rw [hc]; decide), if_neg (show ¬ ab oo 0 (gD S 0 0 l3.toNat) 63 = 3 by rw [hc]; decide), if_neg (show ¬ ab oo 0 (gD S 0 0 l3.toNat) 63 = 4 by rw [hc]; decide), if_neg (show ¬ ab oo 0 (gD S 0 0 l3.toNat) 63 = 5 by rw [hc]; decide), if_neg (show ¬ ab oo 0 (gD S 0 0 l3.toNat) 63 = 6 by rw [hc]; decide), if_neg (show ¬ ab oo 0 (gD S 0 0 l3.toNat) 63 = 7 by rw [hc]; decide), if_neg (show ¬ ab oo 0 (gD S 0 0 l3.toNat) 63 = 8 by rw [hc]; decide), if_neg (show ¬ ab oo 0 (gD S 0 0 l3.toNat) 63 = 9 by rw [hc]; decide), if_neg (show ¬ ab oo 0 (gD S 0 0 l3.toNat) 63 = 10 by rw [hc]; decide), if_neg (show ¬ ab oo 0 (gD S 0 0 l3.toNat) 63 = 11 by rw [hc]; decide), if_neg (show ¬ ab oo 0 (gD S 0 0 l3.toNat) 63 = 12 by rw [hc]; decide), if_neg (show ¬ ab oo 0 (gD S 0 0 l3.toNat) 63 = 13 by rw [hc]; decide), if_neg (show ¬ ab oo 0 (gD S 0 0 l3.toNat) 63 = 14 by rw [hc]; decide), if_pos hc]
  simp only [e1, e2, e3, e4, e5, e6, e7, g1, c1, c2, c3, c4, c5, c6, if_true, if_false, h1, bI, bL, h2, ab9, hx]
theorem lc_15b {K : KT} {n : Nat} {S S1 S2 : SD} {l3 x : Int} (hlt : ¬ aw oo (gD S 0 1 0 - 7) < l3) (hb : 0 ≤ l3 ∧ l3 + 6 < gD S 0 1 0) (hm : l3 < 100000) (hc : ab oo 0 (gD S 0 0 l3.toNat) 63 = 15) (hx : (gD S 0 0 (l3 + 2).toNat = 0) = False) (hg : S1.1 0 = S.1 0) (h1 : K 163 [vr (some (2, 0)), vi (gD S 0 0 (l3 + 1).toNat), vi 1] S = some (vi x, S1)) (h2 : K 248 [vr (some (85, 0)), vi (gD S 0 0 (l3 + 1).toNat), vi 1] S1 = some (vi x, S2)) : run oo K false mi_307 (n + 1) 18 [(0, vr (some (0, 0))), (1, vr (some (2, 0))), (2, vr (some (85, 0))), (3, vi l3)] [] S = run oo K false mi_307 n 18 [(0, vr (some (0, 0))), (1, vr (some (2, 0))), (2, vr (some (85, 0))), (3, vi (l3 + 7))] [] S2 := by
  have g1 : ∀ j k, gD S1 0 j k = gD S 0 j k := fun j k => by show S1.1 0 j k = S.1 0 j k; rw [hg]
  have e1 : aw oo (l3 + 1) = l3 + 1 := aw_id (by omega)
  have e2 : aw oo (l3 + 2) = l3 + 2 := aw_id (by omega)
  have e3 : aw oo (l3 + 3) = l3 + 3 := aw_id (by omega)
  have e4 : aw oo (l3 + 4) = l3 + 4 := aw_id (by omega)
  have e5 : aw oo (l3 + 5) = l3 + 5 := aw_id (by omega)
  have e6 : aw oo (l3 + 6) = l3 + 6 := aw_id (by omega)
  have e7 : aw oo (l3 + 7) = l3 + 7 := aw_id (by omega)
  have c1 : (0 ≤ l3 + 1 ∧ l3 + 1 < gD S 0 1 0) = True := eq_true ⟨by omega, by omega⟩
  have c2 : (0 ≤ l3 + 2 ∧ l3 + 2 < gD S 0 1 0) = True := eq_true ⟨by omega, by omega⟩
  have c3 : (0 ≤ l3 + 3 ∧ l3 + 3 < gD S 0 1 0) = True := eq_true ⟨by omega, by omega⟩
  have c4 : (0 ≤ l3 + 4 ∧ l3 + 4 < gD S 0 1 0) = True := eq_true ⟨by omega, by omega⟩
  have c5 : (0 ≤ l3 + 5 ∧ l3 + 5 < gD S 0 1 0) = True := eq_true ⟨by omega, by omega⟩
  have c6 : (0 ≤ l3 + 6 ∧ l3 + 6 < gD S 0 1 0) = True := eq_true ⟨by omega, by omega⟩
  rw [b307_18, if_neg hlt, if_pos (show 0 ≤ l3 ∧ l3 < gD S 0 1 0 by omega), if_neg (show ¬ ab oo 0 (gD S 0 0 l3.toNat) 63 = 0 by rw [hc]; decide), if_neg (show ¬ ab oo 0 (gD S 0 0 l3.toNat) 63 = 1 by rw [hc]; decide), if_neg (show ¬ ab oo 0 (gD S 0 0 l3.toNat) 63 = 2 by rw [hc]; decide), if_neg (show ¬ ab oo 0 (gD S 0 0 l3.toNat) 63 = 3 by rw [hc]; decide), if_neg (show ¬ ab oo 0 (gD S 0 0 l3.toNat) 63 = 4 by rw [hc]; decide), if_neg (show ¬ ab oo 0 (gD S 0 0 l3.toNat) 63 = 5 by rw [hc]; decide), if_neg (show ¬ ab oo 0 (gD S 0 0 l3.toNat) 63 = 6 by rw [hc]; decide), if_neg (show ¬ ab oo 0 (gD S 0 0 l3.toNat) 63 = 7 by rw [hc]; decide), if_neg (show ¬ ab oo 0 (gD S 0 0 l3.toNat) 63 = 8 by rw [hc]; decide), if_neg (show ¬ ab oo 0 (gD S 0 0 l3.toNat) 63 = 9 by rw [hc]; decide), if_neg (show ¬ ab oo 0 (gD S 0 0 l3.toNat) 63 = 10 by rw [hc]; decide), if_neg (show ¬ ab oo 0 (gD S 0 0 l3.toNat) 63 = 11 by rw [hc]; decide), if_neg (show ¬ ab oo 0 (gD S 0 0 l3.toNat) 63 = 12 by rw [hc]; decide), if_neg (show ¬ ab oo 0 (gD S 0 0 l3.toNat) 63 = 13 by rw [hc]; decide), if_neg (show ¬ ab oo 0 (gD S 0 0 l3.toNat) 63 = 14 by rw [hc]; decide), if_pos hc]
  simp only [e1, e2, e3, e4, e5, e6, e7, g1, c1, c2, c3, c4, c5, c6, if_true, if_false, h1, bI, bL, h2, ab9, hx]
theorem lc_16 {K : KT} {n : Nat} {S S1 S2 : SD} {l3 x : Int} (hlt : ¬ aw oo (gD S 0 1 0 - 7) < l3) (hb : 0 ≤ l3 ∧ l3 + 6 < gD S 0 1 0) (hm : l3 < 100000) (hc : ab oo 0 (gD S 0 0 l3.toNat) 63 = 16) (hg : S1.1 0 = S.1 0) (h1 : K 164 [vr (some (2, 0)), vi (gD S 0 0 (l3 + 1).toNat), vi (gD S 0 0 (l3 + 2).toNat), vi (gD S 0 0 (l3 + 3).toNat)] S = some (vi x, S1)) (h2 : K 256 [vr (some (85, 0)), vi (gD S 0 0 (l3 + 1).toNat), vi (gD S 0 0 (l3 + 2).toNat), vi (gD S 0 0 (l3 + 3).toNat)] S1 = some (vi x, S2)) : run oo K false mi_307 (n + 1) 18 [(0, vr (some (0, 0))), (1, vr (some (2, 0))), (2, vr (some (85, 0))), (3, vi l3)] [] S = run oo K false mi_307 n 18 [(0, vr (some (0, 0))), (1, vr (some (2, 0))), (2, vr (some (85, 0))), (3, vi (l3 + 7))] [] S2 := by
  have g1 : ∀ j k, gD S1 0 j k = gD S 0 j k := fun j k => by show S1.1 0 j k = S.1 0 j k; rw [hg]
  have e1 : aw oo (l3 + 1) = l3 + 1 := aw_id (by omega)
  have e2 : aw oo (l3 + 2) = l3 + 2 := aw_id (by omega)
  have e3 : aw oo (l3 + 3) = l3 + 3 := aw_id (by omega)
  have e4 : aw oo (l3 + 4) = l3 + 4 := aw_id (by omega)
  have e5 : aw oo (l3 + 5) = l3 + 5 := aw_id (by omega)
  have e6 : aw oo (l3 + 6) = l3 + 6 := aw_id (by omega)
  have e7 : aw oo (l3 + 7) = l3 + 7 := aw_id (by omega)
  have c1 : (0 ≤ l3 + 1 ∧ l3 + 1 < gD S 0 1 0) = True := eq_true ⟨by omega, by omega⟩
  have c2 : (0 ≤ l3 + 2 ∧ l3 + 2 < gD S 0 1 0) = True := eq_true ⟨by omega, by omega⟩
  have c3 : (0 ≤ l3 + 3 ∧ l3 + 3 < gD S 0 1 0) = True := eq_true ⟨by omega, by omega⟩
  have c4 : (0 ≤ l3 + 4 ∧ l3 + 4 < gD S 0 1 0) = True := eq_true ⟨by omega, by omega⟩
  have c5 : (0 ≤ l3 + 5 ∧ l3 + 5 < gD S 0 1 0) = True := eq_true ⟨by omega, by omega⟩
  have c6 : (0 ≤ l3 + 6 ∧ l3 + 6 < gD S 0 1 0) = True := eq_true ⟨by omega, by omega⟩
  rw [b307_18, if_neg hlt, if_pos (show 0 ≤ l3 ∧ l3 < gD S 0 1 0 by omega), if_neg (show ¬ ab oo 0 (gD S 0 0 l3.toNat) 63 = 0 by rw [hc]; decide), if_neg (show ¬ ab oo 0 (gD S 0 0 l3.toNat) 63 = 1 by rw [hc]; decide), if_neg (show ¬ ab oo 0 (gD S 0 0 l3.toNat) 63 = 2 by rw [hc]; decide), if_neg (show ¬ ab oo 0 (gD S 0 0 l3.toNat) 63 = 3 by rw [hc]; decide), if_neg (show ¬ ab oo 0 (gD S 0 0 l3.toNat) 63 = 4 by rw [hc]; decide), if_neg (show ¬ ab oo 0 (gD S 0 0 l3.toNat) 63 = 5 by rw [hc]; decide), if_neg (show ¬ ab oo 0 (gD S 0 0 l3.toNat) 63 = 6 by rw [hc]; decide), if_neg (show ¬ ab oo 0 (gD S 0 0 l3.toNat) 63 = 7 by rw [hc]; decide), if_neg (show ¬ ab oo 0 (gD S 0 0 l3.toNat) 63 = 8 by rw [hc]; decide), if_neg (show ¬ ab oo 0 (gD S 0 0 l3.toNat) 63 = 9 by rw [hc]; decide), if_neg (show ¬ ab oo 0 (gD S 0 0 l3.toNat) 63 = 10 by rw [hc]; decide), if_neg (show ¬ ab oo 0 (gD S 0 0 l3.toNat) 63 = 11 by rw [hc]; decide), if_neg (show ¬ ab oo 0 (gD S 0 0 l3.toNat) 63 = 12 by rw [hc]; decide), if_neg (show ¬ ab oo 0 (gD S 0 0 l3.toNat) 63 = 13 by rw [hc]; decide), if_neg (show ¬ ab oo 0 (gD S 0 0 l3.toNat) 63 = 14 by rw [hc]; decide), if_neg (show ¬ ab oo 0 (gD S 0 0 l3.toNat) 63 = 15 by rw [hc]; decide), if_pos hc]
  simp only [e1, e2, e3, e4, e5, e6, e7, g1, c1, c2, c3, c4, c5, c6, if_true, if_false, h1, bI, bL, h2, ab9]
theorem lc_17 {K : KT} {n : Nat} {S S1 S2 : SD} {l3 x : Int} (hlt : ¬ aw oo (gD S 0 1 0 - 7) < l3) (hb : 0 ≤ l3 ∧ l3 + 6 < gD S 0 1 0) (hm : l3 < 100000) (hc : ab oo 0 (gD S 0 0 l3.toNat) 63 = 17) (hg : S1.1 0 = S.1 0) (h1 : K 165 [vr (some (2, 0)), vi (gD S 0 0 (l3 + 1).toNat), vi (gD S 0 0 (l3 + 2).toNat)] S = some (vi x, S1)) (h2 : K 260 [vr (some (85, 0)), vi (gD S 0 0 (l3 + 1).toNat), vi (gD S 0 0 (l3 + 2).toNat)] S1 = some (vi x, S2)) : run oo K false mi_307 (n + 1) 18 [(0, vr (some (0, 0))), (1, vr (some (2, 0))), (2, vr (some (85, 0))), (3, vi l3)] [] S = run oo K false mi_307 n 18 [(0, vr (some (0, 0))), (1, vr (some (2, 0))), (2, vr (some (85, 0))), (3, vi (l3 + 7))] [] S2 := by
  have g1 : ∀ j k, gD S1 0 j k = gD S 0 j k := fun j k => by show S1.1 0 j k = S.1 0 j k; rw [hg]
  have e1 : aw oo (l3 + 1) = l3 + 1 := aw_id (by omega)
  have e2 : aw oo (l3 + 2) = l3 + 2 := aw_id (by omega)
  have e3 : aw oo (l3 + 3) = l3 + 3 := aw_id (by omega)
  have e4 : aw oo (l3 + 4) = l3 + 4 := aw_id (by omega)
  have e5 : aw oo (l3 + 5) = l3 + 5 := aw_id (by omega)
  have e6 : aw oo (l3 + 6) = l3 + 6 := aw_id (by omega)
  have e7 : aw oo (l3 + 7) = l3 + 7 := aw_id (by omega)
  have c1 : (0 ≤ l3 + 1 ∧ l3 + 1 < gD S 0 1 0) = True := eq_true ⟨by omega, by omega⟩
  have c2 : (0 ≤ l3 + 2 ∧ l3 + 2 < gD S 0 1 0) = True := eq_true ⟨by omega, by omega⟩
  have c3 : (0 ≤ l3 + 3 ∧ l3 + 3 < gD S 0 1 0) = True := eq_true ⟨by omega, by omega⟩
  have c4 : (0 ≤ l3 + 4 ∧ l3 + 4 < gD S 0 1 0) = True := eq_true ⟨by omega, by omega⟩
  have c5 : (0 ≤ l3 + 5 ∧ l3 + 5 < gD S 0 1 0) = True := eq_true ⟨by omega, by omega⟩
  have c6 : (0 ≤ l3 + 6 ∧ l3 + 6 < gD S 0 1 0) = True := eq_true ⟨by omega, by omega⟩
  rw [b307_18, if_neg hlt, if_pos (show 0 ≤ l3 ∧ l3 < gD S 0 1 0 by omega), if_neg (show ¬ ab oo 0 (gD S 0 0 l3.toNat) 63 = 0 by rw [hc]; decide), if_neg (show ¬ ab oo 0 (gD S 0 0 l3.toNat) 63 = 1 by rw [hc]; decide), if_neg (show ¬ ab oo 0 (gD S 0 0 l3.toNat) 63 = 2 by rw [hc]; decide), if_neg (show ¬ ab oo 0 (gD S 0 0 l3.toNat) 63 = 3 by rw [hc]; decide), if_neg (show ¬ ab oo 0 (gD S 0 0 l3.toNat) 63 = 4 by rw [hc]; decide), if_neg (show ¬ ab oo 0 (gD S 0 0 l3.toNat) 63 = 5 by rw [hc]; decide), if_neg (show ¬ ab oo 0 (gD S 0 0 l3.toNat) 63 = 6 by rw [hc]; decide), if_neg (show ¬ ab oo 0 (gD S 0 0 l3.toNat) 63 = 7 by rw [hc]; decide), if_neg (show ¬ ab oo 0 (gD S 0 0 l3.toNat) 63 = 8 by rw [hc]; decide), if_neg (show ¬ ab oo 0 (gD S 0 0 l3.toNat) 63 = 9 by rw [hc]; decide), if_neg (show ¬ ab oo 0 (gD S 0 0 l3.toNat) 63 = 10 by rw [hc]; decide), if_neg (show ¬ ab oo 0 (gD S 0 0 l3.toNat) 63 = 11 by rw [hc]; decide), if_neg (show ¬ ab oo 0 (gD S 0 0 l3.toNat) 63 = 12 by rw [hc]; decide), if_neg (show ¬ ab oo 0 (gD S 0 0 l3.toNat) 63 = 13 by rw [hc]; decide), if_neg (show ¬ ab oo 0 (gD S 0 0 l3.toNat) 63 = 14 by rw [hc]; decide), if_neg (show ¬ ab oo 0 (gD S 0 0 l3.toNat) 63 = 15 by rw [hc]; decide), if_neg (show ¬ ab oo 0 (gD S 0 0 l3.toNat) 63 = 16 by rw [hc]; decide), if_pos hc]
  simp only [e1, e2, e3, e4, e5, e6, e7, g1, c1, c2, c3, c4, c5, c6, if_true, if_false, h1, bI, bL, h2, ab9]
theorem lc_18 {K : KT} {n : Nat} {S S1 S2 : SD} {l3 x : Int} (hlt : ¬ aw oo (gD S 0 1 0 - 7) < l3) (hb : 0 ≤ l3 ∧ l3 + 6 < gD S 0 1 0) (hm : l3 < 100000) (hc : ab oo 0 (gD S 0 0 l3.toNat) 63 = 18) (hg : S1.1 0 = S.1 0) (h1 : K 166 [vr (some (2, 0)), vi (gD S 0 0 (l3 + 1).toNat), vi (gD S 0 0 (l3 + 2).toNat), vi (gD S 0 0 (l3 + 3).toNat)] S = some (vi x, S1)) (h2 : K 261 [vr (some (85, 0)), vi (gD S 0 0 (l3 + 1).toNat), vi (gD S 0 0 (l3 + 2).toNat), vi (gD S 0 0 (l3 + 3).toNat)] S1 = some (vi x, S2)) : run oo K false mi_307 (n + 1) 18 [(0, vr (some (0, 0))), (1, vr (some (2, 0))), (2, vr (some (85, 0))), (3, vi l3)] [] S = run oo K false mi_307 n 18 [(0, vr (some (0, 0))), (1, vr (some (2, 0))), (2, vr (some (85, 0))), (3, vi (l3 + 7))] [] S2 := by
  have g1 : ∀ j k, gD S1 0 j k = gD S 0 j k := fun j k => by show S1.1 0 j k = S.1 0 j k; rw [hg]
  have e1 : aw oo (l3 + 1) = l3 + 1 := aw_id (by omega)
  have e2 : aw oo (l3 + 2) = l3 + 2 := aw_id (by omega)
  have e3 : aw oo (l3 + 3) = l3 + 3 := aw_id (by omega)
  have e4 : aw oo (l3 + 4) = l3 + 4 := aw_id (by omega)
  have e5 : aw oo (l3 + 5) = l3 + 5 := aw_id (by omega)
  have e6 : aw oo (l3 + 6) = l3 + 6 := aw_id (by omega)
  have e7 : aw oo (l3 + 7) = l3 + 7 := aw_id (by omega)
  have c1 : (0 ≤ l3 + 1 ∧ l3 + 1 < gD S 0 1 0) = True := eq_true ⟨by omega, by omega⟩
  have c2 : (0 ≤ l3 + 2 ∧ l3 + 2 < gD S 0 1 0) = True := eq_true ⟨by omega, by omega⟩
  have c3 : (0 ≤ l3 + 3 ∧ l3 + 3 < gD S 0 1 0) = True := eq_true ⟨by omega, by omega⟩
  have c4 : (0 ≤ l3 + 4 ∧ l3 + 4 < gD S 0 1 0) = True := eq_true ⟨by omega, by omega⟩
  have c5 : (0 ≤ l3 + 5 ∧ l3 + 5 < gD S 0 1 0) = True := eq_true ⟨by omega, by omega⟩
  have c6 : (0 ≤ l3 + 6 ∧ l3 + 6 < gD S 0 1 0) = True := eq_true ⟨by omega, by omega⟩
  rw [b307_18, if_neg hlt, if_pos (show 0 ≤ l3 ∧ l3 < gD S 0 1 0 by omega), if_neg (show ¬ ab oo 0 (gD S 0 0 l3.toNat) 63 = 0 by rw [hc]; decide), if_neg (show ¬ ab oo 0 (gD S 0 0 l3.toNat) 63 = 1 by rw [hc]; decide), if_neg (show ¬ ab oo 0 (gD S 0 0 l3.toNat) 63 = 2 by rw [hc]; decide), if_neg (show ¬ ab oo 0 (gD S 0 0 l3.toNat) 63 = 3 by rw [hc]; decide), if_neg (show ¬ ab oo 0 (gD S 0 0 l3.toNat) 63 = 4 by rw [hc]; decide), if_neg (show ¬ ab oo 0 (gD S 0 0 l3.toNat) 63 = 5 by rw [hc]; decide), if_neg (show ¬ ab oo 0 (gD S 0 0 l3.toNat) 63 = 6 by rw [hc]; decide), if_neg (show ¬ ab oo 0 (gD S 0 0 l3.toNat) 63 = 7 by rw [hc]; decide), if_neg (show ¬ ab oo 0 (gD S 0 0 l3.toNat) 63 = 8 by rw [hc]; decide), if_neg (show ¬ ab oo 0 (gD S 0 0 l3.toNat) 63 = 9 by rw [hc]; decide), if_neg (show ¬ ab oo 0 (gD S 0 0 l3.toNat) 63 = 10 by rw [hc]; decide), if_neg (show ¬ ab oo 0 (gD S 0 0 l3.toNat) 63 = 11 by rw [hc]; decide), if_neg (show ¬ ab oo 0 (gD S 0 0 l3.toNat) 63 = 12 by rw [hc]; decide), if_neg (show ¬ ab oo 0 (gD S 0 0 l3.toNat) 63 = 13 by rw [hc]; decide), if_neg (show ¬ ab oo 0 (gD S 0 0 l3.toNat) 63 = 14 by rw [hc]; decide), if_neg (show ¬ ab oo 0 (gD S 0 0 l3.toNat) 63 = 15 by rw [hc]; decide), if_neg (show ¬ ab oo 0 (gD S 0 0 l3.toNat) 63 = 16 by rw [hc]; decide), if_neg (show ¬ ab oo 0 (gD S 0 0 l3.toNat) 63 = 17 by rw [hc]; decide), if_pos hc]
  simp only [e1, e2, e3, e4, e5, e6, e7, g1, c1, c2, c3, c4, c5, c6, if_true, if_false, h1, bI, bL, h2, ab9]
theorem lc_19 {K : KT} {n : Nat} {S S1 S2 : SD} {l3 x : Int} (hlt : ¬ aw oo (gD S 0 1 0 - 7) < l3) (hb : 0 ≤ l3 ∧ l3 + 6 < gD S 0 1 0) (hm : l3 < 100000) (hc : ab oo 0 (gD S 0 0 l3.toNat) 63 = 19) (hg : S1.1 0 = S.1 0) (h1 : K 167 [vr (some (2, 0)), vi (gD S 0 0 (l3 + 1).toNat), vi (gD S 0 0 (l3 + 2).toNat), vi (gD S 0 0 (l3 + 3).toNat), vi (gD S 0 0 (l3 + 4).toNat)] S = some (vi x, S1)) (h2 : K 263 [vr (some (85, 0)), vi (gD S 0 0 (l3 + 1).toNat), vi (gD S 0 0 (l3 + 2).toNat), vi (gD S 0 0 (l3 + 3).toNat), vi (gD S 0 0 (l3 + 4).toNat)] S1 = some (vi x, S2)) : run oo K false mi_307 (n + 1) 18 [(0, vr (some (0, 0))), (1, vr (some (2, 0))), (2, vr (some (85, 0))), (3, vi l3)] [] S = run oo K false mi_307 n 18 [(0, vr (some (0, 0))), (1, vr (some (2, 0))), (2, vr (some (85, 0))), (3, vi (l3 + 7))] [] S2 := by
  have g1 : ∀ j k, gD S1 0 j k = gD S 0 j k := fun j k => by show S1.1 0 j k = S.1 0 j k; rw [hg]
  have e1 : aw oo (l3 + 1) = l3 + 1 := aw_id (by omega)
  have e2 : aw oo (l3 + 2) = l3 + 2 := aw_id (by omega)
  have e3 : aw oo (l3 + 3) = l3 + 3 := aw_id (by omega)
  have e4 : aw oo (l3 + 4) = l3 + 4 := aw_id (by omega)
  have e5 : aw oo (l3 + 5) = l3 + 5 := aw_id (by omega)
  have e6 : aw oo (l3 + 6) = l3 + 6 := aw_id (by omega)
  have e7 : aw oo (l3 + 7) = l3 + 7 := aw_id (by omega)
  have c1 : (0 ≤ l3 + 1 ∧ l3 + 1 < gD S 0 1 0) = True := eq_true ⟨by omega, by omega⟩
  have c2 : (0 ≤ l3 + 2 ∧ l3 + 2 < gD S 0 1 0) = True := eq_true ⟨by omega, by omega⟩
  have c3 : (0 ≤ l3 + 3 ∧ l3 + 3 < gD S 0 1 0) = True := eq_true ⟨by omega, by omega⟩
  have c4 : (0 ≤ l3 + 4 ∧ l3 + 4 < gD S 0 1 0) = True := eq_true ⟨by omega, by omega⟩
  have c5 : (0 ≤ l3 + 5 ∧ l3 + 5 < gD S 0 1 0) = True := eq_true ⟨by omega, by omega⟩
  have c6 : (0 ≤ l3 + 6 ∧ l3 + 6 < gD S 0 1 0) = True := eq_true ⟨by omega, by omega⟩
  rw [b307_18, if_neg hlt, if_pos (show 0 ≤ l3 ∧ l3 < gD S 0 1 0 by omega), if_neg (show ¬ ab oo 0 (gD S 0 0 l3.toNat) 63 = 0 by rw [hc]; decide), if_neg (show ¬ ab oo 0 (gD S 0 0 l3.toNat) 63 = 1 by rw [hc]; decide), if_neg (show ¬ ab oo 0 (gD S 0 0 l3.toNat) 63 = 2 by rw [hc]; decide), if_neg (show ¬ ab oo 0 (gD S 0 0 l3.toNat) 63 = 3 by rw [hc]; decide), if_neg (show ¬ ab oo 0 (gD S 0 0 l3.toNat) 63 = 4 by rw [hc]; decide), if_neg (show ¬ ab oo 0 (gD S 0 0 l3.toNat) 63 = 5 by rw [hc]; decide), if_neg (show ¬ ab oo 0 (gD S 0 0 l3.toNat) 63 = 6 by rw [hc]; decide), if_neg (show ¬ ab oo 0 (gD S 0 0 l3.toNat) 63 = 7 by rw [hc]; decide), if_neg (show ¬ ab oo 0 (gD S 0 0 l3.toNat) 63 = 8 by rw [hc]; decide), if_neg (show ¬ ab oo 0 (gD S 0 0 l3.toNat) 63 = 9 by rw [hc]; decide), if_neg (show ¬ ab oo 0 (gD S 0 0 l3.toNat) 63 = 10 by rw [hc]; decide), if_neg (show ¬ ab oo 0 (gD S 0 0 l3.toNat) 63 = 11 by rw [hc]; decide), if_neg (show ¬ ab oo 0 (gD S 0 0 l3.toNat) 63 = 12 by rw [hc]; decide), if_neg (show ¬ ab oo 0 (gD S 0 0 l3.toNat) 63 = 13 by rw [hc]; decide), if_neg (show ¬ ab oo 0 (gD S 0 0 l3.toNat) 63 = 14 by rw [hc]; decide), if_neg (show ¬ ab oo 0 (gD S 0 0 l3.toNat) 63 = 15 by rw [hc]; decide), if_neg (show ¬ ab oo 0 (gD S 0 0 l3.toNat) 63 = 16 by rw [hc]; decide), if_neg (show ¬ ab oo 0 (gD S 0 0 l3.toNat) 63 = 17 by rw [hc]; decide), if_neg (show ¬ ab oo 0 (gD S 0 0 l3.toNat) 63 = 18 by rw [hc]; decide), if_pos hc]
  simp only [e1, e2, e3, e4, e5, e6, e7, g1, c1, c2, c3, c4, c5, c6, if_true, if_false, h1, bI, bL, h2, ab9]
theorem lc_20 {K : KT} {n : Nat} {S S1 S2 : SD} {l3 x : Int} (hlt : ¬ aw oo (gD S 0 1 0 - 7) < l3) (hb : 0 ≤ l3 ∧ l3 + 6 < gD S 0 1 0) (hm : l3 < 100000) (hc : ab oo 0 (gD S 0 0 l3.toNat) 63 = 20) (hg : S1.1 0 = S.1 0) (h1 : K 168 [vr (some (2, 0)), vi (gD S 0 0 (l3 + 1).toNat), vi (gD S 0 0 (l3 + 2).toNat), vi (gD S 0 0 (l3 + 3).toNat)] S = some (vi x, S1)) (h2 : K 265 [vr (some (85, 0)), vi (gD S 0 0 (l3 + 1).toNat), vi (gD S 0 0 (l3 + 2).toNat), vi (gD S 0 0 (l3 + 3).toNat)] S1 = some (vi x, S2)) : run oo K false mi_307 (n + 1) 18 [(0, vr (some (0, 0))), (1, vr (some (2, 0))), (2, vr (some (85, 0))), (3, vi l3)] [] S = run oo K false mi_307 n 18 [(0, vr (some (0, 0))), (1, vr (some (2, 0))), (2, vr (some (85, 0))), (3, vi (l3 + 7))] [] S2 := by
  have g1 : ∀ j k, gD S1 0 j k = gD S 0 j k := fun j k => by show S1.1 0 j k = S.1 0 j k; rw [hg]
  have e1 : aw oo (l3 + 1) = l3 + 1 := aw_id (by omega)
  have e2 : aw oo (l3 + 2) = l3 + 2 := aw_id (by omega)
  have e3 : aw oo (l3 + 3) = l3 + 3 := aw_id (by omega)
  have e4 : aw oo (l3 + 4) = l3 + 4 := aw_id (by omega)
  have e5 : aw oo (l3 + 5) = l3 + 5 := aw_id (by omega)
  have e6 : aw oo (l3 + 6) = l3 + 6 := aw_id (by omega)
  have e7 : aw oo (l3 + 7) = l3 + 7 := aw_id (by omega)
  have c1 : (0 ≤ l3 + 1 ∧ l3 + 1 < gD S 0 1 0) = True := eq_true ⟨by omega, by omega⟩
  have c2 : (0 ≤ l3 + 2 ∧ l3 + 2 < gD S 0 1 0) = True := eq_true ⟨by omega, by omega⟩
  have c3 : (0 ≤ l3 + 3 ∧ l3 + 3 < gD S 0 1 0) = True := eq_true ⟨by omega, by omega⟩
  have c4 : (0 ≤ l3 + 4 ∧ l3 + 4 < gD S 0 1 0) = True := eq_true ⟨by omega, by omega⟩
  have c5 : (0 ≤ l3 + 5 ∧ l3 + 5 < gD S 0 1 0) = True := eq_true ⟨by omega, by omega⟩
  have c6 : (0 ≤ l3 + 6 ∧ l3 + 6 < gD S 0 1 0) = True := eq_true ⟨by omega, by omega⟩
  rw [b307_18, if_neg hlt, if_pos (show 0 ≤ l3 ∧ l3 < gD S 0 1 0 by omega), if_neg (show ¬ ab oo 0 (gD S 0 0 l3.toNat) 63 = 0 by rw [hc]; decide), if_neg (show ¬ ab oo 0 (gD S 0 0 l3.toNat) 63 = 1 by rw [hc]; decide), if_neg (show ¬ ab oo 0 (gD S 0 0 l3.toNat) 63 = 2 by rw [hc]; decide), if_neg (show ¬ ab oo 0 (gD S 0 0 l3.toNat) 63 = 3 by rw [hc]; decide), if_neg (show ¬ ab oo 0 (gD S 0 0 l3.toNat) 63 = 4 by rw [hc]; decide), if_neg (show ¬ ab oo 0 (gD S 0 0 l3.toNat) 63 = 5 by rw [hc]; decide), if_neg (show ¬ ab oo 0 (gD S 0 0 l3.toNat) 63 = 6 by rw [hc]; decide), if_neg (show ¬ ab oo 0 (gD S 0 0 l3.toNat) 63 = 7 by rw [hc]; decide), if_neg (show ¬ ab oo 0 (gD S 0 0 l3.toNat) 63 = 8 by rw [hc]; decide), if_neg (show ¬ ab oo 0 (gD S 0 0 l3.toNat) 63 = 9 by rw [hc]; decide), if_neg (show ¬ ab oo 0 (gD S 0 0 l3.toNat) 63 = 10 by rw [hc]; decide), if_neg (show ¬ ab oo 0 (gD S 0 0 l3.toNat) 63 = 11 by rw [hc]; decide), if_neg (show ¬ ab oo 0 (gD S 0 0 l3.toNat) 63 = 12 by rw [hc]; decide), if_neg (show ¬ ab oo 0 (gD S 0 0 l3.toNat) 63 = 13 by rw [hc]; decide), if_neg (show ¬ ab oo 0 (gD S 0 0 l3.toNat) 63 = 14 by rw [hc]; decide), if_neg (show ¬ ab oo 0 (gD S 0 0 l3.toNat) 63 = 15 by rw [hc]; decide), if_neg (show ¬ ab oo 0 (gD S 0 0 l3.toNat) 63 = 16 by rw [hc]; decide), if_neg (show ¬ ab oo 0 (gD S 0 0 l3.toNat) 63 = 17 by rw [hc]; decide), if_neg (show ¬ ab oo 0 (gD S 0 0 l3.toNat) 63 = 18 by rw [hc]; decide), if_neg (show ¬ ab oo 0 (gD S 0 0 l3.toNat) 63 = 19 by rw [hc]; decide), if_pos hc]
  simp only [e1, e2, e3, e4, e5, e6, e7, g1, c1, c2, c3, c4, c5, c6, if_true, if_false, h1, bI, bL, h2, ab9]
theorem lc_21 {K : KT} {n : Nat} {S S1 S2 : SD} {l3 x : Int} (hlt : ¬ aw oo (gD S 0 1 0 - 7) < l3) (hb : 0 ≤ l3 ∧ l3 + 6 < gD S 0 1 0) (hm : l3 < 100000) (hc : ab oo 0 (gD S 0 0 l3.toNat) 63 = 21) (hg : S1.1 0 = S.1 0) (h1 : K 169 [vr (some (2, 0)), vi (gD S 0 0 (l3 + 1).toNat), vi (gD S 0 0 (l3 + 2).toNat), vi (gD S 0 0 (l3 + 3).toNat)] S = some (vi x, S1)) (h2 : K 267 [vr (some (85, 0)), vi (gD S 0 0 (l3 + 1).toNat), vi (gD S 0 0 (l3 + 2).toNat), vi (gD S 0 0 (l3 + 3).toNat)] S1 = some (vi x, S2)) : run oo K false mi_307 (n + 1) 18 [(0, vr (some (0, 0))), (1, vr (some (2, 0))), (2, vr (some (85, 0))), (3, vi l3)] [] S = run oo K false mi_307 n 18 [(0, vr (some (0, 0))), (1, vr (some (2, 0))), (2, vr (some (85, 0))), (3, vi (l3 + 7))] [] S2 := by
  have g1 : ∀ j k, gD S1 0 j k = gD S 0 j k := fun j k => by show S1.1 0 j k = S.1 0 j k; rw [hg]
  have e1 : aw oo (l3 + 1) = l3 + 1 := aw_id (by omega)
  have e2 : aw oo (l3 + 2) = l3 + 2 := aw_id (by omega)
  have e3 : aw oo (l3 + 3) = l3 + 3 := aw_id (by omega)
  have e4 : aw oo (l3 + 4) = l3 + 4 := aw_id (by omega)
  have e5 : aw oo (l3 + 5) = l3 + 5 := aw_id (by omega)
  have e6 : aw oo (l3 + 6) = l3 + 6 := aw_id (by omega)
  have e7 : aw oo (l3 + 7) = l3 + 7 := aw_id (by omega)
  have c1 : (0 ≤ l3 + 1 ∧ l3 + 1 < gD S 0 1 0) = True := eq_true ⟨by omega, by omega⟩
  have c2 : (0 ≤ l3 + 2 ∧ l3 + 2 < gD S 0 1 0) = True := eq_true ⟨by omega, by omega⟩
  have c3 : (0 ≤ l3 + 3 ∧ l3 + 3 < gD S 0 1 0) = True := eq_true ⟨by omega, by omega⟩
  have c4 : (0 ≤ l3 + 4 ∧ l3 + 4 < gD S 0 1 0) = True := eq_true ⟨by omega, by omega⟩
  have c5 : (0 ≤ l3 + 5 ∧ l3 + 5 < gD S 0 1 0) = True := eq_true ⟨by omega, by omega⟩
  have c6 : (0 ≤ l3 + 6 ∧ l3 + 6 < gD S 0 1 0) = True := eq_true ⟨by omega, by omega⟩
  rw [b307_18, if_neg hlt, if_pos (show 0 ≤ l3 ∧ l3 < gD S 0 1 0 by omega), if_neg (show ¬ ab oo 0 (gD S 0 0 l3.toNat) 63 = 0 by rw [hc]; decide), if_neg (show ¬ ab oo 0 (gD S 0 0 l3.toNat) 63 = 1 by rw [hc]; decide), if_neg (show ¬ ab oo 0 (gD S 0 0 l3.toNat) 63 = 2 by rw [hc]; decide), if_neg (show ¬ ab oo 0 (gD S 0 0 l3.toNat) 63 = 3 by rw [hc]; decide), if_neg (show ¬ ab oo 0 (gD S 0 0 l3.toNat) 63 = 4 by rw [hc]; decide), if_neg (show ¬ ab oo 0 (gD S 0 0 l3.toNat) 63 = 5 by rw [hc]; decide), if_neg (show ¬ ab oo 0 (gD S 0 0 l3.toNat) 63 = 6 by rw [hc]; decide), if_neg (show ¬ ab oo 0 (gD S 0 0 l3.toNat) 63 = 7 by rw [hc]; decide), if_neg (show ¬ ab oo 0 (gD S 0 0 l3.toNat) 63 = 8 by rw [hc]; decide), if_neg (show ¬ ab oo 0 (gD S 0 0 l3.toNat) 63 = 9 by rw [hc]; decide), if_neg (show ¬ ab oo 0 (gD S 0 0 l3.toNat) 63 = 10 by rw [hc]; decide), if_neg (show ¬ ab oo 0 (gD S 0 0 l3.toNat) 63 = 11 by rw [hc]; decide), if_neg (show ¬ ab oo 0 (gD S 0 0 l3.toNat) 63 = 12 by rw [hc]; decide), if_neg (show ¬ ab oo 0 (gD S 0 0 l3.toNat) 63 = 13 by rw [hc]; decide), if_neg (show ¬ ab oo 0 (gD S 0 0 l3.toNat) 63 = 14 by rw [hc]; decide), if_neg (show ¬ ab oo 0 (gD S 0 0 l3.toNat) 63 = 15 by rw [hc]; decide), if_neg (show ¬ ab oo 0 (gD S 0 0 l3.toNat) 63 = 16 by rw [hc]; decide), if_neg (show ¬ ab oo 0 (gD S 0 0 l3.toNat) 63 = 17 by rw [hc]; decide), if_neg (show ¬ ab oo 0 (gD S 0 0 l3.toNat) 63 = 18 by rw [hc]; decide), if_neg (show ¬ ab oo 0 (gD S 0 0 l3.toNat) 63 = 19 by rw [hc]; decide), if_neg (show ¬ ab oo 0 (gD S 0 0 l3.toNat) 63 = 20 by rw [hc]; decide), if_pos hc]
  simp only [e1, e2, e3, e4, e5, e6, e7, g1, c1, c2, c3, c4, c5, c6, if_true, if_false, h1, bI, bL, h2, ab9]
theorem lc_22 {K : KT} {n : Nat} {S S1 S2 : SD} {l3 x : Int} (hlt : ¬ aw oo (gD S 0 1 0 - 7) < l3) (hb : 0 ≤ l3 ∧ l3 + 6 < gD S 0 1 0) (hm : l3 < 100000) (hc : ab oo 0 (gD S 0 0 l3.toNat) 63 = 22) (hg : S1.1 0 = S.1 0) (h1 : K 170 [vr (some (2, 0)), vi (gD S 0 0 (l3 + 1).toNat)] S = some (vi x, S1)) (h2 : K 270 [vr (some (85, 0)), vi (gD S 0 0 (l3 + 1).toNat)] S1 = some (vi x, S2)) : run oo K false mi_307 (n + 1) 18 [(0, vr (some (0, 0))), (1, vr (some (2, 0))), (2, vr (some (85, 0))), (3, vi l3)] [] S = run oo K false mi_307 n 18 [(0, vr (some (0, 0))), (1, vr (some (2, 0))), (2, vr (some (85, 0))), (3, vi (l3 + 7))] [] S2 := by
  have g1 : ∀ j k, gD S1 0 j k = gD S 0 j k := fun j k => by show S1.1 0 j k = S.1 0 j k; rw [hg]
  have e1 : aw oo (l3 + 1) = l3 + 1 := aw_id (by omega)
  have e2 : aw oo (l3 + 2) = l3 + 2 := aw_id (by omega)
  have e3 : aw oo (l3 + 3) = l3 + 3 := aw_id (by omega)
  have e4 : aw oo (l3 + 4) = l3 + 4 := aw_id (by omega)
  have e5 : aw oo (l3 + 5) = l3 + 5 := aw_id (by omega)
  have e6 : aw oo (l3 + 6) = l3 + 6 := aw_id (by omega)
  have e7 : aw oo (l3 + 7) = l3 + 7 := aw_id (by omega)
  have c1 : (0 ≤ l3 + 1 ∧ l3 + 1 < gD S 0 1 0) = True := eq_true ⟨by omega, by omega⟩
  have c2 : (0 ≤ l3 + 2 ∧ l3 + 2 < gD S 0 1 0) = True := eq_true ⟨by omega, by omega⟩
  have c3 : (0 ≤ l3 + 3 ∧ l3 + 3 < gD S 0 1 0) = True := eq_true ⟨by omega, by omega⟩
  have c4 : (0 ≤ l3 + 4 ∧ l3 + 4 < gD S 0 1 0) = True := eq_true ⟨by omega, by omega⟩
  have c5 : (0 ≤ l3 + 5 ∧ l3 + 5 < gD S 0 1 0) = True := eq_true ⟨by omega, by omega⟩
  have c6 : (0 ≤ l3 + 6 ∧ l3 + 6 < gD S 0 1 0) = True := eq_true ⟨by omega, by omega⟩
  rw [b307_18, if_neg hlt, if_pos (show 0 ≤ l3 ∧ l3 < gD S 0 1 0 by omega), if_neg (show ¬ ab oo 0 (gD S 0 0 l3.toNat) 63 = 0 by rw [hc]; decide), if_neg (show ¬ ab oo 0 (gD S 0 0 l3.toNat) 63 = 1 by rw [hc]; decide), if_neg (show ¬ ab oo 0 (gD S 0 0 l3.toNat) 63 = 2 by rw [hc]; decide), if_neg (show ¬ ab oo 0 (gD S 0 0 l3.toNat) 63 = 3 by rw [hc]; decide), if_neg (show ¬ ab oo 0 (gD S 0 0 l3.toNat) 63 = 4 by rw [hc]; decide), if_neg (show ¬ ab oo 0 (gD S 0 0 l3.toNat) 63 = 5 by rw [hc]; decide), if_neg (show ¬ ab oo 0 (gD S 0 0 l3.toNat) 63 = 6 by rw [hc]; decide), if_neg (show ¬ ab oo 0 (gD S 0 0 l3.toNat) 63 = 7 by rw [hc]; decide), if_neg (show ¬ ab oo 0 (gD S 0 0 l3.toNat) 63 = 8 by rw [hc]; decide), if_neg (show ¬ ab oo 0 (gD S 0 0 l3.toNat) 63 = 9 by rw [hc]; decide), if_neg (show ¬ ab oo 0 (gD S 0 0 l3.toNat) 63 = 10 by rw [hc]; decide), if_neg (show ¬ ab oo 0 (gD S 0 0 l3.toNat) 63 = 11 by rw [hc]; decide), if_neg (show ¬ ab oo 0 (gD S 0 0 l3.toNat) 63 = 12 by rw [hc]; decide), if_neg (show ¬ ab oo 0 (gD S 0 0 l3.toNat) 63 = 13 by rw [hc]; decide), if_neg (show ¬ ab oo 0 (gD S 0 0 l3.toNat) 63 = 14 by rw [hc]; decide), if_neg (show ¬ ab oo 0 (gD S 0 0 l3.toNat) 63 = 15 by rw [hc]; decide), if_neg (show ¬ ab oo 0 (gD S 0 0 l3.toNat) 63 = 16 by rw [hc]; decide), if_neg (show ¬ ab oo 0 (gD S 0 0 l3.toNat) 63 = 17 by rw [hc]; decide), if_neg (show ¬ ab oo 0 (gD S 0 0 l3.toNat) 63 = 18 by rw [hc]; decide), if_neg (show ¬ ab oo 0 (gD S 0 0 l3.toNat) 63 = 19 by rw [hc]; decide), if_neg (show ¬ ab oo 0 (gD S 0 0 l3.toNat) 63 = 20 by rw [hc]; decide), if_neg (show ¬ ab oo 0 (gD S 0 0 l3.toNat) 63 = 21 by rw [hc]; decide), if_pos hc]
  simp only [e1, e2, e3, e4, e5, e6, e7, g1, c1, c2, c3, c4, c5, c6, if_true, if_false, h1, bI, bL, h2, ab9]
theorem lc_23a {K : KT} {n : Nat} {S S1 S2 : SD} {l3 x : Int} (hlt : ¬ aw oo (gD S 0 1 0 - 7) < l3) (hb : 0 ≤ l3 ∧ l3 + 6 < gD S 0 1 0) (hm : l3 < 100000) (hc : ab oo 0 (gD S 0 0 l3.toNat) 63 = 23) (hx : (gD S 0 0 (l3 + 2).toNat = 0) = True) (hg : S1.1 0 = S.1 0) (h1 : K 171 [vr (some (2, 0)), vi (gD S 0 0 (l3 + 1).toNat), vi 0] S = some (vi x, S1)) (h2 : K 271 [vr (some (85, 0)), vi (gD S 0 0 (l3 + 1).toNat), vi 0] S1 = some (vi x, S2)) : run oo K false mi_307 (n + 1) 18 [(0, vr (some (0, 0))), (1, vr (some (2, 0))), (2, vr (some (85, 0))), (3, vi l3)] [] S = run oo K false mi_307 n 18 [(0, vr (some (0, 0))), (1, vr (some (2, 0))), (2, vr (some (85, 0))), (3, vi (l3 + 7))] [] S2 := by
  have g1 : ∀ j k, gD S1 0 j k = gD S 0 j k := fun j k => by show S1.1 0 j k = S.1 0 j k; rw [hg]
  have e1 : aw oo (l3 + 1) = l3 + 1 := aw_id (by omega)
  have e2 : aw oo (l3 + 2) = l3 + 2 := aw_id (by omega)
  have e3 : aw oo (l3 + 3) = l3 + 3 := aw_id (by omega)
  have e4 : aw oo (l3 + 4) = l3 + 4 := aw_id (by omega)
  have e5 : aw oo (l3 + 5) = l3 + 5 := aw_id (by omega)
  have e6 : aw oo (l3 + 6) = l3 + 6 := aw_id (by omega)
  have e7 : aw oo (l3 + 7) = l3 + 7 := aw_id (by omega)
  have c1 : (0 ≤ l3 + 1 ∧ l3 + 1 < gD S 0 1 0) = True := eq_true ⟨by omega, by omega⟩
  have c2 : (0 ≤ l3 + 2 ∧ l3 + 2 < gD S 0 1 0) = True := eq_true ⟨by omega, by omega⟩
  have c3 : (0 ≤ l3 + 3 ∧ l3 + 3 < gD S 0 1 0) = True := eq_true ⟨by omega, by omega⟩
  have c4 : (0 ≤ l3 + 4 ∧ l3 + 4 < gD S 0 1 0) = True := eq_true ⟨by omega, by omega⟩
  have c5 : (0 ≤ l3 + 5 ∧ l3 + 5 < gD S 0 1 0) = True := eq_true ⟨by omega, by omega⟩
  have c6 : (0 ≤ l3 + 6 ∧ l3 + 6 < gD S 0 1 0) = True := eq_true ⟨by omega, by omega⟩
  rw [b307_18, if_neg hlt, if_pos (show 0 ≤ l3 ∧ l3 < gD S 0 1 0 by omega), if_neg (show ¬ ab oo 0 (gD S 0 0 l3.toNat) 63 = 0 by rw [hc]; decide), if_neg (show ¬ ab oo 0 (gD S 0 0 l3.toNat) 63 = 1 by rw [hc]; decide), if_neg (show ¬ ab oo 0 (gD S 0 0 l3.toNat) 63 = 2 by rw [hc]; decide), if_neg (show ¬ ab oo 0 (gD S 0 0 l3.toNat) 63 = 3 by rw [hc]; decide), if_neg (show ¬ ab oo 0 (gD S 0 0 l3.toNat) 63 = 4 by rw [hc]; decide), if_neg (show ¬ ab oo 0 (gD S 0 0 l3.toNat) 63 = 5 by rw [hc]; decide), if_neg (show ¬ ab oo 0 (gD S 0 0 l3.toNat) 63 = 6 by rw [hc]; decide), if_neg (show ¬ ab oo 0 (gD S 0 0 l3.toNat) 63 = 7 by rw [hc]; decide), if_neg (show ¬ ab oo 0 (gD S 0 0 l3.toNat) 63 = 8 by rw [hc]; decide), if_neg (show ¬ ab oo 0 (gD S 0 0 l3.toNat) 63 = 9 by rw [hc]; decide), if_neg (show ¬ ab oo 0 (gD S 0 0 l3.toNat) 63 = 10 by rw [hc]; decide), if_neg (show ¬ ab oo 0 (gD S 0 0 l3.toNat) 63 = 11 by rw [hc]; decide), if_neg (show ¬ ab oo 0 (gD S 0 0 l3.toNat) 63 = 12 by rw [hc]; decide), if_neg (show ¬ ab oo 0 (gD S 0 0 l3.toNat) 63 = 13 by rw [hc]; decide), if_neg (show ¬ ab oo 0 (gD S 0 0 l3.toNat) 63 = 14 by rw [hc]; decide), if_neg (show ¬ ab oo 0 (gD S 0 0 l3.toNat) 63 = 15 by rw [hc]; decide), if_neg (show ¬ ab oo 0 (gD S 0 0 l3.toNat) 63 = 16 by rw [hc]; decide), if_neg (show ¬ ab oo 0 (gD S 0 0 l3.toNat) 63 = 17 by rw [hc]; decide), if_neg (show ¬ ab oo 0 (gD S 0 0 l3.toNat) 63 = 18 by rw [hc]; decide), if_neg (show ¬ ab oo 0 (gD S 0 0 l3.toNat) 63 = 19 by rw [hc]; decide), if_neg (show ¬ ab oo 0 (gD S 0 0 l3.toNat) 63 = 20 by rw [hc]; decide), if_neg (show ¬ ab oo 0 (gD S 0 0 l3.toNat) 63 = 21 by rw [hc]; decide), if_neg (show ¬ ab oo 0 (gD S 0 0 l3.toNat) 63 = 22 by rw [hc]; decide), if_pos hc]
  simp only [e1, e2, e3, e4, e5, e6, e7, g1, c1, c2, c3, c4, c5, c6, if_true, if_false, h1, bI, bL, h2, ab9, hx]
theorem lc_23b {K : KT} {n : Nat} {S S1 S2 : SD} {l3 x : Int} (hlt : ¬ aw oo (gD S 0 1 0 - 7) < l3) (hb : 0 ≤ l3 ∧ l3 + 6 < gD S 0 1 0) (hm : l3 < 100000) (hc : ab oo 0 (gD S 0 0 l3.toNat) 63 = 23) (hx : (gD S 0 0 (l3 + 2).toNat = 0) = False) (hg : S1.1 0 = S.1 0) (h1 : K 171 [vr (some (2, 0)), vi (gD S 0 0 (l3 + 1).toNat), vi 1] S = some (vi x, S1)) (h2 : K 271 [vr (some (85, 0)), vi (gD S 0 0 (l3 + 1).toNat), vi 1] S1 = some (vi x, S2)) : run oo K false mi_307 (n + 1) 18 [(0, vr (some (0, 0))), (1, vr (some (2, 0))), (2, vr (some (85, 0))), (3, vi l3)] [] S = run oo K false mi_307 n 18 [(0, vr (some (0, 0))), (1, vr (some (2, 0))), (2, vr (some (85, 0))), (3, vi (l3 + 7))] [] S2 := by
  have g1 : ∀ j k, gD S1 0 j k = gD S 0 j k := fun j k => by show S1.1 0 j k = S.1 0 j k; rw [hg]
  have e1 : aw oo (l3 + 1) = l3 + 1 := aw_id (by omega)
  have e2 : aw oo (l3 + 2) = l3 + 2 := aw_id (by omega)
  have e3 : aw oo (l3 + 3) = l3 + 3 := aw_id (by omega)
  have e4 : aw oo (l3 + 4) = l3 + 4 := aw_id (by omega)
  have e5 : aw oo (l3 + 5) = l3 + 5 := aw_id (by omega)
  have e6 : aw oo (l3 + 6) = l3 + 6 := aw_id (by omega)
  have e7 : aw oo (l3 + 7) = l3 + 7 := aw_id (by omega)
  have c1 : (0 ≤ l3 + 1 ∧ l3 + 1 < gD S 0 1 0) = True := eq_true ⟨by omega, by omega⟩
  have c2 : (0 ≤ l3 + 2 ∧ l3 + 2 < gD S 0 1 0) = True := eq_true ⟨by omega, by omega⟩
  have c3 : (0 ≤ l3 + 3 ∧ l3 + 3 < gD S 0 1 0) = True := eq_true ⟨by omega, by omega⟩
  have c4 : (0 ≤ l3 + 4 ∧ l3 + 4 < gD S 0 1 0) = True := eq_true ⟨by omega, by omega⟩
  have c5 : (0 ≤ l3 + 5 ∧ l3 + 5 < gD S 0 1 0) = True := eq_true ⟨by omega, by omega⟩
  have c6 : (0 ≤ l3 + 6 ∧ l3 + 6 < gD S 0 1 0) = True := eq_true ⟨by omega, by omega⟩
  rw [b307_18, if_neg hlt, if_pos (show 0 ≤ l3 ∧ l3 < gD S 0 1 0 by omega), if_neg (show ¬ ab oo 0 (gD S 0 0 l3.toNat) 63 = 0 by rw [hc]; decide), if_neg (show ¬ ab oo 0 (gD S 0 0 l3.toNat) 63 = 1 by rw [hc]; decide), if_neg (show ¬ ab oo 0 (gD S 0 0 l3.toNat) 63 = 2 by rw [hc]; decide), if_neg (show ¬ ab oo 0 (gD S 0 0 l3.toNat) 63 = 3 by rw [hc]; decide), if_neg (show ¬ ab oo 0 (gD S 0 0 l3.toNat) 63 = 4 by rw [hc]; decide), if_neg (show ¬ ab oo 0 (gD S 0 0 l3.toNat) 63 = 5 by rw [hc]; decide), if_neg (show ¬ ab oo 0 (gD S 0 0 l3.toNat) 63 = 6 by rw [hc]; decide), if_neg (show ¬ ab oo 0 (gD S 0 0 l3.toNat) 63 = 7 by rw [hc]; decide), if_neg (show ¬ ab oo 0 (gD S 0 0 l3.toNat) 63 = 8 by rw [hc]; decide), if_neg (show ¬ ab oo 0 (gD S 0 0 l3.toNat) 63 = 9 by rw [hc]; decide), if_neg (show ¬ ab oo 0 (gD S 0 0 l3.toNat) 63 = 10 by rw [hc]; decide), if_neg (show ¬ ab oo 0 (gD S 0 0 l3.toNat) 63 = 11 by rw [hc]; decide), if_neg (show ¬ ab oo 0 (gD S 0 0 l3.toNat) 63 = 12 by rw [hc]; decide), if_neg (show ¬ ab oo 0 (gD S 0 0 l3.toNat) 63 = 13 by rw [hc]; decide), if_neg (show ¬ ab oo 0 (gD S 0 0 l3.toNat) 63 = 14 by rw [hc]; decide), if_neg (show ¬ ab oo 0 (gD S 0 0 l3.toNat) 63 = 15 by rw [hc]; decide), if_neg (show ¬ ab oo 0 (gD S 0 0 l3.toNat) 63 = 16 by rw [hc]; decide), if_neg (show ¬ ab oo 0 (gD S 0 0 l3.toNat) 63 = 17 by rw [hc]; decide), if_neg (show ¬ ab oo 0 (gD S 0 0 l3.toNat) 63 = 18 by rw [hc]; decide), if_neg (show ¬ ab oo 0 (gD S 0 0 l3.toNat) 63 = 19 by rw [hc]; decide), if_neg (show ¬ ab oo 0 (gD S 0 0 l3.toNat) 63 = 20 by rw [hc]; decide), if_neg (show ¬ ab oo 0 (gD S 0 0 l3.toNat) 63 = 21 by rw [hc]; decide), if_neg (show ¬ ab oo 0 (gD S 0 0 l3.toNat) 63 = 22 by rw [hc]; decide), if_pos hc]
  simp only [e1, e2, e3, e4, e5, e6, e7, g1, c1, c2, c3, c4, c5, c6, if_true, if_false, h1, bI, bL, h2, ab9, hx]
theorem lc_24 {K : KT} {n : Nat} {S S1 S2 : SD} {l3 x : Int} (hlt : ¬ aw oo (gD S 0 1 0 - 7) < l3) (hb : 0 ≤ l3 ∧ l3 + 6 < gD S 0 1 0) (hm : l3 < 100000) (hc : ab oo 0 (gD S 0 0 l3.toNat) 63 = 24) (hg : S1.1 0 = S.1 0) (h1 : K 172 [vr (some (2, 0)), vi (gD S 0 0 (l3 + 1).toNat), vi (gD S 0 0 (l3 + 2).toNat)] S = some (vi x, S1)) (h2 : K 272 [vr (some (85, 0)), vi (gD S 0 0 (l3 + 1).toNat), vi (gD S 0 0 (l3 + 2).toNat)] S1 = some (vi x, S2)) : run oo K false mi_307 (n + 1) 18 [(0, vr (some (0, 0))), (1, vr (some (2, 0))), (2, vr (some (85, 0))), (3, vi l3)] [] S = run oo K false mi_307 n 18 [(0, vr (some (0, 0))), (1, vr (some (2, 0))), (2, vr (some (85, 0))), (3, vi (l3 + 7))] [] S2 := by
  have g1 : ∀ j k, gD S1 0 j k = gD S 0 j k := fun j k => by show S1.1 0 j k = S.1 0 j k; rw [hg]
  have e1 : aw oo (l3 + 1) = l3 + 1 := aw_id (by omega)
  have e2 : aw oo (l3 + 2) = l3 + 2 := aw_id (by omega)
  have e3 : aw oo (l3 + 3) = l3 + 3 := aw_id (by omega)
  have e4 : aw oo (l3 + 4) = l3 + 4 := aw_id (by omega)
  have e5 : aw oo (l3 + 5) = l3 + 5 := aw_id (by omega)
  have e6 : aw oo (l3 + 6) = l3 + 6 := aw_id (by omega)
  have e7 : aw oo (l3 + 7) = l3 + 7 := aw_id (by omega)
  have c1 : (0 ≤ l3 + 1 ∧ l3 + 1 < gD S 0 1 0) = True := eq_true ⟨by omega, by omega⟩
  have c2 : (0 ≤ l3 + 2 ∧ l3 + 2 < gD S 0 1 0) = True := eq_true ⟨by omega, by omega⟩
  have c3 : (0 ≤ l3 + 3 ∧ l3 + 3 < gD S 0 1 0) = True := eq_true ⟨by omega, by omega⟩
  have c4 : (0 ≤ l3 + 4 ∧ l3 + 4 < gD S 0 1 0) = True := eq_true ⟨by omega, by omega⟩
  have c5 : (0 ≤ l3 + 5 ∧ l3 + 5 < gD S 0 1 0) = True := eq_true ⟨by omega, by omega⟩
  have c6 : (0 ≤ l3 + 6 ∧ l3 + 6 < gD S 0 1 0) = True := eq_true ⟨by omega, by omega⟩
  rw [b307_18, if_neg hlt, if_pos (show 0 ≤ l3 ∧ l3 < gD S 0 1 0 by omega), if_neg (show ¬ ab oo 0 (gD S 0 0 l3.toNat) 63 = 0 by rw [hc]; decide), if_neg (show ¬ ab oo 0 (gD S 0 0 l3.toNat) 63 = 1 by rw [hc]; decide), if_neg (show ¬ ab oo 0 (gD S 0 0 l3.toNat) 63 = 2 by rw [hc]; decide), if_neg (show ¬ ab oo 0 (gD S 0 0 l3.toNat) 63 = 3 by rw [hc]; decide), if_neg (show ¬ ab oo 0 (gD S 0 0 l3.toNat) 63 = 4 by rw [hc]; decide), if_neg (show ¬ ab oo 0 (gD S 0 0 l3.toNat) 63 = 5 by rw [hc]; decide), if_neg (show ¬ ab oo 0 (gD S 0 0 l3.toNat) 63 = 6 by rw [hc]; decide), if_neg (show ¬ ab oo 0 (gD S 0 0 l3.toNat) 63 = 7 by rw [hc]; decide), if_neg (show ¬ ab oo 0 (gD S 0 0 l3.toNat) 63 = 8 by rw [hc]; decide), if_neg (show ¬ ab oo 0 (gD S 0 0 l3.toNat) 63 = 9 by rw [hc]; decide), if_neg (show ¬ ab oo 0 (gD S 0 0 l3.toNat) 63 = 10 by rw [hc]; decide), if_neg (show ¬ ab oo 0 (gD S 0 0 l3.toNat) 63 = 11 by rw [hc]; decide), if_neg (show ¬ ab oo 0 (gD S 0 0 l3.toNat) 63 = 12 by rw [hc]; decide), if_neg (show ¬ ab oo 0 (gD S 0 0 l3.toNat) 63 = 13 by rw [hc]; decide), if_neg (show ¬ ab oo 0 (gD S 0 0 l3.toNat) 63 = 14 by rw [hc]; decide), if_neg (show ¬ ab oo 0 (gD S 0 0 l3.toNat) 63 = 15 by rw [hc]; decide), if_neg (show ¬ ab oo 0 (gD S 0 0 l3.toNat) 63 = 16 by rw [hc]; decide), if_neg (show ¬ ab oo 0 (gD S 0 0 l3.toNat) 63 = 17 by rw [hc]; decide), if_neg (show ¬ ab oo 0 (gD S 0 0 l3.toNat) 63 = 18 by rw [hc]; decide), if_neg (show ¬ ab oo 0 (gD S 0 0 l3.toNat) 63 = 19 by rw [hc]; decide), if_neg (show ¬ ab oo 0 (gD S 0 0 l3.toNat) 63 = 20 by rw [hc]; decide), if_neg (show ¬ ab oo 0 (gD S 0 0 l3.toNat) 63 = 21 by rw [hc]; decide), if_neg (show ¬ ab oo 0 (gD S 0 0 l3.toNat) 63 = 22 by rw [hc]; decide), if_neg (show ¬ ab oo 0 (gD S 0 0 l3.toNat) 63 = 23 by rw [hc]; decide), if_pos hc]
  simp only [e1, e2, e3, e4, e5, e6, e7, g1, c1, c2, c3, c4, c5, c6, if_true, if_false, h1, bI, bL, h2, ab9]
theorem lc_25 {K : KT} {n : Nat} {S S1 S2 : SD} {l3 x : Int} (hlt : ¬ aw oo (gD S 0 1 0 - 7) < l3) (hb : 0 ≤ l3 ∧ l3 + 6 < gD S 0 1 0) (hm : l3 < 100000) (hc : ab oo 0 (gD S 0 0 l3.toNat) 63 = 25) (hg : S1.1 0 = S.1 0) (h1 : K 173 [vr (some (2, 0)), vi (gD S 0 0 (l3 + 1).toNat), vi (gD S 0 0 (l3 + 2).toNat)] S = some (vi x, S1)) (h2 : K 280 [vr (some (85, 0)), vi (gD S 0 0 (l3 + 1).toNat), vi (gD S 0 0 (l3 + 2).toNat)] S1 = some (vi x, S2)) : run oo K false mi_307 (n + 1) 18 [(0, vr (some (0, 0))), (1, vr (some (2, 0))), (2, vr (some (85, 0))), (3, vi l3)] [] S = run oo K false mi_307 n 18 [(0, vr (some (0, 0))), (1, vr (some (2, 0))), (2, vr (some (85, 0))), (3, vi (l3 + 7))] [] S2 := by
  have g1 : ∀ j k, gD S1 0 j k = gD S 0 j k := fun j k => by show S1.1 0 j k = S.1 0 j k; rw [hg]
  have e1 : aw oo (l3 + 1) = l3 + 1 := aw_id (by omega)
  have e2 : aw oo (l3 + 2) = l3 + 2 := aw_id (by omega)
  have e3 : aw oo (l3 + 3) = l3 + 3 := aw_id (by omega)
  have e4 : aw oo (l3 + 4) = l3 + 4 := aw_id (by omega)
  have e5 : aw oo (l3 + 5) = l3 + 5 := aw_id (by omega)
  have e6 : aw oo (l3 + 6) = l3 + 6 := aw_id (by omega)
  have e7 : aw oo (l3 + 7) = l3 + 7 := aw_id (by omega)
  have c1 : (0 ≤ l3 + 1 ∧ l3 + 1 < gD S 0 1 0) = True := eq_true ⟨by omega, by omega⟩
  have c2 : (0 ≤ l3 + 2 ∧ l3 + 2 < gD S 0 1 0) = True := eq_true ⟨by omega, by omega⟩
  have c3 : (0 ≤ l3 + 3 ∧ l3 + 3 < gD S 0 1 0) = True := eq_true ⟨by omega, by omega⟩
  have c4 : (0 ≤ l3 + 4 ∧ l3 + 4 < gD S 0 1 0) = True := eq_true ⟨by omega, by omega⟩
  have c5 : (0 ≤ l3 + 5 ∧ l3 + 5 < gD S 0 1 0) = True := eq_true ⟨by omega, by omega⟩
  have c6 : (0 ≤ l3 + 6 ∧ l3 + 6 < gD S 0 1 0) = True := eq_true ⟨by omega, by omega⟩
  rw [b307_18, if_neg hlt, if_pos (show 0 ≤ l3 ∧ l3 < gD S 0 1 0 by omega), if_neg (show ¬ ab oo 0 (gD S 0 0 l3.toNat) 63 = 0 by rw [hc]; decide), if_neg (show ¬ ab oo 0 (gD S 0 0 l3.toNat) 63 = 1 by rw [hc]; decide), if_neg (show ¬ ab oo 0 (gD S 0 0 l3.toNat) 63 = 2 by rw [hc]; decide), if_neg (show ¬ ab oo 0 (gD S 0 0 l3.toNat) 63 = 3 by rw [hc]; decide), if_neg (show ¬ ab oo 0 (gD S 0 0 l3.toNat) 63 = 4 by rw [hc]; decide), if_neg (show ¬ ab oo 0 (gD S 0 0 l3.toNat) 63 = 5 by rw [hc]; decide), if_neg (show ¬ ab oo 0 (gD S 0 0 l3.toNat) 63 = 6 by rw [hc]; decide), if_neg (show ¬ ab oo 0 (gD S 0 0 l3.toNat) 63 = 7 by rw [hc]; decide), if_neg (show ¬ ab oo 0 (gD S 0 0 l3.toNat) 63 = 8 by rw [hc]; decide), if_neg (show ¬ ab oo 0 (gD S 0 0 l3.toNat) 63 = 9 by rw [hc]; decide), if_neg (show ¬ ab oo 0 (gD S 0 0 l3.toNat) 63 = 10 by rw [hc]; decide), if_neg (show ¬ ab oo 0 (gD S 0 0 l3.toNat) 63 = 11 by rw [hc]; decide), if_neg (show ¬ ab oo 0 (gD S 0 0 l3.toNat) 63 = 12 by rw [hc]; decide), if_neg (show ¬ ab oo 0 (gD S 0 0 l3.toNat) 63 = 13 by rw [hc]; decide), if_neg (show ¬ ab oo 0 (gD S 0 0 l3.toNat) 63 = 14 by rw [hc]; decide), if_neg (show ¬ ab oo 0 (gD S 0 0 l3.toNat) 63 = 15 by rw [hc]; decide), if_neg (show ¬ ab oo 0 (gD S 0 0 l3.toNat) 63 = 16 by rw [hc]; decide), if_neg (show ¬ ab oo 0 (gD S 0 0 l3.toNat) 63 = 17 by rw [hc]; decide), if_neg (show ¬ ab oo 0 (gD S 0 0 l3.toNat) 63 = 18 by rw [hc]; decide), if_neg (show ¬ ab oo 0 (gD S 0 0 l3.toNat) 63 = 19 by rw [hc]; decide), if_neg (show ¬ ab oo 0 (gD S 0 0 l3.toNat) 63 = 20 by rw [hc]; decide), if_neg (show ¬ ab oo 0 (gD S 0 0 l3.toNat) 63 = 21 by rw [hc]; decide), if_neg (show ¬ ab oo 0 (gD S 0 0 l3.toNat) 63 = 22 by rw [hc]; decide), if_neg (show ¬ ab oo 0 (gD S 0 0 l3.toNat) 63 = 23 by rw [hc]; decide), if_neg (show ¬ ab oo 0 (gD S 0 0 l3.toNat) 63 = 24 by rw [hc]; decide), if_pos hc]
  simp only [e1, e2, e3, e4, e5, e6, e7, g1, c1, c2, c3, c4, c5, c6, if_true, if_false, h1, bI, bL, h2, ab9]
theorem lc_26 {K : KT} {n : Nat} {S S1 S2 : SD} {l3 x : Int} (hlt : ¬ aw oo (gD S 0 1 0 - 7) < l3) (hb : 0 ≤ l3 ∧ l3 + 6 < gD S 0 1 0) (hm : l3 < 100000) (hc : ab oo 0 (gD S 0 0 l3.toNat) 63 = 26) (hg : S1.1 0 = S.1 0) (h1 : K 174 [vr (some (2, 0))] S = some (vi x, S1)) (h2 : K 286 [vr (some (85, 0))] S1 = some (vi x, S2)) : run oo K false mi_307 (n + 1) 18 [(0, vr (some (0, 0))), (1, vr (some (2, 0))), (2, vr (some (85, 0))), (3, vi l3)] [] S = run oo K false mi_307 n 18 [(0, vr (some (0, 0))), (1, vr (some (2, 0))), (2, vr (some (85, 0))), (3, vi (l3 + 7))] [] S2 := by
  have g1 : ∀ j k, gD S1 0 j k = gD S 0 j k := fun j k => by show S1.1 0 j k = S.1 0 j k; rw [hg]
  have e1 : aw oo (l3 + 1) = l3 + 1 := aw_id (by omega)
  have e2 : aw oo (l3 + 2) = l3 + 2 := aw_id (by omega)
  have e3 : aw oo (l3 + 3) = l3 + 3 := aw_id (by omega)
  have e4 : aw oo (l3 + 4) = l3 + 4 := aw_id (by omega)
  have e5 : aw oo (l3 + 5) = l3 + 5 := aw_id (by omega)
  have e6 : aw oo (l3 + 6) = l3 + 6 := aw_id (by omega)
  have e7 : aw oo (l3 + 7) = l3 + 7 := aw_id (by omega)
  have c1 : (0 ≤ l3 + 1 ∧ l3 + 1 < gD S 0 1 0) = True := eq_true ⟨by omega, by omega⟩
  have c2 : (0 ≤ l3 + 2 ∧ l3 + 2 < gD S 0 1 0) = True := eq_true ⟨by omega, by omega⟩
  have c3 : (0 ≤ l3 + 3 ∧ l3 + 3 < gD S 0 1 0) = True := eq_true ⟨by omega, by omega⟩
  have c4 : (0 ≤ l3 + 4 ∧ l3 + 4 < gD S 0 1 0) = True := eq_true ⟨by omega, by omega⟩
  have c5 : (0 ≤ l3 + 5 ∧ l3 + 5 < gD S 0 1 0) = True := eq_true ⟨by omega, by omega⟩
  have c6 : (0 ≤ l3 + 6 ∧ l3 + 6 < gD S 0 1 0) = True := eq_true ⟨by omega, by omega⟩
  rw [b307_18, if_neg hlt, if_pos (show 0 ≤ l3 ∧ l3 < gD S 0 1 0 by omega), if_neg (show ¬ ab oo 0 (gD S 0 0 l3.toNat) 63 = 0 by rw [hc]; decide), if_neg (show ¬ ab oo 0 (gD S 0 0 l3.toNat) 63 = 1 by rw [hc]; decide), if_neg (show ¬ ab oo 0 (gD S 0 0 l3.toNat) 63 = 2 by rw [hc]; decide), if_neg (show ¬ ab oo 0 (gD S 0 0 l3.toNat) 63 = 3 by rw [hc]; decide), if_neg (show ¬ ab oo 0 (gD S 0 0 l3.toNat) 63 = 4 by rw [hc]; decide), if_neg (show ¬ ab oo 0 (gD S 0 0 l3.toNat) 63 = 5 by rw [hc]; decide), if_neg (show ¬ ab oo 0 (gD S 0 0 l3.toNat) 63 = 6 by rw [hc]; decide), if_neg (show ¬ ab oo 0 (gD S 0 0 l3.toNat) 63 = 7 by rw [hc]; decide), if_neg (show ¬ ab oo 0 (gD S 0 0 l3.toNat) 63 = 8 by rw [hc]; decide), if_neg (show ¬ ab oo 0 (gD S 0 0 l3.toNat) 63 = 9 by rw [hc]; decide), if_neg (show ¬ ab oo 0 (gD S 0 0 l3.toNat) 63 = 10 by rw [hc]; decide), if_neg (show ¬ ab oo 0 (gD S 0 0 l3.toNat) 63 = 11 by rw [hc]; decide), if_neg (show ¬ ab oo 0 (gD S 0 0 l3.toNat) 63 = 12 by rw [hc]; decide), if_neg (show ¬ ab oo 0 (gD S 0 0 l3.toNat) 63 = 13 by rw [hc]; decide), if_neg (show ¬ ab oo 0 (gD S 0 0 l3.toNat) 63 = 14 by rw [hc]; decide), if_neg (show ¬ ab oo 0 (gD S 0 0 l3.toNat) 63 = 15 by rw [hc]; decide), if_neg (show ¬ ab oo 0 (gD S 0 0 l3.toNat) 63 = 16 by rw [hc]; decide), if_neg (show ¬ ab oo 0 (gD S 0 0 l3.toNat) 63 = 17 by rw [hc]; decide), if_neg (show ¬ ab oo 0 (gD S 0 0 l3.toNat) 63 = 18 by rw [hc]; decide), if_neg (show ¬ ab oo 0 (gD S 0 0 l3.toNat) 63 = 19 by rw [hc]; decide), if_neg (show ¬ ab oo 0 (gD S 0 0 l3.toNat) 63 = 20 by rw [hc]; decide), if_neg (show ¬ ab oo 0 (gD S 0 0 l3.toNat) 63 = 21 by rw [hc]; decide), if_neg (show ¬ ab oo 0 (gD S 0 0 l3.toNat) 63 = 22 by rw [hc]; decide), if_neg (show ¬ ab oo 0 (gD S 0 0 l3.toNat) 63 = 23 by rw [hc]; decide), if_neg (show ¬ ab oo 0 (gD S 0 0 l3.toNat) 63 = 24 by rw [hc]; decide), if_neg (show ¬ ab oo 0 (gD S 0 0 l3.toNat) 63 = 25 by rw [hc]; decide), if_pos hc]
  simp only [e1, e2, e3, e4, e5, e6, e7, g1, c1, c2, c3, c4, c5, c6, if_true, if_false, h1, bI, bL, h2, ab9]
theorem lc_27 {K : KT} {n : Nat} {S S1 S2 : SD} {l3 x : Int} (hlt : ¬ aw oo (gD S 0 1 0 - 7) < l3) (hb : 0 ≤ l3 ∧ l3 + 6 < gD S 0 1 0) (hm : l3 < 100000) (hc : ab oo 0 (gD S 0 0 l3.toNat) 63 = 27) (hg : S1.1 0 = S.1 0) (h1 : K 175 [vr (some (2, 0)), vi (gD S 0 0 (l3 + 1).toNat), vi (gD S 0 0 (l3 + 2).toNat)] S = some (vi x, S1)) (h2 : K 287 [vr (some (85, 0)), vi (gD S 0 0 (l3 + 1).toNat), vi (gD S 0 0 (l3 + 2).toNat)] S1 = some (vi x, S2)) : run oo K false mi_307 (n + 1) 18 [(0, vr (some (0, 0))), (1, vr (some (2, 0))), (2, vr (some (85, 0))), (3, vi l3)] [] S = run oo K false mi_307 n 18 [(0, vr (some (0, 0))), (1, vr (some (2, 0))), (2, vr (some (85, 0))), (3, vi (l3 + 7))] [] S2 := by
  have g1 : ∀ j k, gD S1 0 j k = gD S 0 j k := fun j k => by show S1.1 0 j k = S.1 0 j k; rw [hg]
  have e1 : aw oo (l3 + 1) = l3 + 1 := aw_id (by omega)
  have e2 : aw oo (l3 + 2) = l3 + 2 := aw_id (by omega)
  have e3 : aw oo (l3 + 3) = l3 + 3 := aw_id (by omega)
  have e4 : aw oo (l3 + 4) = l3 + 4 := aw_id (by omega)
  have e5 : aw oo (l3 + 5) = l3 + 5 := aw_id (by omega)
  have e6 : aw oo (l3 + 6) = l3 + 6 := aw_id (by omega)
  have e7 : aw oo (l3 + 7) = l3 + 7 := aw_id (by omega)
  have c1 : (0 ≤ l3 + 1 ∧ l3 + 1 < gD S 0 1 0) = True := eq_true ⟨by omega, by omega⟩
  have c2 : (0 ≤ l3 + 2 ∧ l3 + 2 < gD S 0 1 0) = True := eq_true ⟨by omega, by omega⟩
  have c3 : (0 ≤ l3 + 3 ∧ l3 + 3 < gD S 0 1 0) = True := eq_true ⟨by omega, by omega⟩
  have c4 : (0 ≤ l3 + 4 ∧ l3 + 4 < gD S 0 1 0) = True := eq_true ⟨by omega, by omega⟩
  have c5 : (0 ≤ l3 + 5 ∧ l3 + 5 < gD S 0 1 0) = True := eq_true ⟨by omega, by omega⟩
  have c6 : (0 ≤ l3 + 6 ∧ l3 + 6 < gD S 0 1 0) = True := eq_true ⟨by omega, by omega⟩
  rw [b307_18, if_neg hlt, if_pos (show 0 ≤ l3 ∧ l3 < gD S 0 1 0 by omega), if_neg (show ¬ ab oo 0 (gD S 0 0 l3.toNat) 63 = 0 by rw [hc]; decide), if_neg (show ¬ ab oo 0 (gD S 0 0 l3.toNat) 63 = 1 by rw [hc]; decide), if_neg (show ¬ ab oo 0 (gD S 0 0 l3.toNat) 63 = 2 by rw [hc]; decide), if_neg (show ¬ ab oo 0 (gD S 0 0 l3.toNat) 63 = 3 by rw [hc]; decide), if_neg (show ¬ ab oo 0 (gD S 0 0 l3.toNat) 63 = 4 by rw [hc]; decide), if_neg (show ¬ ab oo 0 (gD S 0 0 l3.toNat) 63 = 5 by rw [hc]; decide), if_neg (show ¬ ab oo 0 (gD S 0 0 l3.toNat) 63 = 6 by rw [hc]; decide), if_neg (show ¬ ab oo 0 (gD S 0 0 l3.toNat) 63 = 7 by rw [hc]; decide), if_neg (show ¬ ab oo 0 (gD S 0 0 l3.toNat) 63 = 8 by rw [hc]; decide), if_neg (show ¬ ab oo 0 (gD S 0 0 l3.toNat) 63 = 9 by rw [hc]; decide), if_neg (show ¬ ab oo 0 (gD S 0 0 l3.toNat) 63 = 10 by rw [hc]; decide), if_neg (show ¬ ab oo 0 (gD S 0 0 l3.toNat) 63 = 11 by rw [hc]; decide), if_neg (show ¬ ab oo 0 (gD S 0 0 l3.toNat) 63 = 12 by rw [hc]; decide), if_neg (show ¬ ab oo 0 (gD S 0 0 l3.toNat) 63 = 13 by rw [hc]; decide), if_neg (show ¬ ab oo 0 (gD S 0 0 l3.toNat) 63 = 14 by rw [hc]; decide), if_neg (show ¬ ab oo 0 (gD S 0 0 l3.toNat) 63 = 15 by rw [hc]; decide), if_neg (show ¬ ab oo 0 (gD S 0 0 l3.toNat) 63 = 16 by rw [hc]; decide), if_neg (show ¬ ab oo 0 (gD S 0 0 l3.toNat) 63 = 17 by rw [hc]; decide), if_neg (show ¬ ab oo 0 (gD S 0 0 l3.toNat) 63 = 18 by rw [hc]; decide), if_neg (show ¬ ab oo 0 (gD S 0 0 l3.toNat) 63 = 19 by rw [hc]; decide), if_neg (show ¬ ab oo 0 (gD S 0 0 l3.toNat) 63 = 20 by rw [hc]; decide), if_neg (show ¬ ab oo 0 (gD S 0 0 l3.toNat) 63 = 21 by rw [hc]; decide), if_neg (show ¬ ab oo 0 (gD S 0 0 l3.toNat) 63 = 22 by rw [hc]; decide), if_neg (show ¬ ab oo 0 (gD S 0 0 l3.toNat) 63 = 23 by rw [hc]; decide), if_neg (show ¬ ab oo 0 (gD S 0 0 l3.toNat) 63 = 24 by rw [hc]; decide), if_neg (show ¬ ab oo 0 (gD S 0 0 l3.toNat) 63 = 25 by rw [hc]; decide), if_neg (show ¬ ab oo 0 (gD S 0 0 l3.toNat) 63 = 26 by rw [hc]; decide), if_pos hc]
  simp only [e1, e2, e3, e4, e5, e6, e7, g1, c1, c2, c3, c4, c5, c6, if_true, if_false, h1, bI, bL, h2, ab9]
theorem lc_28 {K : KT} {n : Nat} {S S1 S2 : SD} {l3 x : Int} (hlt : ¬ aw oo (gD S 0 1 0 - 7) < l3) (hb : 0 ≤ l3 ∧ l3 + 6 < gD S 0 1 0) (hm : l3 < 100000) (hc : ab oo 0 (gD S 0 0 l3.toNat) 63 = 28) (hg : S1.1 0 = S.1 0) (h1 : K 176 [vr (some (2, 0)), vi (gD S 0 0 (l3 + 1).toNat), vl (ab oo 6 (ab oo 7 (gD S 0 0 (l3 + 2).toNat) 32) (ab oo 5 (gD S 0 0 (l3 + 3).toNat) 4294967295)), vi (gD S 0 0 (l3 + 4).toNat)] S = some (vi x, S1)) (h2 : K 288 [vr (some (85, 0)), vi (gD S 0 0 (l3 + 1).toNat), vl (ab oo 6 (ab oo 7 (gD S 0 0 (l3 + 2).toNat) 32) (ab oo 5 (gD S 0 0 (l3 + 3).toNat) 4294967295)), vi (gD S 0 0 (l3 + 4).toNat)] S1 = some (vi x, S2)) : run oo K false mi_307 (n + 1) 18 [(0, vr (some (0, 0))), (1, vr (some (2, 0))), (2, vr (some (85, 0))), (3, vi l3)] [] S = run oo K false mi_307 n 18 [(0, vr (some (0, 0))), (1, vr (some (2, 0))), (2, vr (some (85, 0))), (3, vi (l3 + 7))] [] S2 := by
  have g1 : ∀ j k, gD S1 0 j k = gD S 0 j k := fun j k => by show S1.1 0 j k = S.1 0 j k; rw [hg]
  have e1 : aw oo (l3 + 1) = l3 + 1 := aw_id (by omega)
  have e2 : aw oo (l3 + 2) = l3 + 2 := aw_id (by omega)
  have e3 : aw oo (l3 + 3) = l3 + 3 := aw_id (by omega)
  have e4 : aw oo (l3 + 4) = l3 + 4 := aw_id (by omega)
  have e5 : aw oo (l3 + 5) = l3 + 5 := aw_id (by omega)
  have e6 : aw oo (l3 + 6) = l3 + 6 := aw_id (by omega)
  have e7 : aw oo (l3 + 7) = l3 + 7 := aw_id (by omega)
  have c1 : (0 ≤ l3 + 1 ∧ l3 + 1 < gD S 0 1 0) = True := eq_true ⟨by omega, by omega⟩
  have c2 : (0 ≤ l3 + 2 ∧ l3 + 2 < gD S 0 1 0) = True := eq_true ⟨by omega, by omega⟩
  have c3 : (0 ≤ l3 + 3 ∧ l3 + 3 < gD S 0 1 0) = True := eq_true ⟨by omega, by omega⟩
  have c4 : (0 ≤ l3 + 4 ∧ l3 + 4 < gD S 0 1 0) = True := eq_true ⟨by omega, by omega⟩
  have c5 : (0 ≤ l3 + 5 ∧ l3 + 5 < gD S 0 1 0) = True := eq_true ⟨by omega, by omega⟩
  have c6 : (0 ≤ l3 + 6 ∧ l3 + 6 < gD S 0 1 0) = True := eq_true ⟨by omega, by omega⟩
  rw [b307_18, if_neg hlt, if_pos (show 0 ≤ l3 ∧ l3 < gD S 0 1 0 by omega), if_neg (show ¬ ab oo 0 (gD S 0 0 l3.toNat) 63 = 0 by rw [hc]; decide), if_neg (show ¬ ab oo 0 (gD S 0 0 l3.toNat) 63 = 1 by rw [hc]; decide), if_neg (show ¬ ab oo 0 (gD S 0 0 l3.toNat) 63 = 2 by rw [hc]; decide), if_neg (show ¬ ab oo 0 (gD S 0 0 l3.toNat) 63 = 3 by rw [hc]; decide), if_neg (show ¬ ab oo 0 (gD S 0 0 l3.toNat) 63 = 4 by rw [hc]; decide), if_neg (show ¬ ab oo 0 (gD S 0 0 l3.toNat) 63 = 5 by rw [hc]; decide), if_neg (show ¬ ab oo 0 (gD S 0 0 l3.toNat) 63 = 6 by rw [hc]; decide), if_neg (show ¬ ab oo 0 (gD S 0 0 l3.toNat) 63 = 7 by rw [hc]; decide), if_neg (show ¬ ab oo 0 (gD S 0 0 l3.toNat) 63 = 8 by rw [hc]; decide), if_neg (show ¬ ab oo 0 (gD S 0 0 l3.toNat) 63 = 9 by rw [hc]; decide), if_neg (show ¬ ab oo 0 (gD S 0 0 l3.toNat) 63 = 10 by rw [hc]; decide), if_neg (show ¬ ab oo 0 (gD S 0 0 l3.toNat) 63 = 11 by rw [hc]; decide), if_neg (show ¬ ab oo 0 (gD S 0 0 l3.toNat) 63 = 12 by rw [hc]; decide), if_neg (show ¬ ab oo 0 (gD S 0 0 l3.toNat) 63 = 13 by rw [hc]; decide), if_neg (show ¬ ab oo 0 (gD S 0 0 l3.toNat) 63 = 14 by rw [hc]; decide), if_neg (show ¬ ab oo 0 (gD S 0 0 l3.toNat) 63 = 15 by rw [hc]; decide), if_neg (show ¬ ab oo 0 (gD S 0 0 l3.toNat) 63 = 16 by rw [hc]; decide), if_neg (show ¬ ab oo 0 (gD S 0 0 l3.toNat) 63 = 17 by rw [hc]; decide), if_neg (show ¬ ab oo 0 (gD S 0 0 l3.toNat) 63 = 18 by rw [hc]; decide), if_neg (show ¬ ab oo 0 (gD S 0 0 l3.toNat) 63 = 19 by rw [hc]; decide), if_neg (show ¬ ab oo 0 (gD S 0 0 l3.toNat) 63 = 20 by rw [hc]; decide), if_neg (show ¬ ab oo 0 (gD S 0 0 l3.toNat) 63 = 21 by rw [hc]; decide), if_neg (show ¬ ab oo 0 (gD S 0 0 l3.toNat) 63 = 22 by rw [hc]; decide), if_neg (show ¬ ab oo 0 (gD S 0 0 l3.toNat) 63 = 23 by rw [hc]; decide), if_neg (show ¬ ab oo 0 (gD S 0 0 l3.toNat) 63 = 24 by rw [hc]; decide), if_neg (show ¬ ab oo 0 (gD S 0 0 l3.toNat) 63 = 25 by rw [hc]; decide), if_neg (show ¬ ab oo 0 (gD S 0 0 l3.toNat) 63 = 26 by rw [hc]; decide), if_neg (show ¬ ab oo 0 (gD S 0 0 l3.toNat) 63 = 27 by rw [hc]; decide), if_pos hc]
  simp only [e1, e2, e3, e4, e5, e6, e7, g1, c1, c2, c3, c4, c5, c6, if_true, if_false, h1, bI, bL, h2, ab9]
theorem lc_29 {K : KT} {n : Nat} {S S1 S2 : SD} {l3 x : Int} (hlt : ¬ aw oo (gD S 0 1 0 - 7) < l3) (hb : 0 ≤ l3 ∧ l3 + 6 < gD S 0 1 0) (hm : l3 < 100000) (hc : ab oo 0 (gD S 0 0 l3.toNat) 63 = 29) (hg : S1.1 0 = S.1 0) (h1 : K 177 [vr (some (2, 0)), vi (gD S 0 0 (l3 + 1).toNat), vi (gD S 0 0 (l3 + 2).toNat)] S = some (vi x, S1)) (h2 : K 291 [vr (some (85, 0)), vi (gD S 0 0 (l3 + 1).toNat), vi (gD S 0 0 (l3 + 2).toNat)] S1 = some (vi x, S2)) : run oo K false mi_307 (n + 1) 18 [(0, vr (some (0, 0))), (1, vr (some (2, 0))), (2, vr (some (85, 0))), (3, vi l3)] [] S = run oo K false mi_307 n 18 [(0, vr (some (0, 0))), (1, vr (some (2, 0))), (2, vr (some (85, 0))), (3, vi (l3 + 7))] [] S2 := by
  have g1 : ∀ j k, gD S1 0 j k = gD S 0 j k := fun j k => by show S1.1 0 j k = S.1 0 j k; rw [hg]
  have e1 : aw oo (l3 + 1) = l3 + 1 := aw_id (by omega)
  have e2 : aw oo (l3 + 2) = l3 + 2 := aw_id (by omega)
  have e3 : aw oo (l3 + 3) = l3 + 3 := aw_id (by omega)
  have e4 : aw oo (l3 + 4) = l3 + 4 := aw_id (by omega)
  have e5 : aw oo (l3 + 5) = l3 + 5 := aw_id (by omega)
  have e6 : aw oo (l3 + 6) = l3 + 6 := aw_id (by omega)
  have e7 : aw oo (l3 + 7) = l3 + 7 := aw_id (by omega)
  have c1 : (0 ≤ l3 + 1 ∧ l3 + 1 < gD S 0 1 0) = True := eq_true ⟨by omega, by omega⟩
  have c2 : (0 ≤ l3 + 2 ∧ l3 + 2 < gD S 0 1 0) = True := eq_true ⟨by omega, by omega⟩
  have c3 : (0 ≤ l3 + 3 ∧ l3 + 3 < gD S 0 1 0) = True := eq_true ⟨by omega, by omega⟩
  have c4 : (0 ≤ l3 + 4 ∧ l3 + 4 < gD S 0 1 0) = True := eq_true ⟨by omega, by omega⟩
  have c5 : (0 ≤ l3 + 5 ∧ l3 + 5 < gD S 0 1 0) = True := eq_true ⟨by omega, by omega⟩
  have c6 : (0 ≤ l3 + 6 ∧ l3 + 6 < gD S 0 1 0) = True := eq_true ⟨by omega, by omega⟩
  rw [b307_18, if_neg hlt, if_pos (show 0 ≤ l3 ∧ l3 < gD S 0 1 0 by omega), if_neg (show ¬ ab oo 0 (gD S 0 0 l3.toNat) 63 = 0 by rw [hc]; decide), if_neg (show ¬ ab oo 0 (gD S 0 0 l3.toNat) 63 = 1 by rw [hc]; decide), if_neg (show ¬ ab oo 0 (gD S 0 0 l3.toNat) 63 = 2 by rw [hc]; decide), if_neg (show ¬ ab oo 0 (gD S 0 0 l3.toNat) 63 = 3 by rw [hc]; decide), if_neg (show ¬ ab oo 0 (gD S 0 0 l3.toNat) 63 = 4 by rw [hc]; decide), if_neg (show ¬ ab oo 0 (gD S 0 0 l3.toNat) 63 = 5 by rw [hc]; decide), if_neg (show ¬ ab oo 0 (gD S 0 0 l3.toNat) 63 = 6 by rw [hc]; decide), if_neg (show ¬ ab oo 0 (gD S 0 0 l3.toNat) 63 = 7 by rw [hc]; decide), if_neg (show ¬ ab oo 0 (gD S 0 0 l3.toNat) 63 = 8 by rw [hc]; decide), if_neg (show ¬ ab oo 0 (gD S 0 0 l3.toNat) 63 = 9 by rw [hc]; decide), if_neg (show ¬ ab oo 0 (gD S 0 0 l3.toNat) 63 = 10 by rw [hc]; decide), if_neg (show ¬ ab oo 0 (gD S 0 0 l3.toNat) 63 = 11 by rw [hc]; decide), if_neg (show ¬ ab oo 0 (gD S 0 0 l3.toNat) 63 = 12 by rw [hc]; decide), if_neg (show ¬ ab oo 0 (gD S 0 0 l3.toNat) 63 = 13 by rw [hc]; decide), if_neg (show ¬ ab oo 0 (gD S 0 0 l3.toNat) 63 = 14 by rw [hc]; decide), if_neg (show ¬ ab oo 0 (gD S 0 0 l3.toNat) 63 = 15 by rw [hc]; decide), if_neg (show ¬ ab oo 0 (gD S 0 0 l3.toNat) 63 = 16 by rw [hc]; decide), if_neg (show ¬ ab oo 0 (gD S 0 0 l3.toNat) 63 = 17 by rw [hc]; decide), if_neg (show ¬ ab oo 0 (gD S 0 0 l3.toNat) 63 = 18 by rw [hc]; decide), if_neg (show ¬ ab oo 0 (gD S 0 0 l3.toNat) 63 = 19 by rw [hc]; decide), if_neg (show ¬ ab oo 0 (gD S 0 0 l3.toNat) 63 = 20 by rw [hc]; decide), if_neg (show ¬ ab oo 0 (gD S 0 0 l3.toNat) 63 = 21 by rw [hc]; decide), if_neg (show ¬ ab oo 0 (gD S 0 0 l3.toNat) 63 = 22 by rw [hc]; decide), if_neg (show ¬ ab oo 0 (gD S 0 0 l3.toNat) 63 = 23 by rw [hc]; decide), if_neg (show ¬ ab oo 0 (gD S 0 0 l3.toNat) 63 = 24 by rw [hc]; decide), if_neg (show ¬ ab oo 0 (gD S 0 0 l3.toNat) 63 = 25 by rw [hc]; decide), if_neg (show ¬ ab oo 0 (gD S 0 0 l3.toNat) 63 = 26 by rw [hc]; decide), if_neg (show ¬ ab oo 0 (gD S 0 0 l3.toNat) 63 = 27 by rw [hc]; decide), if_neg (show ¬ ab oo 0 (gD S 0 0 l3.toNat) 63 = 28 by rw [hc]; decide), if_pos hc]
  simp only [e1, e2, e3, e4, e5, e6, e7, g1, c1, c2, c3, c4, c5, c6, if_true, if_false, h1, bI, bL, h2, ab9]
theorem lc_30 {K : KT} {n : Nat} {S S1 S2 : SD} {l3 x : Int} (hlt : ¬ aw oo (gD S 0 1 0 - 7) < l3) (hb : 0 ≤ l3 ∧ l3 + 6 < gD S 0 1 0) (hm : l3 < 100000) (hc : ab oo 0 (gD S 0 0 l3.toNat) 63 = 30) (hg : S1.1 0 = S.1 0) (h1 : K 178 [vr (some (2, 0)), vi (gD S 0 0 (l3 + 1).toNat)] S = some (vi x, S1)) (h2 : K 292 [vr (some (85, 0)), vi (gD S 0 0 (l3 + 1).toNat)] S1 = some (vi x, S2)) : run oo K false mi_307 (n + 1) 18 [(0, vr (some (0, 0))), (1, vr (some (2, 0))), (2, vr (some (85, 0))), (3, vi l3)] [] S = run oo K false mi_307 n 18 [(0, vr (some (0, 0))), (1, vr (some (2, 0))), (2, vr (some (85, 0))), (3, vi (l3 + 7))] [] S2 := by
  have g1 : ∀ j k, gD S1 0 j k = gD S 0 j k := fun j k => by show S1.1 0 j k = S.1 0 j k; rw [hg]
  have e1 : aw oo (l3 + 1) = l3 + 1 := aw_id (by omega)
  have e2 : aw oo (l3 + 2) = l3 + 2 := aw_id (by omega)
  have e3 : aw oo (l3 + 3) = l3 + 3 := aw_id (by omega)
  have e4 : aw oo (l3 + 4) = l3 + 4 := aw_id (by omega)
  have e5 : aw oo (l3 + 5) = l3 + 5 := aw_id (by omega)
  have e6 : aw oo (l3 + 6) = l3 + 6 := aw_id (by omega)
  have e7 : aw oo (l3 + 7) = l3 + 7 := aw_id (by omega)
  have c1 : (0 ≤ l3 + 1 ∧ l3 + 1 < gD S 0 1 0) = True := eq_true ⟨by omega, by omega⟩
  have c2 : (0 ≤ l3 + 2 ∧ l3 + 2 < gD S 0 1 0) = True := eq_true ⟨by omega, by omega⟩
  have c3 : (0 ≤ l3 + 3 ∧ l3 + 3 < gD S 0 1 0) = True := eq_true ⟨by omega, by omega⟩
  have c4 : (0 ≤ l3 + 4 ∧ l3 + 4 < gD S 0 1 0) = True := eq_true ⟨by omega, by omega⟩
  have c5 : (0 ≤ l3 + 5 ∧ l3 + 5 < gD S 0 1 0) = True := eq_true ⟨by omega, by omega⟩
  have c6 : (0 ≤ l3 + 6 ∧ l3 + 6 < gD S 0 1 0) = True := eq_true ⟨by omega, by omega⟩
  rw [b307_18, if_neg hlt, if_pos (show 0 ≤ l3 ∧ l3 < gD S 0 1 0 by omega), if_neg (show ¬ ab oo 0 (gD S 0 0 l3.toNat) 63 = 0 by rw [hc]; decide), if_neg (show ¬ ab oo 0 (gD S 0 0 l3.toNat) 63 = 1 by rw [hc]; decide), if_neg (show ¬ ab oo 0 (gD S 0 0 l3.toNat) 63 = 2 by rw [hc]; decide), if_neg (show ¬ ab oo 0 (gD S 0 0 l3.toNat) 63 = 3 by rw [hc]; decide), if_neg (show ¬ ab oo 0 (gD S 0 0 l3.toNat) 63 = 4 by rw [hc]; decide), if_neg (show ¬ ab oo 0 (gD S 0 0 l3.toNat) 63 = 5 by rw [hc]; decide), if_neg (show ¬ ab oo 0 (gD S 0 0 l3.toNat) 63 = 6 by rw [hc]; decide), if_neg (show ¬ ab oo 0 (gD S 0 0 l3.toNat) 63 = 7 by rw [hc]; decide), if_neg (show ¬ ab oo 0 (gD S 0 0 l3.toNat) 63 = 8 by rw [hc]; decide), if_neg (show ¬ ab oo 0 (gD S 0 0 l3.toNat) 63 = 9 by rw [hc]; decide), if_neg (show ¬ ab oo 0 (gD S 0 0 l3.toNat) 63 = 10 by rw [hc]; decide), if_neg (show ¬ ab oo 0 (gD S 0 0 l3.toNat) 63 = 11 by rw [hc]; decide), if_neg (show ¬ ab oo 0 (gD S 0 0 l3.toNat) 63 = 12 by rw [hc]; decide), if_neg (show ¬ ab oo 0 (gD S 0 0 l3.toNat) 63 = 13 by rw [hc]; decide), if_neg (show ¬ ab oo 0 (gD S 0 0 l3.toNat) 63 = 14 by rw [hc]; decide), if_neg (show ¬ ab oo 0 (gD S 0 0 l3.toNat) 63 = 15 by rw [hc]; decide), if_neg (show ¬ ab oo 0 (gD S 0 0 l3.toNat) 63 = 16 by rw [hc]; decide), if_neg (show ¬ ab oo 0 (gD S 0 0 l3.toNat) 63 = 17 by rw [hc]; decide), if_neg (show ¬ ab oo 0 (gD S 0 0 l3.toNat) 63 = 18 by rw [hc]; decide), if_neg (show ¬ ab oo 0 (gD S 0 0 l3.toNat) 63 = 19 by rw [hc]; decide), if_neg (show ¬ ab oo 0 (gD S 0 0 l3.toNat) 63 = 20 by rw [hc]; decide), if_neg (show ¬ ab oo 0 (gD S 0 0 l3.toNat) 63 = 21 by rw [hc]; decide), if_neg (show ¬ ab oo 0 (gD S 0 0 l3.toNat) 63 = 22 by rw [hc]; decide), if_neg (show ¬ ab oo 0 (gD S 0 0 l3.toNat) 63 = 23 by rw [hc]; decide), if_neg (show ¬ ab oo 0 (gD S 0 0 l3.toNat) 63 = 24 by rw [hc]; decide), if_neg (show ¬ ab oo 0 (gD S 0 0 l3.toNat) 63 = 25 by rw [hc]; decide), if_neg (show ¬ ab oo 0 (gD S 0 0 l3.toNat) 63 = 26 by rw [hc]; decide), if_neg (show ¬ ab oo 0 (gD S 0 0 l3.toNat) 63 = 27 by rw [hc]; decide), if_neg (show ¬ ab oo 0 (gD S 0 0 l3.toNat) 63 = 28 by rw [hc]; decide), if_neg (show ¬ ab oo 0 (gD S 0 0 l3.toNat) 63 = 29 by rw [hc]; decide), if_pos hc]
  simp only [e1, e2, e3, e4, e5, e6, e7, g1, c1, c2, c3, c4, c5, c6, if_true, if_false, h1, bI, bL, h2, ab9]
theorem lc_31 {K : KT} {n : Nat} {S S1 S2 : SD} {l3 x : Int} (hlt : ¬ aw oo (gD S 0 1 0 - 7) < l3) (hb : 0 ≤ l3 ∧ l3 + 6 < gD S 0 1 0) (hm : l3 < 100000) (hc : ab oo 0 (gD S 0 0 l3.toNat) 63 = 31) (hg : S1.1 0 = S.1 0) (h1 : K 179 [vr (some (2, 0))] S = some (vl x, S1)) (h2 : K 293 [vr (some (85, 0))] S1 = some (vl x, S2)) : run oo K false mi_307 (n + 1) 18 [(0, vr (some (0, 0))), (1, vr (some (2, 0))), (2, vr (some (85, 0))), (3, vi l3)] [] S = run oo K false mi_307 n 18 [(0, vr (some (0, 0))), (1, vr (some (2, 0))), (2, vr (some (85, 0))), (3, vi (l3 + 7))] [] S2 := by
  have g1 : ∀ j k, gD S1 0 j k = gD S 0 j k := fun j k => by show S1.1 0 j k = S.1 0 j k; rw [hg]
  have e1 : aw oo (l3 + 1) = l3 + 1 := aw_id (by omega)
  have e2 : aw oo (l3 + 2) = l3 + 2 := aw_id (by omega)
  have e3 : aw oo (l3 + 3) = l3 + 3 := aw_id (by omega)
  have e4 : aw oo (l3 + 4) = l3 + 4 := aw_id (by omega)
  have e5 : aw oo (l3 + 5) = l3 + 5 := aw_id (by omega)
  have e6 : aw oo (l3 + 6) = l3 + 6 := aw_id (by omega)
  have e7 : aw oo (l3 + 7) = l3 + 7 := aw_id (by omega)
  have c1 : (0 ≤ l3 + 1 ∧ l3 + 1 < gD S 0 1 0) = True := eq_true ⟨by omega, by omega⟩
  have c2 : (0 ≤ l3 + 2 ∧ l3 + 2 < gD S 0 1 0) = True := eq_true ⟨by omega, by omega⟩
  have c3 : (0 ≤ l3 + 3 ∧ l3 + 3 < gD S 0 1 0) = True := eq_true ⟨by omega, by omega⟩
  have c4 : (0 ≤ l3 + 4 ∧ l3 + 4 < gD S 0 1 0) = True := eq_true ⟨by omega, by omega⟩
  have c5 : (0 ≤ l3 + 5 ∧ l3 + 5 < gD S 0 1 0) = True := eq_true ⟨by omega, by omega⟩
  have c6 : (0 ≤ l3 + 6 ∧ l3 + 6 < gD S 0 1 0) = True := eq_true ⟨by omega, by omega⟩
  rw [b307_18, if_neg hlt, if_pos (show 0 ≤ l3 ∧ l3 < gD S 0 1 0 by omega), if_neg (show ¬ ab oo 0 (gD S 0 0 l3.toNat) 63 = 0 by rw [hc]; decide), if_neg (show ¬ ab oo 0 (gD S 0 0 l3.toNat) 63 = 1 by rw [hc]; decide), if_neg (show ¬ ab oo 0 (gD S 0 0 l3.toNat) 63 = 2 by rw [hc]; decide), if_neg (show ¬ ab oo 0 (gD S 0 0 l3.toNat) 63 = 3 by rw [hc]; decide), if_neg (show ¬ ab oo 0 (gD S 0 0 l3.toNat) 63 = 4 by rw [hc]; decide), if_neg (show ¬ ab oo 0 (gD S 0 0 l3.toNat) 63 = 5 by rw [hc]; decide), if_neg (show ¬ ab oo 0 (gD S 0 0 l3.toNat) 63 = 6 by rw [hc]; decide), if_neg (show ¬ ab oo 0 (gD S 0 0 l3.toNat) 63 = 7 by rw [hc]; decide), if_neg (show ¬ ab oo 0 (gD S 0 0 l3.toNat) 63 = 8 by rw [hc]; decide), if_neg (show ¬ ab oo 0 (gD S 0 0 l3.toNat) 63 = 9 by rw [hc]; decide), if_neg (show ¬ ab oo 0 (gD S 0 0 l3.toNat) 63 = 10 by rw [hc]; decide), if_neg (show ¬ ab oo 0 (gD S 0 0 l3.toNat) 63 = 11 by rw [hc]; decide), if_neg (show ¬ ab oo 0 (gD S 0 0 l3.toNat) 63 = 12 by rw [hc]; decide), if_neg (show ¬ ab oo 0 (gD S 0 0 l3.toNat) 63 = 13 by rw [hc]; decide), if_neg (show ¬ ab oo 0 (gD S 0 0 l3.toNat) 63 = 14 by rw [hc]; decide), if_neg (show ¬ ab oo 0 (gD S 0 0 l3.toNat) 63 = 15 by rw [hc]; decide), if_neg (show ¬ ab oo 0 (gD S 0 0 l3.toNat) 63 = 16 by rw [hc]; decide), if_neg (show ¬ ab oo 0 (gD S 0 0 l3.toNat) 63 = 17 by rw [hc]; decide), if_neg (show ¬ ab oo 0 (gD S 0 0 l3.toNat) 63 = 18 by rw [hc]; decide), if_neg (show ¬ ab oo 0 (gD S 0 0 l3.toNat) 63 = 19 by rw [hc]; decide), if_neg (show ¬ ab oo 0 (gD S 0 0 l3.toNat) 63 = 20 by rw [hc]; decide), if_neg (show ¬ ab oo 0 (gD S 0 0 l3.toNat) 63 = 21 by rw [hc]; decide), if_neg (show ¬ ab oo 0 (gD S 0 0 l3.toNat) 63 = 22 by rw [hc]; decide), if_neg (show ¬ ab oo 0 (gD S 0 0 l3.toNat) 63 = 23 by rw [hc]; decide), if_neg (show ¬ ab oo 0 (gD S 0 0 l3.toNat) 63 = 24 by rw [hc]; decide), if_neg (show ¬ ab oo 0 (gD S 0 0 l3.toNat) 63 = 25 by rw [hc]; decide), if_neg (show ¬ ab oo 0 (gD S 0 0 l3.toNat) 63 = 26 by rw [hc]; decide), if_neg (show ¬ ab oo 0 (gD S 0 0 l3.toNat) 63 = 27 by rw [hc]; decide), if_neg (show ¬ ab oo 0 (gD S 0 0 l3.toNat) 63 = 28 by rw [hc]; decide), if_neg (show ¬ ab oo 0 (gD S 0 0 l3.toNat) 63 = 29 by rw [hc]; decide), if_neg (show ¬ ab oo 0 (gD S 0 0 l3.toNat) 63 = 30 by rw [hc]; decide), if_pos hc]
  simp only [e1, e2, e3, e4, e5, e6, e7, g1, c1, c2, c3, c4, c5, c6, if_true, if_false, h1, bI, bL, h2, ab9]
theorem lc_32 {K : KT} {n : Nat} {S S1 S2 : SD} {l3 x : Int} (hlt : ¬ aw oo (gD S 0 1 0 - 7) < l3) (hb : 0 ≤ l3 ∧ l3 + 6 < gD S 0 1 0) (hm : l3 < 100000) (hc : ab oo 0 (gD S 0 0 l3.toNat) 63 = 32) (hg : S1.1 0 = S.1 0) (h1 : K 180 [vr (some (2, 0)), vi (gD S 0 0 (l3 + 1).toNat), vi (gD S 0 0 (l3 + 2).toNat)] S = some (vi x, S1)) (h2 : K 295 [vr (some (85, 0)), vi (gD S 0 0 (l3 + 1).toNat), vi (gD S 0 0 (l3 + 2).toNat)] S1 = some (vi x, S2)) : run oo K false mi_307 (n + 1) 18 [(0, vr (some (0, 0))), (1, vr (some (2, 0))), (2, vr (some (85, 0))), (3, vi l3)] [] S = run oo K false mi_307 n 18 [(0, vr (some (0, 0))), (1, vr (some (2, 0))), (2, vr (some (85, 0))), (3, vi (l3 + 7))] [] S2 := by
  have g1 : ∀ j k, gD S1 0 j k = gD S 0 j k := fun j k => by show S1.1 0 j k = S.1 0 j k; rw [hg]
  have e1 : aw oo (l3 + 1) = l3 + 1 := aw_id (by omega)
  have e2 : aw oo (l3 + 2) = l3 + 2 := aw_id (by omega)
  have e3 : aw oo (l3 + 3) = l3 + 3 := aw_id (by omega)
  have e4 : aw oo (l3 + 4) = l3 + 4 := aw_id (by omega)
  have e5 : aw oo (l3 + 5) = l3 + 5 := aw_id (by omega)
  have e6 : aw oo (l3 + 6) = l3 + 6 := aw_id (by omega)
  have e7 : aw oo (l3 + 7) = l3 + 7 := aw_id (by omega)
  have c1 : (0 ≤ l3 + 1 ∧ l3 + 1 < gD S 0 1 0) = True := eq_true ⟨by omega, by omega⟩
  have c2 : (0 ≤ l3 + 2 ∧ l3 + 2 < gD S 0 1 0) = True := eq_true ⟨by omega, by omega⟩
  have c3 : (0 ≤ l3 + 3 ∧ l3 + 3 < gD S 0 1 0) = True := eq_true ⟨by omega, by omega⟩
  have c4 : (0 ≤ l3 + 4 ∧ l3 + 4 < gD S 0 1 0) = True := eq_true ⟨by omega, by omega⟩
  have c5 : (0 ≤ l3 + 5 ∧ l3 + 5 < gD S 0 1 0) = True := eq_true ⟨by omega, by omega⟩
  have c6 : (0 ≤ l3 + 6 ∧ l3 + 6 < gD S 0 1 0) = True := eq_true ⟨by omega, by omega⟩
  rw [b307_18, if_neg hlt, if_pos (show 0 ≤ l3 ∧ l3 < gD S 0 1 0 by omega), if_neg (show ¬ ab oo 0 (gD S 0 0 l3.toNat) 63 = 0 by rw [hc]; decide), if_neg (show ¬ ab oo 0 (gD S 0 0 l3.toNat) 63 = 1 by rw [hc]; decide), if_neg (show ¬ ab oo 0 (gD S 0 0 l3.toNat) 63 = 2 by rw [hc]; decide), if_neg (show ¬ ab oo 0 (gD S 0 0 l3.toNat) 63 = 3 by rw [hc]; decide), if_neg (show ¬ ab oo 0 (gD S 0 0 l3.toNat) 63 = 4 by rw [hc]; decide), if_neg (show ¬ ab oo 0 (gD S 0 0 l3.toNat) 63 = 5 by rw [hc]; decide), if_neg (show ¬ ab oo 0 (gD S 0 0 l3.toNat) 63 = 6 by rw [hc]; decide), if_neg (show ¬ ab oo 0 (gD S 0 0 l3.toNat) 63 = 7 by rw [hc]; decide), if_neg (show ¬ ab oo 0 (gD S 0 0 l3.toNat) 63 = 8 by rw [hc]; decide), if_neg (show ¬ ab oo 0 (gD S 0 0 l3.toNat) 63 = 9 by rw [hc]; decide), if_neg (show ¬ ab oo 0 (gD S 0 0 l3.toNat) 63 = 10 by rw [hc]; decide), if_neg (show ¬ ab oo 0 (gD S 0 0 l3.toNat) 63 = 11 by rw [hc]; decide), if_neg (show ¬ ab oo 0 (gD S 0 0 l3.toNat) 63 = 12 by rw [hc]; decide), if_neg (show ¬ ab oo 0 (gD S 0 0 l3.toNat) 63 = 13 by rw [hc]; decide), if_neg (show ¬ ab oo 0 (gD S 0 0 l3.toNat) 63 = 14 by rw [hc]; decide), if_neg (show ¬ ab oo 0 (gD S 0 0 l3.toNat) 63 = 15 by rw [hc]; decide), if_neg (show ¬ ab oo 0 (gD S 0 0 l3.toNat) 63 = 16 by rw [hc]; decide), if_neg (show ¬ ab oo 0 (gD S 0 0 l3.toNat) 63 = 17 by rw [hc]; decide), if_neg (show ¬ ab oo 0 (gD S 0 0 l3.toNat) 63 = 18 by rw [hc]; decide), if_neg (show ¬ ab oo 0 (gD S 0 0 l3.toNat) 63 = 19 by rw [hc]; decide), if_neg (show ¬ ab oo 0 (gD S 0 0 l3.toNat) 63 = 20 by rw [hc]; decide), if_neg (show ¬ ab oo 0 (gD S 0 0 l3.toNat) 63 = 21 by rw [hc]; decide), if_neg (show ¬ ab oo 0 (gD S 0 0 l3.toNat) 63 = 22 by rw [hc]; decide), if_neg (show ¬ ab oo 0 (gD S 0 0 l3.toNat) 63 = 23 by rw [hc]; decide), if_neg (show ¬ ab oo 0 (gD S 0 0 l3.toNat) 63 = 24 by rw [hc]; decide), if_neg (show ¬ ab oo 0 (gD S 0 0 l3.toNat) 63 = 25 by rw [hc]; decide), if_neg (show ¬ ab oo 0 (gD S 0 0 l3.toNat) 63 = 26 by rw [hc]; decide), if_neg (show ¬ ab oo 0 (gD S 0 0 l3.toNat) 63 = 27 by rw [hc]; decide), if_neg (show ¬ ab oo 0 (gD S 0 0 l3.toNat) 63 = 28 by rw [hc]; decide), if_neg (show ¬ ab oo 0 (gD S 0 0 l3.toNat) 63 = 29 by rw [hc]; decide), if_neg (show ¬ ab oo 0 (gD S 0 0 l3.toNat) 63 = 30 by rw [hc]; decide), if_neg (show ¬ ab oo 0 (gD S 0 0 l3.toNat) 63 = 31 by rw [hc]; decide), if_pos hc]
  simp only [e1, e2, e3, e4, e5, e6, e7, g1, c1, c2, c3, c4, c5, c6, if_true, if_false, h1, bI, bL, h2, ab9]
theorem lc_33 {K : KT} {n : Nat} {S S1 S2 : SD} {l3 x : Int} (hlt : ¬ aw oo (gD S 0 1 0 - 7) < l3) (hb : 0 ≤ l3 ∧ l3 + 6 < gD S 0 1 0) (hm : l3 < 100000) (hc : ab oo 0 (gD S 0 0 l3.toNat) 63 = 33) (hg : S1.1 0 = S.1 0) (h1 : K 181 [vr (some (2, 0)), vi (gD S 0 0 (l3 + 1).toNat), vi (gD S 0 0 (l3 + 2).toNat), vi (gD S 0 0 (l3 + 3).toNat)] S = some (vi x, S1)) (h2 : K 296 [vr (some (85, 0)), vi (gD S 0 0 (l3 + 1).toNat), vi (gD S 0 0 (l3 + 2).toNat), vi (gD S 0 0 (l3 + 3).toNat)] S1 = some (vi x, S2)) : run oo K false mi_307 (n + 1) 18 [(0, vr (some (0, 0))), (1, vr (some (2, 0))), (2, vr (some (85, 0))), (3, vi l3)] [] S = run oo K false mi_307 n 18 [(0, vr (some (0, 0))), (1, vr (some (2, 0))), (2, vr (some (85, 0))), (3, vi (l3 + 7))] [] S2 := by
  have g1 : ∀ j k, gD S1 0 j k = gD S 0 j k := fun j k => by show S1.1 0 j k = S.1 0 j k; rw [hg]
  have e1 : aw oo (l3 + 1) = l3 + 1 := aw_id (by omega)
  have e2 : aw oo (l3 + 2) = l3 + 2 := aw_id (by omega)
  have e3 : aw oo (l3 + 3) = l3 + 3 := aw_id (by omega)
  have e4 : aw oo (l3 + 4) = l3 + 4 := aw_id (by omega)
  have e5 : aw oo (l3 + 5) = l3 + 5 := aw_id (by omega)
  have e6 : aw oo (l3 + 6) = l3 + 6 := aw_id (by omega)
  have e7 : aw oo (l3 + 7) = l3 + 7 := aw_id (by omega)
  have c1 : (0 ≤ l3 + 1 ∧ l3 + 1 < gD S 0 1 0) = True := eq_true ⟨by omega, by omega⟩
  have c2 : (0 ≤ l3 + 2 ∧ l3 + 2 < gD S 0 1 0) = True := eq_true ⟨by omega, by omega⟩
  have c3 : (0 ≤ l3 + 3 ∧ l3 + 3 < gD S 0 1 0) = True := eq_true ⟨by omega, by omega⟩
  have c4 : (0 ≤ l3 + 4 ∧ l3 + 4 < gD S 0 1 0) = True := eq_true ⟨by omega, by omega⟩
  have c5 : (0 ≤ l3 + 5 ∧ l3 + 5 < gD S 0 1 0) = True := eq_true ⟨by omega, by omega⟩
  have c6 : (0 ≤ l3 + 6 ∧ l3 + 6 < gD S 0 1 0) = True := eq_true ⟨by omega, by omega⟩
  rw [b307_18, if_neg hlt, if_pos (show 0 ≤ l3 ∧ l3 < gD S 0 1 0 by omega), if_neg (show ¬ ab oo 0 (gD S 0 0 l3.toNat) 63 = 0 by rw [hc]; decide), if_neg (show ¬ ab oo 0 (gD S 0 0 l3.toNat) 63 = 1 by rw [hc]; decide), if_neg (show ¬ ab oo 0 (gD S 0 0 l3.toNat) 63 = 2 by rw [hc]; decide), if_neg (show ¬ ab oo 0 (gD S 0 0 l3.toNat) 63 = 3 by rw [hc]; decide), if_neg (show ¬ ab oo 0 (gD S 0 0 l3.toNat) 63 = 4 by rw [hc]; decide), if_neg (show ¬ ab oo 0 (gD S 0 0 l3.toNat) 63 = 5 by rw [hc]; decide), if_neg (show ¬ ab oo 0 (gD S 0 0 l3.toNat) 63 = 6 by rw [hc]; decide), if_neg (show ¬ ab oo 0 (gD S 0 0 l3.toNat) 63 = 7 by rw [hc]; decide), if_neg (show ¬ ab oo 0 (gD S 0 0 l3.toNat) 63 = 8 by rw [hc]; decide), if_neg (show ¬ ab oo 0 (gD S 0 0 l3.toNat) 63 = 9 by rw [hc]; decide), if_neg (show ¬ ab oo 0 (gD S 0 0 l3.toNat) 63 = 10 by rw [hc]; decide), if_neg (show ¬ ab oo 0 (gD S 0 0 l3.toNat) 63 = 11 by rw [hc]; decide), if_neg (show ¬ ab oo 0 (gD S 0 0 l3.toNat) 63 = 12 by rw [hc]; decide), if_neg (show ¬ ab oo 0 (gD S 0 0 l3.toNat) 63 = 13 by rw [hc]; decide), if_neg (show ¬ ab oo 0 (gD S 0 0 l3.toNat) 63 = 14 by rw [hc]; decide), if_neg (show ¬ ab oo 0 (gD S 0 0 l3.toNat) 63 = 15 by rw [hc]; decide), if_neg (show ¬ ab oo 0 (gD S 0 0 l3.toNat) 63 = 16 by rw [hc]; decide), if_neg (show ¬ ab oo 0 (gD S 0 0 l3.toNat) 63 = 17 by rw [hc]; decide), if_neg (show ¬ ab oo 0 (gD S 0 0 l3.toNat) 63 = 18 by rw [hc]; decide), if_neg (show ¬ ab oo 0 (gD S 0 0 l3.toNat) 63 = 19 by rw [hc]; decide), if_neg (show ¬ ab oo 0 (gD S 0 0 l3.toNat) 63 = 20 by rw [hc]; decide), if_neg (show ¬ ab oo 0 (gD S 0 0 l3.toNat) 63 = 21 by rw [hc]; decide), if_neg (show ¬ ab oo 0 (gD S 0 0 l3.toNat) 63 = 22 by rw [hc]; decide), if_neg (show ¬ ab oo 0 (gD S 0 0 l3.toNat) 63 = 23 by rw [hc]; decide), if_neg (show ¬ ab oo 0 (gD S 0 0 l3.toNat) 63 = 24 by rw [hc]; decide), if_neg (show ¬ ab oo 0 (gD S 0 0 l3.toNat) 63 = 25 by rw [hc]; decide), if_neg (show ¬ ab oo 0 (gD S 0 0 l3.toNat) 63 = 26 by rw [hc]; decide), if_neg (show ¬ ab oo 0 (gD S 0 0 l3.toNat) 63 = 27 by rw [hc]; decide), if_neg (show ¬ ab oo 0 (gD S 0 0 l3.toNat) 63 = 28 by rw [hc]; decide), if_neg (show ¬ ab oo 0 (gD S 0 0 l3.toNat) 63 = 29 by rw [hc]; decide), if_neg (show ¬ ab oo 0 (gD S 0 0 l3.toNat) 63 = 30 by rw [hc]; decide), if_neg (show ¬ ab oo 0 (gD S 0 0 l3.toNat) 63 = 31 by rw [hc]; decide), if_neg (show ¬ ab oo 0 (gD S 0 0 l3.toNat) 63 = 32 by rw [hc]; decide), if_pos hc]
  simp only [e1, e2, e3, e4, e5, e6, e7, g1, c1, c2, c3, c4, c5, c6, if_true, if_false, h1, bI, bL, h2, ab9]
theorem lc_34 {K : KT} {n : Nat} {S S1 S2 : SD} {l3 x : Int} (hlt : ¬ aw oo (gD S 0 1 0 - 7) < l3) (hb : 0 ≤ l3 ∧ l3 + 6 < gD S 0 1 0) (hm : l3 < 100000) (hc : ab oo 0 (gD S 0 0 l3.toNat) 63 = 34) (hg : S1.1 0 = S.1 0) (h1 : K 182 [vr (some (2, 0)), vi (gD S 0 0 (l3 + 1).toNat), vi (gD S 0 0 (l3 + 2).toNat)] S = some (vi x, S1)) (h2 : K 300 [vr (some (85, 0)), vi (gD S 0 0 (l3 + 1).toNat), vi (gD S 0 0 (l3 + 2).toNat)] S1 = some (vi x, S2)) : run oo K false mi_307 (n + 1) 18 [(0, vr (some (0, 0))), (1, vr (some (2, 0))), (2, vr (some (85, 0))), (3, vi l3)] [] S = run oo K false mi_307 n 18 [(0, vr (some (0, 0))), (1, vr (some (2, 0))), (2, vr (some (85, 0))), (3, vi (l3 + 7))] [] S2 := by
  have g1 : ∀ j k, gD S1 0 j k = gD S 0 j k := fun j k => by show S1.1 0 j k = S.1 0 j k; rw [hg]
  have e1 : aw oo (l3 + 1) = l3 + 1 := aw_id (by omega)
  have e2 : aw oo (l3 + 2) = l3 + 2 := aw_id (by omega)
  have e3 : aw oo (l3 + 3) = l3 + 3 := aw_id (by omega)
  have e4 : aw oo (l3 + 4) = l3 + 4 := aw_id (by omega)
  have e5 : aw oo (l3 + 5) = l3 + 5 := aw_id (by omega)
  have e6 : aw oo (l3 + 6) = l3 + 6 := aw_id (by omega)
  have e7 : aw oo (l3 + 7) = l3 + 7 := aw_id (by omega)
  have c1 : (0 ≤ l3 + 1 ∧ l3 + 1 < gD S 0 1 0) = True := eq_true ⟨by omega, by omega⟩
  have c2 : (0 ≤ l3 + 2 ∧ l3 + 2 < gD S 0 1 0) = True := eq_true ⟨by omega, by omega⟩
  have c3 : (0 ≤ l3 + 3 ∧ l3 + 3 < gD S 0 1 0) = True := eq_true ⟨by omega, by omega⟩
  have c4 : (0 ≤ l3 + 4 ∧ l3 + 4 < gD S 0 1 0) = True := eq_true ⟨by omega, by omega⟩
  have c5 : (0 ≤ l3 + 5 ∧ l3 + 5 < gD S 0 1 0) = True := eq_true ⟨by omega, by omega⟩
  have c6 : (0 ≤ l3 + 6 ∧ l3 + 6 < gD S 0 1 0) = True := eq_true ⟨by omega, by omega⟩
  rw [b307_18, if_neg hlt, if_pos (show 0 ≤ l3 ∧ l3 < gD S 0 1 0 by omega), if_neg (show ¬ ab oo 0 (gD S 0 0 l3.toNat) 63 = 0 by rw [hc]; decide), if_neg (show ¬ ab oo 0 (gD S 0 0 l3.toNat) 63 = 1 by rw [hc]; decide), if_neg (show ¬ ab oo 0 (gD S 0 0 l3.toNat) 63 = 2 by rw [hc]; decide), if_neg (show ¬ ab oo 0 (gD S 0 0 l3.toNat) 63 = 3 by rw [hc]; decide), if_neg (show ¬ ab oo 0 (gD S 0 0 l3.toNat) 63 = 4 by rw [hc]; decide), if_neg (show ¬ ab oo 0 (gD S 0 0 l3.toNat) 63 = 5 by rw [hc]; decide), if_neg (show ¬ ab oo 0 (gD S 0 0 l3.toNat) 63 = 6 by rw [hc]; decide), if_neg (show ¬ ab oo 0 (gD S 0 0 l3.toNat) 63 = 7 by rw [hc]; decide), if_neg (show ¬ ab oo 0 (gD S 0 0 l3.toNat) 63 = 8 by rw [hc]; decide), if_neg (show ¬ ab oo 0 (gD S 0 0 l3.toNat) 63 = 9 by rw [hc]; decide), if_neg (show ¬ ab oo 0 (gD S 0 0 l3.toNat) 63 = 10 by rw [hc]; decide), if_neg (show ¬ ab oo 0 (gD S 0 0 l3.toNat) 63 = 11 by rw [hc]; decide), if_neg (show ¬ ab oo 0 (gD S 0 0 l3.toNat) 63 = 12 by rw [hc]; decide), if_neg (show ¬ ab oo 0 (gD S 0 0 l3.toNat) 63 = 13 by rw [hc]; decide), if_neg (show ¬ ab oo 0 (gD S 0 0 l3.toNat) 63 = 14 by rw [hc]; decide), if_neg (show ¬ ab oo 0 (gD S 0 0 l3.toNat) 63 = 15 by rw [hc]; decide), if_neg (show ¬ ab oo 0 (gD S 0 0 l3.toNat) 63 = 16 by rw [hc]; decide), if_neg (show ¬ ab oo 0 (gD S 0 0 l3.toNat) 63 = 17 by rw [hc]; decide), if_neg (show ¬ ab oo 0 (gD S 0 0 l3.toNat) 63 = 18 by rw [hc]; decide), if_neg (show ¬ ab oo 0 (gD S 0 0 l3.toNat) 63 = 19 by rw [hc]; decide), if_neg (show ¬ ab oo 0 (gD S 0 0 l3.toNat) 63 = 20 by rw [hc]; decide), if_neg (show ¬ ab oo 0 (gD S 0 0 l3.toNat) 63 = 21 by rw [hc]; decide), if_neg (show ¬ ab oo 0 (gD S 0 0 l3.toNat) 63 = 22 by rw [hc]; decide), if_neg (show ¬ ab oo 0 (gD S 0 0 l3.toNat) 63 = 23 by rw [hc]; decide), if_neg (show ¬ ab oo 0 (gD S 0 0 l3.toNat) 63 = 24 by rw [hc]; decide), if_neg (show ¬ ab oo 0 (gD S 0 0 l3.toNat) 63 = 25 by rw [hc]; decide), if_neg (show ¬ ab oo 0 (gD S 0 0 l3.toNat) 63 = 26 by rw [hc]; decide), if_neg (show ¬ ab oo 0 (gD S 0 0 l3.toNat) 63 = 27 by rw [hc]; decide), if_neg (show ¬ ab oo 0 (gD S 0 0 l3.toNat) 63 = 28 by rw [hc]; decide), if_neg (show ¬ ab oo 0 (gD S 0 0 l3.toNat) 63 = 29 by rw [hc]; decide), if_neg (show ¬ ab oo 0 (gD S 0 0 l3.toNat) 63 = 30 by rw [hc]; decide), if_neg (show ¬ ab oo 0 (gD S 0 0 l3.toNat) 63 = 31 by rw [hc]; decide), if_neg (show ¬ ab oo 0 (gD S 0 0 l3.toNat) 63 = 32 by rw [hc]; decide), if_neg (show ¬ ab oo 0 (gD S 0 0 l3.toNat) 63 = 33 by rw [hc]; decide), if_pos hc]
  simp only [e1, e2, e3, e4, e5, e6, e7, g1, c1, c2, c3, c4, c5, c6, if_true, if_false, h1, bI, bL, h2, ab9]
theorem lc_35a {K : KT} {n : Nat} {S S1 S2 : SD} {l3 x : Int} (hlt : ¬ aw oo (gD S 0 1 0 - 7) < l3) (hb : 0 ≤ l3 ∧ l3 + 6 < gD S 0 1 0) (hm : l3 < 100000) (hc : ab oo 0 (gD S 0 0 l3.toNat) 63 = 35) (hx : (gD S 0 0 (l3 + 2).toNat = 0) = True) (hg : S1.1 0 = S.1 0) (h1 : K 183 [vr (some (2, 0)), vi (gD S 0 0 (l3 + 1).toNat), vi 0] S = some (vi x, S1)) (h2 : K 301 [vr (some (85, 0)), vi (gD S 0 0 (l3 + 1).toNat), vi 0] S1 = some (vi x, S2)) : run oo K false mi_307 (n + 1) 18 [(0, vr (some (0, 0))), (1, vr (some (2, 0))), (2, vr (some (85, 0))), (3, vi l3)] [] S = run oo K false mi_307 n 18 [(0, vr (some (0, 0))), (1, vr (some (2, 0))), (2, vr (some (85, 0))), (3, vi (l3 + 7))] [] S2 := by
  have g1 : ∀ j k, gD S1 0 j k = gD S 0 j k := fun j k => by show S1.1 0 j k = S.1 0 j k; rw [hg]
  have e1 : aw oo (l3 + 1) = l3 + 1 := aw_id (by omega)
  have e2 : aw oo (l3 + 2) = l3 + 2 := aw_id (by omega)
  have e3 : aw oo (l3 + 3) = l3 + 3 := aw_id (by omega)
  have e4 : aw oo (l3 + 4) = l3 + 4 := aw_id (by omega)
  have e5 : aw oo (l3 + 5) = l3 + 5 := aw_id (by omega)
  have e6 : aw oo (l3 + 6) = l3 + 6 := aw_id (by omega)
  have e7 : aw oo (l3 + 7) = l3 + 7 := aw_id (by omega)
  have c1 : (0 ≤ l3 + 1 ∧ l3 + 1 < gD S 0 1 0) = True := eq_true ⟨by omega, by omega⟩
  have c2 : (0 ≤ l3 + 2 ∧ l3 + 2 < gD S 0 1 0) = True := eq_true ⟨by omega, by omega⟩
  have c3 : (0 ≤ l3 + 3 ∧ l3 + 3 < gD S 0 1 0) = True := eq_true ⟨by omega, by omega⟩
  have c4 : (0 ≤ l3 + 4 ∧ l3 + 4 < gD S 0 1 0) = True := eq_true ⟨by omega, by omega⟩
  have c5 : (0 ≤ l3 + 5 ∧ l3 + 5 < gD S 0 1 0) = True := eq_true ⟨by omega, by omega⟩
  have c6 : (0 ≤ l3 + 6 ∧ l3 + 6 < gD S 0 1 0) = True := eq_true ⟨by omega, by omega⟩
  rw [b307_18, if_neg hlt, if_pos (show 0 ≤ l3 ∧ l3 < gD S 0 1 0 by omega), if_neg (show ¬ ab oo 0 (gD S 0 0 l3.toNat) 63 = 0 by rw [hc]; decide), if_neg (show ¬ ab oo 0 (gD S 0 0 l3.toNat) 63 = 1 by rw [hc]; decide), if_neg (show ¬ ab oo 0 (gD S 0 0 l3.toNat) 63 = 2 by rw [hc]; decide), if_neg (show ¬ ab oo 0 (gD S 0 0 l3.toNat) 63 = 3 by rw [hc]; decide), if_neg (show ¬ ab oo 0 (gD S 0 0 l3.toNat) 63 = 4 by rw [hc]; decide), if_neg (show ¬ ab oo 0 (gD S 0 0 l3.toNat) 63 = 5 by rw [hc]; decide), if_neg (show ¬ ab oo 0 (gD S 0 0 l3.toNat) 63 = 6 by rw [hc]; decide), if_neg (show ¬ ab oo 0 (gD S 0 0 l3.toNat) 63 = 7 by rw [hc]; decide), if_neg (show ¬ ab oo 0 (gD S 0 0 l3.toNat) 63 = 8 by rw [hc]; decide), if_neg (show ¬ ab oo 0 (gD S 0 0 l3.toNat) 63 = 9 by rw [hc]; decide), if_neg (show ¬ ab oo 0 (gD S 0 0 l3.toNat) 63 = 10 by rw [hc]; decide), if_neg (show ¬ ab oo 0 (gD S 0 0 l3.toNat) 63 = 11 by rw [hc]; decide), if_neg (show ¬ ab oo 0 (gD S 0 0 l3.toNat) 63 = 12 by rw [hc]; decide), if_neg (show ¬ ab oo 0 (gD S 0 0 l3.toNat) 63 = 13 by rw [hc]; decide), if_neg (show ¬ ab oo 0 (gD S 0 0 l3.toNat) 63 = 14 by rw [hc]; decide), if_neg (show ¬ ab oo 0 (gD S 0 0 l3.toNat) 63 = 15 by rw [hc]; decide), if_neg (show ¬ ab oo 0 (gD S 0 0 l3.toNat) 63 = 16 by rw [hc]; decide), if_neg (show ¬ ab oo 0 (gD S 0 0 l3.toNat) 63 = 17 by rw [hc]; decide), if_neg (show ¬ ab oo 0 (gD S 0 0 l3.toNat) 63 = 18 by rw [hc]; decide), if_neg (show ¬ ab oo 0 (gD S 0 0 l3.toNat) 63 = 19 by rw [hc]; decide), if_neg (show ¬ ab oo 0 (gD S 0 0 l3.toNat) 63 = 20 by rw [hc]; decide), if_neg (show ¬ ab oo 0 (gD S 0 0 l3.toNat) 63 = 21 by rw [hc]; decide), if_neg (show ¬ ab oo 0 (gD S 0 0 l3.toNat) 63 = 22 by rw [hc]; decide), if_neg (show ¬ ab oo 0 (gD S 0 0 l3.toNat) 63 = 23 by rw [hc]; decide), if_neg (show ¬ ab oo 0 (gD S 0 0 l3.toNat) 63 = 24 by rw [hc]; decide), if_neg (show ¬ ab oo 0 (gD S 0 0 l3.toNat) 63 = 25 by rw [hc]; decide), if_neg (show ¬ ab oo 0 (gD S 0 0 l3.toNat) 63 = 26 by rw [hc]; decide), if_neg (show ¬ ab oo 0 (gD S 0 0 l3.toNat) 63 = 27 by rw [hc]; decide), if_neg (show ¬ ab oo 0 (gD S 0 0 l3.toNat) 63 = 28 by rw [hc]; decide), if_neg (show ¬ ab oo 0 (gD S 0 0 l3.toNat) 63 = 29 by rw [hc]; decide), if_neg (show ¬ ab oo 0 (gD S 0 0 l3.toNat) 63 = 30 by rw [hc]; decide), if_neg (show ¬ ab oo 0 (gD S 0 0 l3.toNat) 63 = 31 by rw [hc]; decide), if_neg (show ¬ ab oo 0 (gD S 0 0 l3.toNat) 63 = 32 by rw [hc]; decide), if_neg (show ¬ ab oo 0 (gD S 0 0 l3.toNat) 63 = 33 by rw [hc]; decide), if_neg (show ¬ ab oo 0 (gD S 0 0 l3.toNat) 63 = 34 by rw [hc]; decide), if_pos hc]
  simp only [e1, e2, e3, e4, e5, e6, e7, g1, c1, c2, c3, c4, c5, c6, if_true, if_false, h1, bI, bL, h2, ab9, hx]
theorem lc_35b {K : KT} {n : Nat} {S S1 S2 : SD} {l3 x : Int} (hlt : ¬ aw oo (gD S 0 1 0 - 7) < l3) (hb : 0 ≤ l3 ∧ l3 + 6 < gD S 0 1 0) (hm : l3 < 100000) (hc : ab oo 0 (gD S 0 0 l3.toNat) 63 = 35) (hx : (gD S 0 0 (l3 + 2).toNat = 0) = False) (hg : S1.1 0 = S.1 0) (h1 : K 183 [vr (some (2, 0)), vi (gD S 0 0 (l3 + 1).toNat), vi 1] S = some (vi x, S1)) (h2 : K 301 [vr (some (85, 0)), vi (gD S 0 0 (l3 + 1).toNat), vi 1] S1 = some (vi x, S2)) : run oo K false mi_307 (n + 1) 18 [(0, vr (some (0, 0))), (1, vr (some (2, 0))), (2, vr (some (85, 0))), (3, vi l3)] [] S = run oo K false mi_307 n 18 [(0, vr (some (0, 0))), (1, vr (some (2, 0))), (2, vr (some (85, 0))), (3, vi (l3 + 7))] [] S2 := by
  have g1 : ∀ j k, gD S1 0 j k = gD S 0 j k := fun j k => by show S1.1 0 j k = S.1 0 j k; rw [hg]
  have e1 : aw oo (l3 + 1) = l3 + 1 := aw_id (by omega)
  have e2 : aw oo (l3 + 2) = l3 + 2 := aw_id (by omega)
  have e3 : aw oo (l3 + 3) = l3 + 3 := aw_id (by omega)
  have e4 : aw oo (l3 + 4) = l3 + 4 := aw_id (by omega)
  have e5 : aw oo (l3 + 5) = l3 + 5 := aw_id (by omega)
  have e6 : aw oo (l3 + 6) = l3 + 6 := aw_id (by omega)
  have e7 : aw oo (l3 + 7) = l3 + 7 := aw_id (by omega)
  have c1 : (0 ≤ l3 + 1 ∧ l3 + 1 < gD S 0 1 0) = True := eq_true ⟨by omega, by omega⟩
  have c2 : (0 ≤ l3 + 2 ∧ l3 + 2 < gD S 0 1 0) = True := eq_true ⟨by omega, by omega⟩
  have c3 : (0 ≤ l3 + 3 ∧ l3 + 3 < gD S 0 1 0) = True := eq_true ⟨by omega, by omega⟩
  have c4 : (0 ≤ l3 + 4 ∧ l3 + 4 < gD S 0 1 0) = True := eq_true ⟨by omega, by omega⟩
  have c5 : (0 ≤ l3 + 5 ∧ l3 + 5 < gD S 0 1 0) = True := eq_true ⟨by omega, by omega⟩
  have c6 : (0 ≤ l3 + 6 ∧ l3 + 6 < gD S 0 1 0) = True := eq_true ⟨by omega, by omega⟩
  rw [b307_18, if_neg hlt, if_pos (show 0 ≤ l3 ∧ l3 < gD S 0 1 0 by omega), if_neg (show ¬ ab oo 0 (gD S 0 0 l3.toNat) 63 = 0 by rw [hc]; decide), if_neg (show ¬ ab oo 0 (gD S 0 0 l3.toNat) 63 = 1 by rw [hc]; decide), if_neg (show ¬ ab oo 0 (gD S 0 0 l3.toNat) 63 = 2 by rw [hc]; decide), if_neg (show ¬ ab oo 0 (gD S 0 0 l3.toNat) 63 = 3 by rw [hc]; decide), if_neg (show ¬ ab oo 0 (gD S 0 0 l3.toNat) 63 = 4 by rw [hc]; decide), if_neg (show ¬ ab oo 0 (gD S 0 0 l3.toNat) 63 = 5 by rw [hc]; decide), if_neg (show ¬ ab oo 0 (gD S 0 0 l3.toNat) 63 = 6 by rw [hc]; decide), if_neg (show ¬ ab oo 0 (gD S 0 0 l3.toNat) 63 = 7 by rw [hc]; decide), if_neg (show ¬ ab oo 0 (gD S 0 0 l3.toNat) 63 = 8 by rw [hc]; decide), if_neg (show ¬ ab oo 0 (gD S 0 0 l3.toNat) 63 = 9 by rw [hc]; decide), if_neg (show ¬ ab oo 0 (gD S 0 0 l3.toNat) 63 = 10 by rw [hc]; decide), if_neg (show ¬ ab oo 0 (gD S 0 0 l3.toNat) 63 = 11 by rw [hc]; decide), if_neg (show ¬ ab oo 0 (gD S 0 0 l3.toNat) 63 = 12 by rw [hc]; decide), if_neg (show ¬ ab oo 0 (gD S 0 0 l3.toNat) 63 = 13 by rw [hc]; decide), if_neg (show ¬ ab oo 0 (gD S 0 0 l3.toNat) 63 = 14 by rw [hc]; decide), if_neg (show ¬ ab oo 0 (gD S 0 0 l3.toNat) 63 = 15 by rw [hc]; decide), if_neg (show ¬ ab oo 0 (gD S 0 0 l3.toNat) 63 = 16 by rw [hc]; decide), if_neg (show ¬ ab oo 0 (gD S 0 0 l3.toNat) 63 = 17 by rw [hc]; decide), if_neg (show ¬ ab oo 0 (gD S 0 0 l3.toNat) 63 = 18 by rw [hc]; decide), if_neg (show ¬ ab oo 0 (gD S 0 0 l3.toNat) 63 = 19 by rw [hc]; decide), if_neg (show ¬ ab oo 0 (gD S 0 0 l3.toNat) 63 = 20 by rw [hc]; decide), if_neg (show ¬ ab oo 0 (gD S 0 0 l3.toNat) 63 = 21 by rw [hc]; decide), if_neg (show ¬ ab oo 0 (gD S 0 0 l3.toNat) 63 = 22 by rw [hc]; decide), if_neg (show ¬ ab oo 0 (gD S 0 0 l3.toNat) 63 = 23 by rw [hc]; decide), if_neg (show ¬ ab oo 0 (gD S 0 0 l3.toNat) 63 = 24 by rw [hc]; decide), if_neg (show ¬ ab oo 0 (gD S 0 0 l3.toNat) 63 = 25 by rw [hc]; decide), if_neg (show ¬ ab oo 0 (gD S 0 0 l3.toNat) 63 = 26 by rw [hc]; decide), if_neg (show ¬ ab oo 0 (gD S 0 0 l3.toNat) 63 = 27 by rw [hc]; decide), if_neg (show ¬ ab oo 0 (gD S 0 0 l3.toNat) 63 = 28 by rw [hc]; decide), if_neg (show ¬ ab oo 0 (gD S 0 0 l3.toNat) 63 = 29 by rw [hc]; decide), if_neg (show ¬ ab oo 0 (gD S 0 0 l3.toNat) 63 = 30 by rw [hc]; decide), if_neg (show ¬ ab oo 0 (gD S 0 0 l3.toNat) 63 = 31 by rw [hc]; decide), if_neg (show ¬ ab oo 0 (gD S 0 0 l3.toNat) 63 = 32 by rw [hc]; decide), if_neg (show ¬ ab oo 0 (gD S 0 0 l3.toNat) 63 = 33 by rw [hc]; decide), if_neg (show ¬ ab oo 0 (gD S 0 0 l3.toNat) 63 = 34 by rw [hc]; decide), if_pos hc]
  simp only [e1, e2, e3, e4, e5, e6, e7, g1, c1, c2, c3, c4, c5, c6, if_true, if_false, h1, bI, bL, h2, ab9, hx]
theorem lc_36 {K : KT} {n : Nat} {S S1 S2 : SD} {l3 x : Int} (hlt : ¬ aw oo (gD S 0 1 0 - 7) < l3) (hb : 0 ≤ l3 ∧ l3 + 6 < gD S 0 1 0) (hm : l3 < 100000) (hc : ab oo 0 (gD S 0 0 l3.toNat) 63 = 36) (hg : S1.1 0 = S.1 0) (h1 : K 184 [vr (some (2, 0)), vi (gD S 0 0 (l3 + 1).toNat)] S = some (vi x, S1)) (h2 : K 302 [vr (some (85, 0)), vi (gD S 0 0 (l3 + 1).toNat)] S1 = some (vi x, S2)) : run oo K false mi_307 (n + 1) 18 [(0, vr (some (0, 0))), (1, vr (some (2, 0))), (2, vr (some (85, 0))), (3, vi l3)] [] S = run oo K false mi_307 n 18 [(0, vr (some (0, 0))), (1, vr (some (2, 0))), (2, vr (some (85, 0))), (3, vi (l3 + 7))] [] S2 := by
  have g1 : ∀ j k, gD S1 0 j k = gD S 0 j k := fun j k => by show S1.1 0 j k = S.1 0 j k; rw [hg]
  have e1 : aw oo (l3 + 1) = l3 + 1 := aw_id (by omega)
  have e2 : aw oo (l3 + 2) = l3 + 2 := aw_id (by omega)
  have e3 : aw oo (l3 + 3) = l3 + 3 := aw_id (by omega)
  have e4 : aw oo (l3 + 4) = l3 + 4 := aw_id (by omega)
  have e5 : aw oo (l3 + 5) = l3 + 5 := aw_id (by omega)
  have e6 : aw oo (l3 + 6) = l3 + 6 := aw_id (by omega)
  have e7 : aw oo (l3 + 7) = l3 + 7 := aw_id (by omega)
  have c1 : (0 ≤ l3 + 1 ∧ l3 + 1 < gD S 0 1 0) = True := eq_true ⟨by omega, by omega⟩
  have c2 : (0 ≤ l3 + 2 ∧ l3 + 2 < gD S 0 1 0) = True := eq_true ⟨by omega, by omega⟩
  have c3 : (0 ≤ l3 + 3 ∧ l3 + 3 < gD S 0 1 0) = True := eq_true ⟨by omega, by omega⟩
  have c4 : (0 ≤ l3 + 4 ∧ l3 + 4 < gD S 0 1 0) = True := eq_true ⟨by omega, by omega⟩
  have c5 : (0 ≤ l3 + 5 ∧ l3 + 5 < gD S 0 1 0) = True := eq_true ⟨by omega, by omega⟩
  have c6 : (0 ≤ l3 + 6 ∧ l3 + 6 < gD S 0 1 0) = True := eq_true ⟨by omega, by omega⟩
  rw [b307_18, if_neg hlt, if_pos (show 0 ≤ l3 ∧ l3 < gD S 0 1 0 by omega), if_neg (show ¬ ab oo 0 (gD S 0 0 l3.toNat) 63 = 0 by rw [hc]; decide), if_neg (show ¬ ab oo 0 (gD S 0 0 l3.toNat) 63 = 1 by rw [hc]; decide), if_neg (show ¬ ab oo 0 (gD S 0 0 l3.toNat) 63 = 2 by rw [hc]; decide), if_neg (show ¬ ab oo 0 (gD S 0 0 l3.toNat) 63 = 3 by rw [hc]; decide), if_neg (show ¬ ab oo 0 (gD S 0 0 l3.toNat) 63 = 4 by rw [hc]; decide), if_neg (show ¬ ab oo 0 (gD S 0 0 l3.toNat) 63 = 5 by rw [hc]; decide), if_neg (show ¬ ab oo 0 (gD S 0 0 l3.toNat) 63 = 6 by rw [hc]; decide), if_neg (show ¬ ab oo 0 (gD S 0 0 l3.toNat) 63 = 7 by rw [hc]; decide), if_neg (show ¬ ab oo 0 (gD S 0 0 l3.toNat) 63 = 8 by rw [hc]; decide), if_neg (show ¬ ab oo 0 (gD S 0 0 l3.toNat) 63 = 9 by rw [hc]; decide), if_neg (show ¬ ab oo 0 (gD S 0 0 l3.toNat) 63 = 10 by rw [hc]; decide), if_neg (show ¬ ab oo 0 (gD S 0 0 l3.toNat) 63 = 11 by rw [hc]; decide), if_neg (show ¬ ab oo 0 (gD S 0 0 l3.toNat) 63 = 12 by rw [hc]; decide), if_neg (show ¬ ab oo 0 (gD S 0 0 l3.toNat) 63 = 13 by rw [hc]; decide), if_neg (show ¬ ab oo 0 (gD S 0 0 l3.toNat) 63 = 14 by rw [hc]; decide), if_neg (show ¬ ab oo 0 (gD S 0 0 l3.toNat) 63 = 15 by rw [hc]; decide), if_neg (show ¬ ab oo 0 (gD S 0 0 l3.toNat) 63 = 16 by rw [hc]; decide), if_neg (show ¬ ab oo 0 (gD S 0 0 l3.toNat) 63 = 17 by rw [hc]; decide), if_neg (show ¬ ab oo 0 (gD S 0 0 l3.toNat) 63 = 18 by rw [hc]; decide), if_neg (show ¬ ab oo 0 (gD S 0 0 l3.toNat) 63 = 19 by rw [hc]; decide), if_neg (show ¬ ab oo 0 (gD S 0 0 l3.toNat) 63 = 20 by rw [hc]; decide), if_neg (show ¬ ab oo 0 (gD S 0 0 l3.toNat) 63 = 21 by rw [hc]; decide), if_neg (show ¬ ab oo 0 (gD S 0 0 l3.toNat) 63 = 22 by rw [hc]; decide), if_neg (show ¬ ab oo 0 (gD S 0 0 l3.toNat) 63 = 23 by rw [hc]; decide), if_neg (show ¬ ab oo 0 (gD S 0 0 l3.toNat) 63 = 24 by rw [hc]; decide), if_neg (show ¬ ab oo 0 (gD S 0 0 l3.toNat) 63 = 25 by rw [hc]; decide), if_neg (show ¬ ab oo 0 (gD S 0 0 l3.toNat) 63 = 26 by rw [hc]; decide), if_neg (show ¬ ab oo 0 (gD S 0 0 l3.toNat) 63 = 27 by rw [hc]; decide), if_neg (show ¬ ab oo 0 (gD S 0 0 l3.toNat) 63 = 28 by rw [hc]; decide), if_neg (show ¬ ab oo 0 (gD S 0 0 l3.toNat) 63 = 29 by rw [hc]; decide), if_neg (show ¬ ab oo 0 (gD S 0 0 l3.toNat) 63 = 30 by rw [hc]; decide), if_neg (show ¬ ab oo 0 (gD S 0 0 l3.toNat) 63 = 31 by rw [hc]; decide), if_neg (show ¬ ab oo 0 (gD S 0 0 l3.toNat) 63 = 32 by rw [hc]; decide), if_neg (show ¬ ab oo 0 (gD S 0 0 l3.toNat) 63 = 33 by rw [hc]; decide), if_neg (show ¬ ab oo 0 (gD S 0 0 l3.toNat) 63 = 34 by rw [hc]; decide), if_neg (show ¬ ab oo 0 (gD S 0 0 l3.toNat) 63 = 35 by rw [hc]; decide), if_pos hc]
  simp only [e1, e2, e3, e4, e5, e6, e7, g1, c1, c2, c3, c4, c5, c6, if_true, if_false, h1, bI, bL, h2, ab9]
theorem lc_37 {K : KT} {n : Nat} {S S1 S2 : SD} {l3 x : Int} (hlt : ¬ aw oo (gD S 0 1 0 - 7) < l3) (hb : 0 ≤ l3 ∧ l3 + 6 < gD S 0 1 0) (hm : l3 < 100000) (hc : ab oo 0 (gD S 0 0 l3.toNat) 63 = 37) (hg : S1.1 0 = S.1 0) (h1 : K 185 [vr (some (2, 0)), vi (gD S 0 0 (l3 + 1).toNat)] S = some (vi x, S1)) (h2 : K 303 [vr (some (85, 0)), vi (gD S 0 0 (l3 + 1).toNat)] S1 = some (vi x, S2)) : run oo K false mi_307 (n + 1) 18 [(0, vr (some (0, 0))), (1, vr (some (2, 0))), (2, vr (some (85, 0))), (3, vi l3)] [] S = run oo K false mi_307 n 18 [(0, vr (some (0, 0))), (1, vr (some (2, 0))), (2, vr (some (85, 0))), (3, vi (l3 + 7))] [] S2 := by
  have g1 : ∀ j k, gD S1 0 j k = gD S 0 j k := fun j k => by show S1.1 0 j k = S.1 0 j k; rw [hg]
  have e1 : aw oo (l3 + 1) = l3 + 1 := aw_id (by omega)
  have e2 : aw oo (l3 + 2) = l3 + 2 := aw_id (by omega)
  have e3 : aw oo (l3 + 3) = l3 + 3 := aw_id (by omega)
  have e4 : aw oo (l3 + 4) = l3 + 4 := aw_id (by omega)
  have e5 : aw oo (l3 + 5) = l3 + 5 := aw_id (by omega)
  have e6 : aw oo (l3 + 6) = l3 + 6 := aw_id (by omega)
  have e7 : aw oo (l3 + 7) = l3 + 7 := aw_id (by omega)
  have c1 : (0 ≤ l3 + 1 ∧ l3 + 1 < gD S 0 1 0) = True := eq_true ⟨by omega, by omega⟩
  have c2 : (0 ≤ l3 + 2 ∧ l3 + 2 < gD S 0 1 0) = True := eq_true ⟨by omega, by omega⟩
  have c3 : (0 ≤ l3 + 3 ∧ l3 + 3 < gD S 0 1 0) = True := eq_true ⟨by omega, by omega⟩
  have c4 : (0 ≤ l3 + 4 ∧ l3 + 4 < gD S 0 1 0) = True := eq_true ⟨by omega, by omega⟩
  have c5 : (0 ≤ l3 + 5 ∧ l3 + 5 < gD S 0 1 0) = True := eq_true ⟨by omega, by omega⟩
  have c6 : (0 ≤ l3 + 6 ∧ l3 + 6 < gD S 0 1 0) = True := eq_true ⟨by omega, by omega⟩
  rw [b307_18, if_neg hlt, if_pos (show 0 ≤ l3 ∧ l3 < gD S 0 1 0 by omega), if_neg (show ¬ ab oo 0 (gD S 0 0 l3.toNat) 63 = 0 by rw [hc]; decide), if_neg (show ¬ ab oo 0 (gD S 0 0 l3.toNat) 63 = 1 by rw [hc]; decide), if_neg (show ¬ ab oo 0 (gD S 0 0 l3.toNat) 63 = 2 by rw [hc]; decide), if_neg (show ¬ ab oo 0 (gD S 0 0 l3.toNat) 63 = 3 by rw [hc]; decide), if_neg (show ¬ ab oo 0 (gD S 0 0 l3.toNat) 63 = 4 by rw [hc]; decide), if_neg (show ¬ ab oo 0 (gD S 0 0 l3.toNat) 63 = 5 by rw [hc]; decide), if_neg (show ¬ ab oo 0 (gD S 0 0 l3.toNat) 63 = 6 by rw [hc]; decide), if_neg (show ¬ ab oo 0 (gD S 0 0 l3.toNat) 63 = 7 by rw [hc]; decide), if_neg (show ¬ ab oo 0 (gD S 0 0 l3.toNat) 63 = 8 by rw [hc]; decide), if_neg (show ¬ ab oo 0 (gD S 0 0 l3.toNat) 63 = 9 by rw [hc]; decide), if_neg (show ¬ ab oo 0 (gD S 0 0 l3.toNat) 63 = 10 by rw [hc]; decide), if_neg (show ¬ ab oo 0 (gD S 0 0 l3.toNat) 63 = 11 by rw [hc]; decide), if_neg (show ¬ ab oo 0 (gD S 0 0 l3.toNat) 63 = 12 by rw [hc]; decide), if_neg (show ¬ ab oo 0 (gD S 0 0 l3.toNat) 63 = 13 by rw [hc]; decide), if_neg (show ¬ ab oo 0 (gD S 0 0 l3.toNat) 63 = 14 by rw [hc]; decide), if_neg (show ¬ ab oo 0 (gD S 0 0 l3.toNat) 63 = 15 by rw [hc]; decide), if_neg (show ¬ ab oo 0 (gD S 0 0 l3.toNat) 63 = 16 by rw [hc]; decide), if_neg (show ¬ ab oo 0 (gD S 0 0 l3.toNat) 63 = 17 by rw [hc]; decide), if_neg (show ¬ ab oo 0 (gD S 0 0 l3.toNat) 63 = 18 by rw [hc]; decide), if_neg (show ¬ ab oo 0 (gD S 0 0 l3.toNat) 63 = 19 by rw [hc]; decide), if_neg (show ¬ ab oo 0 (gD S 0 0 l3.toNat) 63 = 20 by rw [hc]; decide), if_neg (show ¬ ab oo 0 (gD S 0 0 l3.toNat) 63 = 21 by rw [hc]; decide), if_neg (show ¬ ab oo 0 (gD S 0 0 l3.toNat) 63 = 22 by rw [hc]; decide), if_neg (show ¬ ab oo 0 (gD S 0 0 l3.toNat) 63 = 23 by rw [hc]; decide), if_neg (show ¬ ab oo 0 (gD S 0 0 l3.toNat) 63 = 24 by rw [hc]; decide), if_neg (show ¬ ab oo 0 (gD S 0 0 l3.toNat) 63 = 25 by rw [hc]; decide), if_neg (show ¬ ab oo 0 (gD S 0 0 l3.toNat) 63 = 26 by rw [hc]; decide), if_neg (show ¬ ab oo 0 (gD S 0 0 l3.toNat) 63 = 27 by rw [hc]; decide), if_neg (show ¬ ab oo 0 (gD S 0 0 l3.toNat) 63 = 28 by rw [hc]; decide), if_neg (show ¬ ab oo 0 (gD S 0 0 l3.toNat) 63 = 29 by rw [hc]; decide), if_neg (show ¬ ab oo 0 (gD S 0 0 l3.toNat) 63 = 30 by rw [hc]; decide), if_neg (show ¬ ab oo 0 (gD S 0 0 l3.toNat) 63 = 31 by rw [hc]; decide), if_neg (show ¬ ab oo 0 (gD S 0 0 l3.toNat) 63 = 32 by rw [hc]; decide), if_neg (show ¬ ab oo 0 (gD S 0 0 l3.toNat) 63 = 33 by rw [hc]; decide), if_neg (show ¬ ab oo 0 (gD S 0 0 l3.toNat) 63 = 34 by rw [hc]; decide), if_neg (show ¬ ab oo 0 (gD S 0 0 l3.toNat) 63 = 35 by rw [hc]; decide), if_neg (show ¬ ab oo 0 (gD S 0 0 l3.toNat) 63 = 36 by rw [hc]; decide), if_pos hc]
  simp only [e1, e2, e3, e4, e5, e6, e7, g1, c1, c2, c3, c4, c5, c6, if_true, if_false, h1, bI, bL, h2, ab9]
theorem lc_38 {K : KT} {n : Nat} {S S1 S2 : SD} {l3 x : Int} (hlt : ¬ aw oo (gD S 0 1 0 - 7) < l3) (hb : 0 ≤ l3 ∧ l3 + 6 < gD S 0 1 0) (hm : l3 < 100000) (hc : ab oo 0 (gD S 0 0 l3.toNat) 63 = 38) (hg : S1.1 0 = S.1 0) (h1 : K 186 [vr (some (2, 0)), vi (gD S 0 0 (l3 + 1).toNat)] S = some (vi x, S1)) (h2 : K 304 [vr (some (85, 0)), vi (gD S 0 0 (l3 + 1).toNat)] S1 = some (vi x, S2)) : run oo K false mi_307 (n + 1) 18 [(0, vr (some (0, 0))), (1, vr (some (2, 0))), (2, vr (some (85, 0))), (3, vi l3)] [] S = run oo K false mi_307 n 18 [(0, vr (some (0, 0))), (1, vr (some (2, 0))), (2, vr (some (85, 0))), (3, vi (l3 + 7))] [] S2 := by
  have g1 : ∀ j k, gD S1 0 j k = gD S 0 j k := fun j k => by show S1.1 0 j k = S.1 0 j k; rw [hg]
  have e1 : aw oo (l3 + 1) = l3 + 1 := aw_id (by omega)
  have e2 : aw oo (l3 + 2) = l3 + 2 := aw_id (by omega)
  have e3 : aw oo (l3 + 3) = l3 + 3 := aw_id (by omega)
  have e4 : aw oo (l3 + 4) = l3 + 4 := aw_id (by omega)
  have e5 : aw oo (l3 + 5) = l3 + 5 := aw_id (by omega)
  have e6 : aw oo (l3 + 6) = l3 + 6 := aw_id (by omega)
  have e7 : aw oo (l3 + 7) = l3 + 7 := aw_id (by omega)
  have c1 : (0 ≤ l3 + 1 ∧ l3 + 1 < gD S 0 1 0) = True := eq_true ⟨by omega, by omega⟩
  have c2 : (0 ≤ l3 + 2 ∧ l3 + 2 < gD S 0 1 0) = True := eq_true ⟨by omega, by omega⟩
  have c3 : (0 ≤ l3 + 3 ∧ l3 + 3 < gD S 0 1 0) = True := eq_true ⟨by omega, by omega⟩
  have c4 : (0 ≤ l3 + 4 ∧ l3 + 4 < gD S 0 1 0) = True := eq_true ⟨by omega, by omega⟩
  have c5 : (0 ≤ l3 + 5 ∧ l3 + 5 < gD S 0 1 0) = True := eq_true ⟨by omega, by omega⟩
  have c6 : (0 ≤ l3 + 6 ∧ l3 + 6 < gD S 0 1 0) = True := eq_true ⟨by omega, by omega⟩
  rw [b307_18, if_neg hlt, if_pos (show 0 ≤ l3 ∧ l3 < gD S 0 1 0 by omega), if_neg (show ¬ ab oo 0 (gD S 0 0 l3.toNat) 63 = 0 by rw [hc]; decide), if_neg (show ¬ ab oo 0 (gD S 0 0 l3.toNat) 63 = 1 by rw [hc]; decide), if_neg (show ¬ ab oo 0 (gD S 0 0 l3.toNat) 63 = 2 by rw [hc]; decide), if_neg (show ¬ ab oo 0 (gD S 0 0 l3.toNat) 63 = 3 by rw [hc]; decide), if_neg (show ¬ ab oo 0 (gD S 0 0 l3.toNat) 63 = 4 by rw [hc]; decide), if_neg (show ¬ ab oo 0 (gD S 0 0 l3.toNat) 63 = 5 by rw [hc]; decide), if_neg (show ¬ ab oo 0 (gD S 0 0 l3.toNat) 63 = 6 by rw [hc]; decide), if_neg (show ¬ ab oo 0 (gD S 0 0 l3.toNat) 63 = 7 by rw [hc]; decide), if_neg (show ¬ ab oo 0 (gD S 0 0 l3.toNat) 63 = 8 by rw [hc]; decide), if_neg (show ¬ ab oo 0 (gD S 0 0 l3.toNat) 63 = 9 by rw [hc]; decide), if_neg (show ¬ ab oo 0 (gD S 0 0 l3.toNat) 63 = 10 by rw [hc]; decide), if_neg (show ¬ ab oo 0 (gD S 0 0 l3.toNat) 63 = 11 by rw [hc]; decide), if_neg (show ¬ ab oo 0 (gD S 0 0 l3.toNat) 63 = 12 by rw [hc]; decide), if_neg (show ¬ ab oo 0 (gD S 0 0 l3.toNat) 63 = 13 by rw [hc]; decide), if_neg (show ¬ ab oo 0 (gD S 0 0 l3.toNat) 63 = 14 by rw [hc]; decide), if_neg (show ¬ ab oo 0 (gD S 0 0 l3.toNat) 63 = 15 by rw [hc]; decide), if_neg (show ¬ ab oo 0 (gD S 0 0 l3.toNat) 63 = 16 by rw [hc]; decide), if_neg (show ¬ ab oo 0 (gD S 0 0 l3.toNat) 63 = 17 by rw [hc]; decide), if_neg (show ¬ ab oo 0 (gD S 0 0 l3.toNat) 63 = 18 by rw [hc]; decide), if_neg (show ¬ ab oo 0 (gD S 0 0 l3.toNat) 63 = 19 by rw [hc]; decide), if_neg (show ¬ ab oo 0 (gD S 0 0 l3.toNat) 63 = 20 by rw [hc]; decide), if_neg (show ¬ ab oo 0 (gD S 0 0 l3.toNat) 63 = 21 by rw [hc]; decide), if_neg (show ¬ ab oo 0 (gD S 0 0 l3.toNat) 63 = 22 by rw [hc]; decide), if_neg (show ¬ ab oo 0 (gD S 0 0 l3.toNat) 63 = 23 by rw [hc]; decide), if_neg (show ¬ ab oo 0 (gD S 0 0 l3.toNat) 63 = 24 by rw [hc]; decide), if_neg (show ¬ ab oo 0 (gD S 0 0 l3.toNat) 63 = 25 by rw [hc]; decide), if_neg (show ¬ ab oo 0 (gD S 0 0 l3.toNat) 63 = 26 by rw [hc]; decide), if_neg (show ¬ ab oo 0 (gD S 0 0 l3.toNat) 63 = 27 by rw [hc]; decide), if_neg (show ¬ ab oo 0 (gD S 0 0 l3.toNat) 63 = 28 by rw [hc]; decide), if_neg (show ¬ ab oo 0 (gD S 0 0 l3.toNat) 63 = 29 by rw [hc]; decide), if_neg (show ¬ ab oo 0 (gD S 0 0 l3.toNat) 63 = 30 by rw [hc]; decide), if_neg (show ¬ ab oo 0 (gD S 0 0 l3.toNat) 63 = 31 by rw [hc]; decide), if_neg (show ¬ ab oo 0 (gD S 0 0 l3.toNat) 63 = 32 by rw [hc]; decide), if_neg (show ¬ ab oo 0 (gD S 0 0 l3.toNat) 63 = 33 by rw [hc]; decide), if_neg (show ¬ ab oo 0 (gD S 0 0 l3.toNat) 63 = 34 by rw [hc]; decide), if_neg (show ¬ ab oo 0 (gD S 0 0 l3.toNat) 63 = 35 by rw [hc]; decide), if_neg (show ¬ ab oo 0 (gD S 0 0 l3.toNat) 63 = 36 by rw [hc]; decide), if_neg (show ¬ ab oo 0 (gD S 0 0 l3.toNat) 63 = 37 by rw [hc]; decide), if_pos hc]
  simp only [e1, e2, e3, e4, e5, e6, e7, g1, c1, c2, c3, c4, c5, c6, if_true, if_false, h1, bI, bL, h2, ab9]
theorem lc_39 {K : KT} {n : Nat} {S S1 S2 : SD} {l3 x : Int} (hlt : ¬ aw oo (gD S 0 1 0 - 7) < l3) (hb : 0 ≤ l3 ∧ l3 + 6 < gD S 0 1 0) (hm : l3 < 100000) (hc : ab oo 0 (gD S 0 0 l3.toNat) 63 = 39) (hg : S1.1 0 = S.1 0) (h1 : K 187 [vr (some (2, 0)), vi (gD S 0 0 (l3 + 1).toNat), vi (gD S 0 0 (l3 + 2).toNat)] S = some (vi x, S1)) (h2 : K 305 [vr (some (85, 0)), vi (gD S 0 0 (l3 + 1).toNat), vi (gD S 0 0 (l3 + 2).toNat)] S1 = some (vi x, S2)) : run oo K false mi_307 (n + 1) 18 [(0, vr (some (0, 0))), (1, vr (some (2, 0))), (2, vr (some (85, 0))), (3, vi l3)] [] S = run oo K false mi_307 n 18 [(0, vr (some (0, 0))), (1, vr (some (2, 0))), (2, vr (some (85, 0))), (3, vi (l3 + 7))] [] S2 := by
  have g1 : ∀ j k, gD S1 0 j k = gD S 0 j k := fun j k => by show S1.1 0 j k = S.1 0 j k; rw [hg]
  have e1 : aw oo (l3 + 1) = l3 + 1 := aw_id (by omega)
  have e2 : aw oo (l3 + 2) = l3 + 2 := aw_id (by omega)
  have e3 : aw oo (l3 + 3) = l3 + 3 := aw_id (by omega)
  have e4 : aw oo (l3 + 4) = l3 + 4 := aw_id (by omega)
  have e5 : aw oo (l3 + 5) = l3 + 5 := aw_id (by omega)
  have e6 : aw oo (l3 + 6) = l3 + 6 := aw_id (by omega)
  have e7 : aw oo (l3 + 7) = l3 + 7 := aw_id (by omega)
  have c1 : (0 ≤ l3 + 1 ∧ l3 + 1 < gD S 0 1 0) = True := eq_true ⟨by omega, by omega⟩
  have c2 : (0 ≤ l3 + 2 ∧ l3 + 2 < gD S 0 1 0) = True := eq_true ⟨by omega, by omega⟩
  have c3 : (0 ≤ l3 + 3 ∧ l3 + 3 < gD S 0 1 0) = True := eq_true ⟨by omega, by omega⟩
  have c4 : (0 ≤ l3 + 4 ∧ l3 + 4 < gD S 0 1 0) = True := eq_true ⟨by omega, by omega⟩
  have c5 : (0 ≤ l3 + 5 ∧ l3 + 5 < gD S 0 1 0) = True := eq_true ⟨by omega, by omega⟩
  have c6 : (0 ≤ l3 + 6 ∧ l3 + 6 < gD S 0 1 0) = True := eq_true ⟨by omega, by omega⟩
  rw [b307_18, if_neg hlt, if_pos (show 0 ≤ l3 ∧ l3 < gD S 0 1 0 by omega), if_neg (show ¬ ab oo 0 (gD S 0 0 l3.toNat) 63 = 0 by rw [hc]; decide), if_neg (show ¬ ab oo 0 (gD S 0 0 l3.toNat) 63 = 1 by rw [hc]; decide), if_neg (show ¬ ab oo 0 (gD S 0 0 l3.toNat) 63 = 2 by rw [hc]; decide), if_neg (show ¬ ab oo 0 (gD S 0 0 l3.toNat) 63 = 3 by rw [hc]; decide), if_neg (show ¬ ab oo 0 (gD S 0 0 l3.toNat) 63 = 4 by rw [hc]; decide), if_neg (show ¬ ab oo 0 (gD S 0 0 l3.toNat) 63 = 5 by rw [hc]; decide), if_neg (show ¬ ab oo 0 (gD S 0 0 l3.toNat) 63 = 6 by rw [hc]; decide), if_neg (show ¬ ab oo 0 (gD S 0 0 l3.toNat) 63 = 7 by rw [hc]; decide), if_neg (show ¬ ab oo 0 (gD S 0 0 l3.toNat) 63 = 8 by rw [hc]; decide), if_neg (show ¬ ab oo 0 (gD S 0 0 l3.toNat) 63 = 9 by rw [hc]; decide), if_neg (show ¬ ab oo 0 (gD S 0 0 l3.toNat) 63 = 10 by rw [hc]; decide), if_neg (show ¬ ab oo 0 (gD S 0 0 l3.toNat) 63 = 11 by rw [hc]; decide), if_neg (show ¬ ab oo 0 (gD S 0 0 l3.toNat) 63 = 12 by rw [hc]; decide), if_neg (show ¬ ab oo 0 (gD S 0 0 l3.toNat) 63 = 13 by rw [hc]; decide), if_neg (show ¬ ab oo 0 (gD S 0 0 l3.toNat) 63 = 14 by rw [hc]; decide), if_neg (show ¬ ab oo 0 (gD S 0 0 l3.toNat) 63 = 15 by rw [hc]; decide), if_neg (show ¬ ab oo 0 (gD S 0 0 l3.toNat) 63 = 16 by rw [hc]; decide), if_neg (show ¬ ab oo 0 (gD S 0 0 l3.toNat) 63 = 17 by rw [hc]; decide), if_neg (show ¬ ab oo 0 (gD S 0 0 l3.toNat) 63 = 18 by rw [hc]; decide), if_neg (show ¬ ab oo 0 (gD S 0 0 l3.toNat) 63 = 19 by rw [hc]; decide), if_neg (show ¬ ab oo 0 (gD S 0 0 l3.toNat) 63 = 20 by rw [hc]; decide), if_neg (show ¬ ab oo 0 (gD S 0 0 l3.toNat) 63 = 21 by rw [hc]; decide), if_neg (show ¬ ab oo 0 (gD S 0 0 l3.toNat) 63 = 22 by rw [hc]; decide), if_neg (show ¬ ab oo 0 (gD S 0 0 l3.toNat) 63 = 23 by rw [hc]; decide), if_neg (show ¬ ab oo 0 (gD S 0 0 l3.toNat) 63 = 24 by rw [hc]; decide), if_neg (show ¬ ab oo 0 (gD S 0 0 l3.toNat) 63 = 25 by rw [hc]; decide), if_neg (show ¬ ab oo 0 (gD S 0 0 l3.toNat) 63 = 26 by rw [hc]; decide), if_neg (show ¬ ab oo 0 (gD S 0 0 l3.toNat) 63 = 27 by rw [hc]; decide), if_neg (show ¬ ab oo 0 (gD S 0 0 l3.toNat) 63 = 28 by rw [hc]; decide), if_neg (show ¬ ab oo 0 (gD S 0 0 l3.toNat) 63 = 29 by rw [hc]; decide), if_neg (show ¬ ab oo 0 (gD S 0 0 l3.toNat) 63 = 30 by rw [hc]; decide), if_neg (show ¬ ab oo 0 (gD S 0 0 l3.toNat) 63 = 31 by rw [hc]; decide), if_neg (show ¬ ab oo 0 (gD S 0 0 l3.toNat) 63 = 32 by rw [hc]; decide), if_neg (show ¬ ab oo 0 (gD S 0 0 l3.toNat) 63 = 33 by rw [hc]; decide), if_neg (show ¬ ab oo 0 (gD S 0 0 l3.toNat) 63 = 34 by rw [hc]; decide), if_neg (show ¬ ab oo 0 (gD S 0 0 l3.toNat) 63 = 35 by rw [hc]; decide), if_neg (show ¬ ab oo 0 (gD S 0 0 l3.toNat) 63 = 36 by rw [hc]; decide), if_neg (show ¬ ab oo 0 (gD S 0 0 l3.toNat) 63 = 37 by rw [hc]; decide), if_neg (show ¬ ab oo 0 (gD S 0 0 l3.toNat) 63 = 38 by rw [hc]; decide), if_pos hc]
  simp only [e1, e2, e3, e4, e5, e6, e7, g1, c1, c2, c3, c4, c5, c6, if_true, if_false, h1, bI, bL, h2, ab9]
theorem lc_40 {K : KT} {n : Nat} {S S1 S2 : SD} {l3 x : Int} (hlt : ¬ aw oo (gD S 0 1 0 - 7) < l3) (hb : 0 ≤ l3 ∧ l3 + 6 < gD S 0 1 0) (hm : l3 < 100000) (hc : ab oo 0 (gD S 0 0 l3.toNat) 63 = 40) (hg : S1.1 0 = S.1 0) (h1 : K 188 [vr (some (2, 0)), vi (gD S 0 0 (l3 + 1).toNat)] S = some (vi x, S1)) (h2 : K 306 [vr (some (85, 0)), vi (gD S 0 0 (l3 + 1).toNat)] S1 = some (vi x, S2)) : run oo K false mi_307 (n + 1) 18 [(0, vr (some (0, 0))), (1, vr (some (2, 0))), (2, vr (some (85, 0))), (3, vi l3)] [] S = run oo K false mi_307 n 18 [(0, vr (some (0, 0))), (1, vr (some (2, 0))), (2, vr (some (85, 0))), (3, vi (l3 + 7))] [] S2 := by
  have g1 : ∀ j k, gD S1 0 j k = gD S 0 j k := fun j k => by show S1.1 0 j k = S.1 0 j k; rw [hg]
  have e1 : aw oo (l3 + 1) = l3 + 1 := aw_id (by omega)
  have e2 : aw oo (l3 + 2) = l3 + 2 := aw_id (by omega)
  have e3 : aw oo (l3 + 3) = l3 + 3 := aw_id (by omega)
  have e4 : aw oo (l3 + 4) = l3 + 4 := aw_id (by omega)
  have e5 : aw oo (l3 + 5) = l3 + 5 := aw_id (by omega)
  have e6 : aw oo (l3 + 6) = l3 + 6 := aw_id (by omega)
  have e7 : aw oo (l3 + 7) = l3 + 7 := aw_id (by omega)
  have c1 : (0 ≤ l3 + 1 ∧ l3 + 1 < gD S 0 1 0) = True := eq_true ⟨by omega, by omega⟩
  have c2 : (0 ≤ l3 + 2 ∧ l3 + 2 < gD S 0 1 0) = True := eq_true ⟨by omega, by omega⟩
  have c3 : (0 ≤ l3 + 3 ∧ l3 + 3 < gD S 0 1 0) = True := eq_true ⟨by omega, by omega⟩
  have c4 : (0 ≤ l3 + 4 ∧ l3 + 4 < gD S 0 1 0) = True := eq_true ⟨by omega, by omega⟩
  have c5 : (0 ≤ l3 + 5 ∧ l3 + 5 < gD S 0 1 0) = True := eq_true ⟨by omega, by omega⟩
  have c6 : (0 ≤ l3 + 6 ∧ l3 + 6 < gD S 0 1 0) = True := eq_true ⟨by omega, by omega⟩
  rw [b307_18, if_neg hlt, if_pos (show 0 ≤ l3 ∧ l3 < gD S 0 1 0 by omega), if_neg (show ¬ ab oo 0 (gD S 0 0 l3.toNat) 63 = 0 by rw [hc]; decide), if_neg (show ¬ ab oo 0 (gD S 0 0 l3.toNat) 63 = 1 by rw [hc]; decide), if_neg (show ¬ ab oo 0 (gD S 0 0 l3.toNat) 63 = 2 by rw [hc]; decide), if_neg (show ¬ ab oo 0 (gD S 0 0 l3.toNat) 63 = 3 by rw [hc]; decide), if_neg (show ¬ ab oo 0 (gD S 0 0 l3.toNat) 63 = 4 by rw [hc]; decide), if_neg (show ¬ ab oo 0 (gD S 0 0 l3.toNat) 63 = 5 by rw [hc]; decide), if_neg (show ¬ ab oo 0 (gD S 0 0 l3.toNat) 63 = 6 by rw [hc]; decide), if_neg (show ¬ ab oo 0 (gD S 0 0 l3.toNat) 63 = 7 by rw [hc]; decide), if_neg (show ¬ ab oo 0 (gD S 0 0 l3.toNat) 63 = 8 by rw [hc]; decide), if_neg (show ¬ ab oo 0 (gD S 0 0 l3.toNat) 63 = 9 by rw [hc]; decide), if_neg (show ¬ ab oo 0 (gD S 0 0 l3.toNat) 63 = 10 by rw [hc]; decide), if_neg (show ¬ ab oo 0 (gD S 0 0 l3.toNat) 63 = 11 by rw [hc]; decide), if_neg (show ¬ ab oo 0 (gD S 0 0 l3.toNat) 63 = 12 by rw [hc]; decide), if_neg (show ¬ ab oo 0 (gD S 0 0 l3.toNat) 63 = 13 by rw [hc]; decide), if_neg (show ¬ ab oo 0 (gD S 0 0 l3.toNat) 63 = 14 by rw [hc]; decide), if_neg (show ¬ ab oo 0 (gD S 0 0 l3.toNat) 63 = 15 by rw [hc]; decide), if_neg (show ¬ ab oo 0 (gD S 0 0 l3.toNat) 63 = 16 by rw [hc]; decide), if_neg (show ¬ ab oo 0 (gD S 0 0 l3.toNat) 63 = 17 by rw [hc]; decide), if_neg (show ¬ ab oo 0 (gD S 0 0 l3.toNat) 63 = 18 by rw [hc]; decide), if_neg (show ¬ ab oo 0 (gD S 0 0 l3.toNat) 63 = 19 by rw [hc]; decide), if_neg (show ¬ ab oo 0 (gD S 0 0 l3.toNat) 63 = 20 by rw [hc]; decide), if_neg (show ¬ ab oo 0 (gD S 0 0 l3.toNat) 63 = 21 by rw [hc]; decide), if_neg (show ¬ ab oo 0 (gD S 0 0 l3.toNat) 63 = 22 by rw [hc]; decide), if_neg (show ¬ ab oo 0 (gD S 0 0 l3.toNat) 63 = 23 by rw [hc]; decide), if_neg (show ¬ ab oo 0 (gD S 0 0 l3.toNat) 63 = 24 by rw [hc]; decide), if_neg (show ¬ ab oo 0 (gD S 0 0 l3.toNat) 63 = 25 by rw [hc]; decide), if_neg (show ¬ ab oo 0 (gD S 0 0 l3.toNat) 63 = 26 by rw [hc]; decide), if_neg (show ¬ ab oo 0 (gD S 0 0 l3.toNat) 63 = 27 by rw [hc]; decide), if_neg (show ¬ ab oo 0 (gD S 0 0 l3.toNat) 63 = 28 by rw [hc]; decide), if_neg (show ¬ ab oo 0 (gD S 0 0 l3.toNat) 63 = 29 by rw [hc]; decide), if_neg (show ¬ ab oo 0 (gD S 0 0 l3.toNat) 63 = 30 by rw [hc]; decide), if_neg (show ¬ ab oo 0 (gD S 0 0 l3.toNat) 63 = 31 by rw [hc]; decide), if_neg (show ¬ ab oo 0 (gD S 0 0 l3.toNat) 63 = 32 by rw [hc]; decide), if_neg (show ¬ ab oo 0 (gD S 0 0 l3.toNat) 63 = 33 by rw [hc]; decide), if_neg (show ¬ ab oo 0 (gD S 0 0 l3.toNat) 63 = 34 by rw [hc]; decide), if_neg (show ¬ ab oo 0 (gD S 0 0 l3.toNat) 63 = 35 by rw [hc]; decide), if_neg (show ¬ ab oo 0 (gD S 0 0 l3.toNat) 63 = 36 by rw [hc]; decide), if_neg (show ¬ ab oo 0 (gD S 0 0 l3.toNat) 63 = 37 by rw [hc]; decide), if_neg (show ¬ ab oo 0 (gD S 0 0 l3.toNat) 63 = 38 by rw [hc]; decide), if_neg (show ¬ ab oo 0 (gD S 0 0 l3.toNat) 63 = 39 by rw [hc]; decide), if_pos hc]
  simp only [e1, e2, e3, e4, e5, e6, e7, g1, c1, c2, c3, c4, c5, c6, if_true, if_false, h1, bI, bL, h2, ab9]
theorem lc_none {K : KT} {n : Nat} {S : SD} {l3 : Int} (hlt : ¬ aw oo (gD S 0 1 0 - 7) < l3) (hb : 0 ≤ l3 ∧ l3 + 6 < gD S 0 1 0) (hm : l3 < 100000) (hc : ∀ c : Int, 0 ≤ c → c ≤ 40 → ¬ ab oo 0 (gD S 0 0 l3.toNat) 63 = c) : run oo K false mi_307 (n + 1) 18 [(0, vr (some (0, 0))), (1, vr (some (2, 0))), (2, vr (some (85, 0))), (3, vi l3)] [] S = run oo K false mi_307 n 18 [(0, vr (some (0, 0))), (1, vr (some (2, 0))), (2, vr (some (85, 0))), (3, vi (l3 + 7))] [] S := by
  have e7 : aw oo (l3 + 7) = l3 + 7 := aw_id (by omega)
  rw [b307_18, if_neg hlt, if_pos (show 0 ≤ l3 ∧ l3 < gD S 0 1 0 by omega), if_neg (hc 0 (by decide) (by decide)), if_neg (hc 1 (by decide) (by decide)), if_neg (hc 2 (by decide) (by decide)), if_neg (hc 3 (by decide) (by decide)), if_neg (hc 4 (by decide) (by decide)), if_neg (hc 5 (by decide) (by decide)), if_neg (hc 6 (by decide) (by decide)), if_neg (hc 7 (by decide) (by decide)), if_neg (hc 8 (by decide) (by decide)), if_neg (hc 9 (by decide) (by decide)), if_neg (hc 10 (by decide) (by decide)), if_neg (hc 11 (by decide) (by decide)), if_neg (hc 12 (by decide) (by decide)), if_neg (hc 13 (by decide) (by decide)), if_neg (hc 14 (by decide) (by decide)), if_neg (hc 15 (by decide) (by decide)), if_neg (hc 16 (by decide) (by decide)), if_neg (hc 17 (by decide) (by decide)), if_neg (hc 18 (by decide) (by decide)), if_neg (hc 19 (by decide) (by decide)), if_neg (hc 20 (by decide) (by decide)), if_neg (hc 21 (by decide) (by decide)), if_neg (hc 22 (by decide) (by decide)), if_neg (hc 23 (by decide) (by decide)), if_neg (hc 24 (by decide) (by decide)), if_neg (hc 25 (by decide) (by decide)), if_neg (hc 26 (by decide) (by decide)), if_neg (hc 27 (by decide) (by decide)), if_neg (hc 28 (by decide) (by decide)), if_neg (hc 29 (by decide) (by decide)), if_neg (hc 30 (by decide) (by decide)), if_neg (hc 31 (by decide) (by decide)), if_neg (hc 32 (by decide) (by decide)), if_neg (hc 33 (by decide) (by decide)), if_neg (hc 34 (by decide) (by decide)), if_neg (hc 35 (by decide) (by decide)), if_neg (hc 36 (by decide) (by decide)), if_neg (hc 37 (by decide) (by decide)), if_neg (hc 38 (by decide) (by decide)), if_neg (hc 39 (by decide) (by decide)), if_neg (hc 40 (by decide) (by decide)), e7]
