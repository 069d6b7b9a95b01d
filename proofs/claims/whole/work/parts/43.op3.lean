/-! layer 2: count, things, missed -/
section
variable {d : Nat}
theorem o_count (hd : 12 ≤ d) (a1 : Int) : PI2 d CI2 188 306 vi [vi a1] := by
  refine PI2_ro (fun i Sc Sm hi hC => ?_)
  obtain ⟨hN, hT, hS, hW, hK, hO, hX, hP, hR, hF, hA, hH, hQ, hG⟩ := hC
  rw [E188 (by omega), b188_0, E306 (by omega), b306_0]
  unfold IN at hN
  unfold IT at hT
  unfold IW at hW
  unfold IR at hR
  unfold IA at hA
  unfold IO at hO
  unfold IQ at hQ
  unfold IP at hP
  (try simp (disch := omega) only [b_I, b_L, b_V, tn, e10, eq_self, if_true, if_false, ite_not, i01, hN.1, hT.1, hW.1, hR.1, hA.1, hO.1, hQ.1, hP.1, its]); (try simp (disch := omega) only [↓bnd])
  exact ⟨_, rfl, rfl⟩
theorem q_great {Sc Sm : SD} (hT : IT Sc Sm) (hW : IW Sc Sm) (hK : IC Sc Sm) (hd : 2 ≤ d) (t : Nat) (ht : (t : Int) < (gD Sc 3 0 10)) : EE false d 137 [vr (some (13, 0)), vi (t : Int)] Sc = some (vi (gD Sm 109 0 t), Sc) ∧ 0 ≤ (gD Sm 109 0 t) ∧ (gD Sm 109 0 t) ≤ 200 := by
  have uIT := hT; unfold IT at uIT; obtain ⟨t1, t2, t3, t4, t5, t6, t7, t8, t9, t10, t11, t12, t13, t14, t15, t16⟩ := uIT
  have uIW := hW; unfold IW at uIW; obtain ⟨w1, w2, w3, w4, w5, w6, w7, w8, w9, w10, w11, w12, w13, w14, w15, w16, w17, w18, w19, w20, w21, w22, w23, w24⟩ := uIW
  have uIC := hK; unfold IC at uIC; obtain ⟨k1, k2, k3, k4⟩ := uIC
  have ht4 : t < 40 := by omega
  rw [E137 (by omega), b137_0]
  rcases k1 t ht4 with ⟨h1, h2, _⟩ | ⟨w, h1, h2, h3, h4, _⟩
  · (try simp (disch := omega) only [b_I, b_L, b_V, tn, e10, eq_self, if_true, if_false, ite_not, i01, q_thas1, h1, q_whas0, h2]); (try simp (disch := omega) only [↓bnd])
    exact ⟨trivial, by omega, by omega⟩
  · have hw4 : w < 400 := by omega
    have b := w15 w h2
    (try simp (disch := omega) only [b_I, b_L, b_V, tn, e10, eq_self, if_true, if_false, ite_not, i01, q_thas1, h1, q_whas1, h4]); (try simp (disch := omega) only [↓bnd])
    exact ⟨trivial, by omega, by omega⟩
theorem w_many {K K' : KT} {Sc Sm : SD} {N : Nat} (hN : (gD Sc 13 0 16) = (N : Int)) (hW : IW Sc Sm) (t : Int) : ∀ (n j : Nat) (m : Int), j ≤ N → N - j < n → ∃ r, run oo K false mi_138 n 4 [(0, vr (some (13, 0))), (1, vi t), (2, vi m), (3, vi (j : Int))] [] Sc = some (vi r, Sc) ∧ run oo K' false mi_305 n 101 [(0, vr (some (85, 0))), (1, vi t), (3, vi m), (4, vi (j : Int))] [] Sm = some (vi r, Sm) := by
  have uIW := hW; unfold IW at uIW; obtain ⟨w1, w2, w3, w4, w5, w6, w7, w8, w9, w10, w11, w12, w13, w14, w15, w16, w17, w18, w19, w20, w21, w22, w23, w24⟩ := uIW
  intro n
  induction n with
  | zero => intro j m h1 h2; omega
  | succ n ih =>
    intro j m h1 h2
    rw [b138_4, b305_101, w1, hN]
    by_cases hj : (j : Int) < (N : Int)
    · have hj4 : j < 400 := by omega
      rw [if_pos hj, if_pos hj]
      (try simp (disch := omega) only [b_I, b_L, b_V, tn, e10, eq_self, if_true, if_false, ite_not, i01, awn, w4]); (try simp (disch := omega) only [↓bnd])
      by_cases q : (gD Sc 14 0 j) = t
      · rw [if_pos q, if_pos q]
        exact ih (j + 1) _ (by omega) (by omega)
      · rw [if_neg q, if_neg q]
        exact ih (j + 1) _ (by omega) (by omega)
    · rw [if_neg hj, if_neg hj]
      exact ⟨m, rfl, rfl⟩
theorem o_things (hd : 12 ≤ d) (a1 a2 : Int) : PI2 d CI2 187 305 vi [vi a1, vi a2] := by
  refine PI2_ro (fun i Sc Sm hi hC => ?_)
  obtain ⟨hN, hT, hS, hW, hK, hO, hX, hP, hR, hF, hA, hH, hQ, hG⟩ := hC
  have uIT := hT; unfold IT at uIT; obtain ⟨t1, t2, t3, t4, t5, t6, t7, t8, t9, t10, t11, t12, t13, t14, t15, t16⟩ := uIT
  have uIG := hG; unfold IG at uIG; obtain ⟨pg1, pg2, pg3, pg4, pg5, pg6, pg7, pg8, pg9, pg10, pg11, pg12⟩ := uIG
  obtain ⟨N, hN'⟩ : ∃ N : Nat, (gD Sc 13 0 16) = (N : Int) := Int.eq_ofNat_of_zero_le (by unfold IW at hW; exact hW.2.1)
  have hN4 : N ≤ 400 := by unfold IW at hW; omega
  rw [E187 (by omega), b187_0, E305 (by omega), b305_0]
  by_cases h : 0 ≤ a1 ∧ a1 < (gD Sc 3 0 10)
  · obtain ⟨t, rfl⟩ := Int.eq_ofNat_of_zero_le h.1
    have ht4 : t < 40 := by omega
    have c1 := q_great hT hW hK (show 2 ≤ d - 1 by omega) t h.2
    have c2 : EE false (d - 1) 97 [vr (some (3, 0)), vi (t : Int)] Sc = some (vi (gD Sc 9 0 t), Sc) := by
      rw [E97 (by omega), b97_0]
      (try simp (disch := omega) only [b_I, b_L, b_V, tn, e10, eq_self, if_true, if_false, ite_not, i01, q_thas1]); (try simp (disch := omega) only [↓bnd])
    have c3 : EE false (d - 1) 98 [vr (some (3, 0)), vi (t : Int)] Sc = some (vi (gD Sc 10 0 t), Sc) := by
      rw [E98 (by omega), b98_0]
      (try simp (disch := omega) only [b_I, b_L, b_V, tn, e10, eq_self, if_true, if_false, ite_not, i01, q_thas1]); (try simp (disch := omega) only [↓bnd])
    obtain ⟨r, c4, m4⟩ := w_many (K := EE false (d - 1 - 1)) (K' := EE false (d - 1)) hN' hW (t : Int) 999999 0 0 (by omega) (by omega)
    have c7 : EE false (d - 1) 138 [vr (some (13, 0)), vi (t : Int)] Sc = some (vi r, Sc) := by
      rw [E138 (by omega), b138_0]
      exact c4
    by_cases h6 : a2 = 6
    · subst h6
      refine ⟨r, ?_, ?_⟩
      · (try simp (disch := omega) only [b_I, b_L, b_V, tn, e10, eq_self, if_true, if_false, ite_not, i01, q_thas1, c7]); (try simp (disch := omega) only [↓bnd])
        rfl
      · (try simp (disch := omega) only [b_I, b_L, b_V, tn, e10, eq_self, if_true, if_false, ite_not, i01, q_M_isThing1]); (try simp (disch := omega) only [↓bnd])
        exact m4
    · refine ⟨if a2 = 0 then (gD Sc 9 0 t) else if a2 = 1 then (gD Sc 10 0 t) else if a2 = 2 then (gD Sc 77 0 t) else if a2 = 3 then (gD Sc 76 0 t) else if a2 = 4 then (gD Sm 109 0 t) else if a2 = 5 then (gD Sc 79 0 t) else -1, ?_, ?_⟩
      · (try simp (disch := omega) only [b_I, b_L, b_V, tn, e10, eq_self, if_true, if_false, ite_not, i01, q_thas1, c1.1, c2, c3, h6]); (try simp (disch := omega) only [↓bnd])
        simp only [its]
      · (try simp (disch := omega) only [b_I, b_L, b_V, tn, e10, eq_self, if_true, if_false, ite_not, i01, q_M_isThing1, t4, t6, (pg1 t h.2).1, (pg1 t h.2).2, pg4, h6]); (try simp (disch := omega) only [↓bnd])
        simp only [its]
  · refine ⟨-1, ?_, ?_⟩
    · (try simp (disch := omega) only [b_I, b_L, b_V, tn, e10, eq_self, if_true, if_false, ite_not, i01, q_thas0]); (try simp (disch := omega) only [↓bnd])
    · (try simp (disch := omega) only [b_I, b_L, b_V, tn, e10, eq_self, if_true, if_false, ite_not, i01, q_M_isThing0]); (try simp (disch := omega) only [↓bnd])
theorem aw201a {t c : Nat} (h : t < 1000 ∧ c < 1000) : aw oo (aw oo ((t : Int) * 201) + (c : Int)) = ((201 * t + c : Nat) : Int) := by
  rw [aw_id (z := (t : Int) * 201) (by omega), aw_id (by omega)]
  omega
theorem aw201b {t c : Nat} (h : t < 1000 ∧ c < 1000) : aw oo (aw oo (201 * (t : Int)) + (c : Int)) = ((201 * t + c : Nat) : Int) := by
  rw [aw_id (z := 201 * (t : Int)) (by omega), aw_id (by omega)]
  omega
theorem q_M_isMissed {Sc Sm : SD} (hW : IW Sc Sm) (hd : 2 ≤ d) (t c : Nat) (ht : t < 40) (hg : 0 ≤ (gD Sm 109 0 t) ∧ (gD Sm 109 0 t) ≤ 200) : EE false d 213 [vr (some (85, 0)), vi (t : Int), vi (c : Int)] Sm = some (vi (if 1 ≤ c ∧ (c : Int) < (gD Sm 109 0 t) ∧ (gD Sc 28 0 (201 * t + c)) = 0 then 1 else 0), Sm) := by
  have uIW := hW; unfold IW at uIW; obtain ⟨w1, w2, w3, w4, w5, w6, w7, w8, w9, w10, w11, w12, w13, w14, w15, w16, w17, w18, w19, w20, w21, w22, w23, w24⟩ := uIW
  rw [E213 (by omega), b213_0]
  by_cases h : 1 ≤ c ∧ (c : Int) < (gD Sm 109 0 t)
  · have z1 : aw oo ((gD Sm 109 0 t) - 1) = (gD Sm 109 0 t) - 1 := aw_id (by omega)
    have z2 := aw201b (show t < 1000 ∧ c < 1000 by omega)
    have b1 : (0 ≤ (t : Int) ∧ (t : Int) < 40) = True := eq_true (by omega)
    have b2 : (0 ≤ ((201 * t + c : Nat) : Int) ∧ ((201 * t + c : Nat) : Int) < 8040) = True := eq_true (by omega)
    simp only [b1, if_true, tn, z1, q_M_in1 (S := Sm) (show 1 ≤ d - 1 by omega) (c : Int) 1 ((gD Sm 109 0 t) - 1) (by omega), b_I, e10, if_false, z2, b2, w18]
    rcases w17 (201 * t + c) with e | e | e
    · have := (w19 (201 * t + c)).2 e
      simp [e, this, h.1, h.2]
    · simp [e]
    · have := (w19 (201 * t + c)).1 e
      simp [e, this]
  · have z1 : aw oo ((gD Sm 109 0 t) - 1) = (gD Sm 109 0 t) - 1 := aw_id (by omega)
    have b1 : (0 ≤ (t : Int) ∧ (t : Int) < 40) = True := eq_true (by omega)
    simp only [b1, if_true, tn, z1, q_M_in0 (S := Sm) (show 1 ≤ d - 1 by omega) (c : Int) 1 ((gD Sm 109 0 t) - 1) (by omega), b_I]
    rw [if_neg (fun q => h ⟨q.1, q.2.1⟩)]
theorem w_missed {d' : Nat} {Sc Sm : SD} (hW : IW Sc Sm) (hd' : 2 ≤ d') (t : Nat) (kk : Int) (ht : t < 40) (hg : 0 ≤ (gD Sm 109 0 t) ∧ (gD Sm 109 0 t) ≤ 200) {K : KT} : ∀ (n c : Nat) (m : Int), 1 ≤ c → 202 - c < n → c ≤ 201 → ∃ r, run oo K false mi_139 n 25 [(0, vr (some (13, 0))), (1, vi (t : Int)), (2, vi kk), (3, vi m), (4, vi (gD Sm 109 0 t)), (5, vi (c : Int))] [] Sc = some (vi r, Sc) ∧ run oo (EE false d') false mi_214 n 15 [(0, vr (some (85, 0))), (1, vi (t : Int)), (2, vi kk), (3, vi m), (4, vi (c : Int))] [] Sm = some (vi r, Sm) := by
  intro n
  induction n with
  | zero => intro c m h0 h1 h2; omega
  | succ n ih =>
    intro c m h0 h1 h2
    rw [b139_25, b214_15]
    rw [bnd (show 0 ≤ (t : Int) ∧ (t : Int) < 40 by omega), tn]
    by_cases hj : (c : Int) < (gD Sm 109 0 t)
    · rw [if_pos hj, if_pos hj]
      (try simp (disch := omega) only [b_I, b_L, b_V, tn, e10, eq_self, if_true, if_false, ite_not, i01, aw201a, q_M_isMissed hW, awn]); (try simp (disch := omega) only [↓bnd])
      by_cases q : (gD Sc 28 0 (201 * t + c)) = 0
      · by_cases q2 : m = kk
        · simp only [q, q2, h0, hj, and_self, if_true]
          exact ⟨c, rfl, rfl⟩
        · simp only [q, q2, h0, hj, and_self, if_true, if_false]
          exact ih (c + 1) _ (by omega) (by omega) (by omega)
      · rw [if_neg q, if_neg (fun z => q z.2.2)]
        exact ih (c + 1) _ (by omega) (by omega) (by omega)
    · rw [if_neg hj, if_neg hj]
      by_cases q : kk = -1
      · rw [if_pos q, if_pos q]; exact ⟨m, rfl, rfl⟩
      · rw [if_neg q, if_neg q]; exact ⟨-1, rfl, rfl⟩
theorem o_missed (hd : 12 ≤ d) (a1 a2 : Int) : PI2 d CI2 155 214 vi [vi a1, vi a2] := by
  refine PI2_ro (fun i Sc Sm hi hC => ?_)
  obtain ⟨hN, hT, hS, hW, hK, hO, hX, hP, hR, hF, hA, hH, hQ, hG⟩ := hC
  have uIT := hT; unfold IT at uIT; obtain ⟨t1, t2, t3, t4, t5, t6, t7, t8, t9, t10, t11, t12, t13, t14, t15, t16⟩ := uIT
  rw [E155 (by omega), b155_0, E139 (by omega), b139_0, E214 (by omega), b214_0]
  by_cases h : 0 ≤ a1 ∧ a1 < (gD Sc 3 0 10)
  · obtain ⟨t, rfl⟩ := Int.eq_ofNat_of_zero_le h.1
    obtain ⟨c1, c2, c3⟩ := q_great hT hW hK (show 2 ≤ d - 1 - 1 by omega) t h.2
    obtain ⟨r, c4, m4⟩ := w_missed (d' := d - 1) hW (by omega) t a2 (by omega) ⟨c2, c3⟩ (K := EE false (d - 1 - 1)) 999999 1 0 (by omega) (by omega) (by omega)
    refine ⟨r, ?_, ?_⟩
    · (try simp (disch := omega) only [b_I, b_L, b_V, tn, e10, eq_self, if_true, if_false, ite_not, i01, q_thas1, c1]); (try simp (disch := omega) only [↓bnd])
      exact (congrArg (fun z => bI z _) c4)
    · (try simp (disch := omega) only [b_I, b_L, b_V, tn, e10, eq_self, if_true, if_false, ite_not, i01, q_M_isThing1]); (try simp (disch := omega) only [↓bnd])
      exact m4
  · refine ⟨-1, ?_, ?_⟩
    · (try simp (disch := omega) only [b_I, b_L, b_V, tn, e10, eq_self, if_true, if_false, ite_not, i01, q_thas0]); (try simp (disch := omega) only [↓bnd])
    · (try simp (disch := omega) only [b_I, b_L, b_V, tn, e10, eq_self, if_true, if_false, ite_not, i01, q_M_isThing0]); (try simp (disch := omega) only [↓bnd])
end
