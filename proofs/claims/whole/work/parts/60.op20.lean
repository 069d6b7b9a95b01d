/-! layer 2: word (4) -/
theorem ix30 {N : Nat} (h : N < 1000) : aw oo ((N : Int) * 3) = ((3 * N : Nat) : Int) := by rw [aw_id (by omega)]; omega
theorem ix3m {N : Nat} (h : N < 1000) : aw oo (3 * (N : Int)) = ((3 * N : Nat) : Int) := by rw [aw_id (by omega)]; omega
theorem awn2 {j : Nat} (h : j < 1000000) : aw oo ((j : Int) + 2) = ((j + 2 : Nat) : Int) := by rw [aw_id (by omega)]; rfl
section
variable {d : Nat}
theorem out_f {Sc Sm C Cm : SD} {N t f : Nat} {c : Int} (hN : (gD Sc 13 0 16) = (N : Int)) (hN4 : N < 400) (hW : IW Sc Sm) (hK : IC Sc Sm) (hT : IT C Cm) (hNW : NW Sc C N t) (htT : (t : Int) < (gD Sc 3 0 10)) (ht4 : t < 40) (hf : f < 3) (hbl : ∀ k, k < N → (gD Sc 14 0 k) = (t : Int) → (gD Sc 15 0 k) < c → (gD C 24 0 k) = (gD Sc 24 0 k)) (hI : ChI Sc N t (gD C 24 0 N) 0) (hR : ∀ P : Nat → Prop, (∀ k, P k → (gD Sc 14 0 k) = (t : Int) ∧ (gD Sc 15 0 k) < c) → ChR Sc N P (gD C 24 0 N)) (hL : ∀ v : Nat, (gD C 24 0 N) = (v : Int) → (gD Sc 15 0 v) < c)
    (hcN : (gD Cm 98 0 N) = c) (hth : ∀ k, (gD Cm 97 0 k) = (gD C 14 0 k)) (hct : ∀ k, k < N → (gD Cm 98 0 k) = (gD Sc 15 0 k)) (hfr : ∀ k, (gD Cm 101 0 k) = (gD C 18 0 k)) (hto : (gD Cm 102 0 N) = (gD C 19 0 N)) (hfg : ∀ k, (gD Cm 105 0 k) = (gD C 22 0 k)) (hnu : ∀ k, (gD Cm 106 0 k) = (gD C 23 0 k)) (hd : 5 ≤ d) {d' : Nat} (hd' : 4 ≤ d') : ∃ o, (o = 0 ∨ o = 1) ∧ EE false d 133 [vr (some (13, 0)), vi (N : Int), vi (f : Int)] C = some (vi o, C) ∧ ∀ Cm', EqX [103] [] Cm Cm' → EE false d' 209 [vr (some (85, 0)), vi (N : Int), vi (f : Int)] Cm' = some (vi o, Cm') := by
  have uIW := hW; unfold IW at uIW; obtain ⟨w1, w2, w3, w4, w5, w6, w7, w8, w9, w10, w11, w12, w13, w14, w15, w16, w17, w18, w19, w20, w21, w22, w23, w24⟩ := uIW
  obtain ⟨r, c1, hb⟩ := w_outside (d := d - 1) hN hN4 hW hK hT hNW htT hf hbl (by omega) 999999 0 (gD C 24 0 N) (by omega) hI (hR _ (fun k hk => ⟨hk.1, hk.2.1⟩)) hL
  have c1 : run oo (EE false (d - 1)) false mi_133 999999 18 [(0, vr (some (13, 0))), (1, vi (N : Int)), (2, vi (f : Int)), (3, vi (gD C 23 0 (3 * N + f))), (4, vi (gD C 24 0 N)), (5, vi 0)] [] C = some (vi (outV C N f r), C) := c1
  refine ⟨outV C N f r, ?_, ?_, fun Cm' y => ?_⟩
  · unfold outV; split
    · exact Or.inl rfl
    · split
      · exact Or.inr rfl
      · exact Or.inl rfl
  · rw [E133 (by omega), b133_0, q_number (by omega) N f hN4 (by rw [hNW.2.1]; omega) hf, b_I, bnd (by omega), tn]
    exact c1
  · rw [E209 (by omega), b209_0, aw3y (by omega), bnd (by omega), ix3a, EqX_a y 106 rfl, hnu]
    by_cases hv : (gD C 23 0 (3 * N + f)) = -1000000
    · rw [if_pos hv]
      unfold outV
      rw [if_pos (Or.inl hv)]
    · rw [if_neg hv]
      have yr : EqX [] [] C C := EqX_rf
      obtain ⟨r', m1, hb'⟩ := w_M_outside (d := d' - 1) (C := C) (Cm := Cm') (c := c) hN hN4 hW (IT_fr (AgX yr rfl) (AgX y rfl) hT) hNW ht4 hf (by rw [EqX_a y 98 rfl]; exact hcN) (fun k => by rw [EqX_a y 97 rfl]; exact hth k) (fun k hk => by rw [EqX_a y 98 rfl]; exact hct k hk) (fun k => by rw [EqX_a y 101 rfl]; exact hfr k) (by rw [EqX_a y 102 rfl]; exact hto) (fun k => by rw [EqX_a y 105 rfl]; exact hfg k) (fun k => by rw [EqX_a y 106 rfl]; exact hnu k) hv (by omega) 999999 0 (-1) (by omega) (by omega) Best_0
      have e := Best_un (fun k l hk hl p q e => w21 k l (by omega) (by omega) (by rw [p.1, q.1]) e) hb hb'
      subst e
      exact m1
theorem w_bitsO {C Cm : SD} {N : Nat} (hN4 : N < 400) (a1 a2 : Int) {d' : Nat} (ho : ∀ f : Nat, f < 3 → ∃ o, (o = 0 ∨ o = 1) ∧ EE false d 133 [vr (some (13, 0)), vi (N : Int), vi (f : Int)] C = some (vi o, C) ∧ ∀ Cm', EqX [103] [] Cm Cm' → EE false d' 209 [vr (some (85, 0)), vi (N : Int), vi (f : Int)] Cm' = some (vi o, Cm')) : ∀ (n f : Nat) (bits : Int) (Cm' : SD), EqX [103] [] Cm Cm' → (gD Cm' 103 0 N) = bits → (∀ k, k ≠ N → (gD Cm' 103 0 k) = (gD Cm 103 0 k)) → f ≤ 3 → 3 - f + 1 < n → ∃ fin Cm'', run oo (EE false d) false mi_132 n 4 [(0, vr (some (13, 0))), (1, vi (N : Int)), (2, vi bits), (3, vi (f : Int))] [] C = some (vi fin, C) ∧ EqX [103] [] Cm Cm'' ∧ (gD Cm'' 103 0 N) = fin ∧ (∀ k, k ≠ N → (gD Cm'' 103 0 k) = (gD Cm 103 0 k)) ∧ ∀ n', 3 - f + 1 < n' → ∃ n'', run oo (EE false d') false mi_211 n' 198 [(0, vr (some (85, 0))), (1, vi a1), (2, vi a2), (7, vi (N : Int)), (8, vi (f : Int))] [] Cm' = run oo (EE false d') false mi_211 (n'' + 1) 198 [(0, vr (some (85, 0))), (1, vi a1), (2, vi a2), (7, vi (N : Int)), (8, vi 3)] [] Cm'' := by
  intro n
  induction n with
  | zero => intro f bits Cm' h1 h2 h3 h4 h5; omega
  | succ n ih =>
    intro f bits Cm' h1 h2 h3 h4 h5
    rw [b132_4]
    by_cases hf : f < 3
    · obtain ⟨o, ho1, ho2, ho3⟩ := ho f hf
      rw [if_pos (by omega), ho2, b_I, awp (by omega)]
      rcases ho1 with rfl | rfl
      · obtain ⟨fin, Cm'', i1, i2, i3, i4, i5⟩ := ih (f + 1) bits Cm' h1 h2 h3 (by omega) (by omega)
        refine ⟨fin, Cm'', by rw [if_pos rfl]; exact i1, i2, i3, i4, fun n' hn' => ?_⟩
        obtain ⟨n', rfl⟩ : ∃ m, n' = m + 1 := ⟨n' - 1, by omega⟩
        obtain ⟨n'', i6⟩ := i5 n' (by omega)
        exact ⟨n'', by rw [b211_198, if_pos (by omega), ho3 _ h1, b_I, if_pos rfl, awp (by omega)]; exact i6⟩
      · obtain ⟨fin, Cm'', i1, i2, i3, i4, i5⟩ := ih (f + 1) (ab oo 1 bits (ab oo 3 1 (f : Int))) (wD Cm' 103 0 N (ab oo 1 bits (ab oo 3 1 (f : Int)))) (EqX_wA h1 (by decide)) g_e (fun k hk => by rw [g_k hk]; exact h3 k hk) (by omega) (by omega)
        refine ⟨fin, Cm'', by rw [if_neg (by decide)]; exact i1, i2, i3, i4, fun n' hn' => ?_⟩
        obtain ⟨n', rfl⟩ : ∃ m, n' = m + 1 := ⟨n' - 1, by omega⟩
        obtain ⟨n'', i6⟩ := i5 n' (by omega)
        exact ⟨n'', by rw [b211_198, if_pos (by omega), ho3 _ h1, b_I, if_neg (by decide), bnd (by omega), bnd (by omega), tn, h2, awp (by omega)]; exact i6⟩
    · have e : f = 3 := by omega
      subst e
      refine ⟨bits, Cm', by rw [if_neg (by omega)], h1, h2, h3, fun n' hn' => ⟨n' - 1, ?_⟩⟩
      rw [show n' - 1 + 1 = n' by omega]
      rfl
theorem o_word (hd : 12 ≤ d) (a1 a2 a3 a4 a5 a6 : Int) : PI2 d CI2 152 211 vi [vi a1, vi a2, vi a3, vi a4, vi a5, vi a6] := by
  intro i Sc Sm hi' hC
  have hC' := hC
  obtain ⟨hN, hT, hS, hW, hK, hO, hX, hP, hR, hF, hA, hH, hQ, hG⟩ := hC
  have fin : ∀ r, EE false d 152 [vr (some (2, 0)), vi a1, vi a2, vi a3, vi a4, vi a5, vi a6] Sc = some (vi r, Sc) → EE false d 211 [vr (some (85, 0)), vi a1, vi a2, vi a3, vi a4, vi a5, vi a6] Sm = some (vi r, Sm) → ∃ (x : Int) (Sc' Sm' : SD), EE false d 152 [vr (some (2, 0)), vi a1, vi a2, vi a3, vi a4, vi a5, vi a6] Sc = some (vi x, Sc') ∧ EqC Sc Sc' ∧ EE false d 211 [vr (some (85, 0)), vi a1, vi a2, vi a3, vi a4, vi a5, vi a6] Sm = some (vi x, Sm') ∧ EqM Sm Sm' ∧ CI2 (i + 1) Sc' Sm' := fun r c m => ⟨r, Sc, Sm, c, EqC_rf, m, EqM_rf, CI2_up hC'⟩
  have uN := hN; unfold IN at uN
  obtain ⟨n1, n2, n3⟩ := uN
  have uIT := hT; unfold IT at uIT; obtain ⟨t1, t2, t3, t4, t5, t6, t7, t8, t9, t10, t11, t12, t13, t14, t15, t16⟩ := uIT
  have uIW := hW; unfold IW at uIW; obtain ⟨w1, w2, w3, w4, w5, w6, w7, w8, w9, w10, w11, w12, w13, w14, w15, w16, w17, w18, w19, w20, w21, w22, w23, w24⟩ := uIW
  have c2 := (E152 (d := d) (by omega) Sc a1 a2 a3 a4 a5 a6).trans (b152_0 oo (EE false (d - 1)) 999999 Sc a1 a2 a3 a4 a5 a6)
  have m2 := (E211 (d := d) (by omega) Sm a1 a2 a3 a4 a5 a6).trans (b211_0 oo (EE false (d - 1)) 999999 Sm a1 a2 a3 a4 a5 a6)
  rw [E128 (by omega), b128_0] at c2
  rw [w1] at m2
  obtain ⟨N, hNN⟩ : ∃ N : Nat, (gD Sc 13 0 16) = (N : Int) := Int.eq_ofNat_of_zero_le w2
  by_cases g0 : N < 400
  · rw [if_pos (by omega)] at c2
    rw [if_neg (by omega)] at m2
    by_cases g1 : 0 ≤ a1 ∧ a1 < (gD Sc 3 0 10)
    · obtain ⟨t, rfl⟩ := Int.eq_ofNat_of_zero_le g1.1
      have ht4 : t < 40 := by omega
      rw [q_thas1 (by omega) t g1.2, b_I, if_neg (by decide)] at c2
      rw [q_M_isThing1 (by omega) _ (by omega), b_I, if_neg (by decide)] at m2
      by_cases g2 : 1 ≤ a2 ∧ a2 ≤ 200
      · obtain ⟨c, rfl⟩ := Int.eq_ofNat_of_zero_le (show 0 ≤ a2 by omega)
        rw [q_in1 (by omega) _ _ _ g2, b_I, if_neg (by decide)] at c2
        rw [q_M_in1 (by omega) _ _ _ g2, b_I, if_neg (by decide)] at m2
        by_cases g3 : 0 ≤ a3 ∧ a3 ≤ 3999
        · rw [q_isTick1 (by omega) _ g3, b_I, if_neg (by decide)] at c2
          rw [q_M_isTick1 (by omega) _ g3, b_I, if_neg (by decide), q_M_isNumber (by omega), b_I] at m2
          rw [q_mayBe (by omega), b_I] at c2
          by_cases g4 : a4 = -1000000 ∨ (-100000 ≤ a4 ∧ a4 ≤ 100000)
          · rw [if_pos g4, if_neg (by decide), q_mayBe (by omega), b_I] at c2
            rw [if_pos g4, if_neg (by decide), q_M_isNumber (by omega), b_I] at m2
            by_cases g5 : a5 = -1000000 ∨ (-100000 ≤ a5 ∧ a5 ≤ 100000)
            · rw [if_pos g5, if_neg (by decide), q_mayBe (by omega), b_I] at c2
              rw [if_pos g5, if_neg (by decide), q_M_isNumber (by omega), b_I] at m2
              by_cases g6 : a6 = -1000000 ∨ (-100000 ≤ a6 ∧ a6 ≤ 100000)
              · rw [if_pos g6, if_neg (by decide), aw201a (by omega), bnd (by omega), tn] at c2
                rw [if_pos g6, if_neg (by decide), aw201b (by omega), bnd (by omega), tn, w18] at m2
                by_cases gm : (gD Sc 28 0 (201 * t + c)) = 1
                · rw [if_pos gm, b_I, if_pos (by decide)] at c2
                  rw [if_pos gm, if_neg (by decide)] at m2
                  exact fin _ c2 m2
                · rw [if_neg gm] at c2
                  rw [if_neg gm, if_pos rfl] at m2
                  have b1 : (0 ≤ ((201 * t + c : Nat) : Int) ∧ ((201 * t + c : Nat) : Int) < 8040) = True := eq_true (by omega)
                  have b2 : (0 ≤ (N : Int) ∧ (N : Int) < 400) = True := eq_true (by omega)
                  have b3 : (0 ≤ ((3 * N : Nat) : Int) ∧ ((3 * N : Nat) : Int) < 1200) = True := eq_true (by omega)
                  have b4 : (0 ≤ ((3 * N + 1 : Nat) : Int) ∧ ((3 * N + 1 : Nat) : Int) < 1200) = True := eq_true (by omega)
                  have b5 : (0 ≤ ((3 * N + 2 : Nat) : Int) ∧ ((3 * N + 2 : Nat) : Int) < 1200) = True := eq_true (by omega)
                  have b6 : (0 ≤ (t : Int) ∧ (t : Int) < 40) = True := eq_true (by omega)
                  have hMN : (gD Sm 85 0 13) = (N : Int) := w1.trans hNN
                  simp only [hNN, ix30 (show N < 1000 by omega), awn (show 3 * N < 1000000 by omega), awn2 (show 3 * N < 1000000 by omega), awn (show N < 1000000 by omega), b1, b2, b3, b4, b5, if_true, tn] at c2
                  simp (disch := decide) only [hNN, hMN, ix3m (show N < 1000 by omega), awn (show 3 * N < 1000000 by omega), awn2 (show 3 * N < 1000000 by omega), b2, b3, b4, b5, b6, if_true, tn, g_f, n1] at m2
                  generalize hC1 : wD (wD (wD (wD (wD (wD (wD (wD (wD Sc 13 0 16 ((N + 1 : Nat) : Int)) 28 0 (201 * t + c) 1) 14 0 N (t : Int)) 15 0 N (c : Int)) 16 0 N a3) 17 0 N (gD Sc 2 0 9)) 23 0 (3 * N) a4) 23 0 (3 * N + 1) a5) 23 0 (3 * N + 2) a6 = C1 at c2
                  generalize hM1 : wD (wD (wD (wD (wD (wD (wD Sm 97 0 N (t : Int)) 98 0 N (c : Int)) 99 0 N a3) 100 0 N (gD Sc 2 0 9)) 106 0 (3 * N) a4) 106 0 (3 * N + 1) a5) 106 0 (3 * N + 2) a6 = M1 at m2
                  have m3 : EE false d 211 [vr (some (85, 0)), vi (t : Int), vi (c : Int), vi a3, vi a4, vi a5, vi a6] Sm = bV (EE false (d - 1) 210 [vr (some (85, 0)), vi (N : Int)] (wD M1 104 0 N (if (c : Int) < (gD Sm 109 0 t) then 1 else 0))) (fun S13 => run oo (EE false (d - 1)) false mi_211 999999 198 [(0, vr (some (85, 0))), (1, vi (t : Int)), (2, vi (c : Int)), (7, vi (N : Int)), (8, vi 0)] [] (wD S13 103 0 N 0)) := by
                    rw [m2]
                    by_cases z : (c : Int) < (gD Sm 109 0 t)
                    · rw [if_pos z, if_pos z]
                    · rw [if_neg z, if_neg z]
                  clear m2
                  have x1 : EqX [28, 14, 15, 16, 17, 23] [(13, 16)] Sc C1 := by
                    rw [← hC1]
                    repeat (first | exact EqX_rf | refine EqX_wA ?_ (by decide) | refine EqX_wC ?_ (by decide))
                  have y1 : EqX [97, 98, 99, 100, 106, 104] [] Sm (wD M1 104 0 N (if (c : Int) < (gD Sm 109 0 t) then 1 else 0)) := by
                    rw [← hM1]
                    repeat (first | exact EqX_rf | refine EqX_wA ?_ (by decide) | refine EqX_wC ?_ (by decide))
                  have nowC : (gD C1 2 0 9) = (gD Sc 2 0 9) := EqX_c x1 2 9 rfl 0
                  obtain ⟨x, y, s1, s2, s3, s4, s5, s6⟩ := span_both (d := d - 1 - 1) (d' := d - 1) (IS_fr (AgX x1 rfl) (AgX y1 rfl) hS) (by omega) (IT_fr (AgX x1 rfl) (AgX y1 rfl) hT) (IN_fr (AgX x1 rfl) (AgX y1 rfl) hN) t N a3 g3 g0 (by rw [EqX_c x1 3 10 rfl]; exact g1.2) (by rw [← hM1]; simp (disch := decide) only [g_f, g_e]) (by rw [← hM1]; simp (disch := decide) only [g_f, g_e]) (by omega) (by omega)
                  rw [nowC] at s1 s4 s6
                  rw [s1, b_V] at c2
                  rw [s2, b_V] at m3
                  generalize hC2 : wD (wD C1 18 0 N x) 19 0 N y = C2 at c2
                  generalize hM3 : wD (wD (wD (wD M1 104 0 N (if (c : Int) < (gD Sm 109 0 t) then 1 else 0)) 101 0 N x) 102 0 N y) 103 0 N 0 = M3 at m3
                  have A14 : ∀ k, (gD C2 14 0 k) = if k = N then (t : Int) else (gD Sc 14 0 k) := fun k => by rw [← hC2, ← hC1]; simp (disch := decide) only [g_f, g_i]
                  have A15 : ∀ k, (gD C2 15 0 k) = if k = N then (c : Int) else (gD Sc 15 0 k) := fun k => by rw [← hC2, ← hC1]; simp (disch := decide) only [g_f, g_i]
                  have A16 : ∀ k, (gD C2 16 0 k) = if k = N then a3 else (gD Sc 16 0 k) := fun k => by rw [← hC2, ← hC1]; simp (disch := decide) only [g_f, g_i]
                  have A17 : ∀ k, (gD C2 17 0 k) = if k = N then (gD Sc 2 0 9) else (gD Sc 17 0 k) := fun k => by rw [← hC2, ← hC1]; simp (disch := decide) only [g_f, g_i]
                  have A18 : ∀ k, (gD C2 18 0 k) = if k = N then x else (gD Sc 18 0 k) := fun k => by rw [← hC2, ← hC1]; simp (disch := decide) only [g_f, g_i]
                  have A19 : ∀ k, (gD C2 19 0 k) = if k = N then y else (gD Sc 19 0 k) := fun k => by rw [← hC2, ← hC1]; simp (disch := decide) only [g_f, g_i]
                  have A23 : ∀ k, (gD C2 23 0 k) = if k = 3 * N + 2 then a6 else if k = 3 * N + 1 then a5 else if k = 3 * N then a4 else (gD Sc 23 0 k) := fun k => by rw [← hC2, ← hC1]; simp (disch := decide) only [g_f, g_i]
                  have A28 : ∀ k, (gD C2 28 0 k) = if k = 201 * t + c then 1 else (gD Sc 28 0 k) := fun k => by rw [← hC2, ← hC1]; simp (disch := decide) only [g_f, g_i]
                  have Asz : (gD C2 13 0 16) = (N : Int) + 1 := by rw [← hC2, ← hC1]; simp (disch := decide) only [g_f, g_e]; rfl
                  have x2 : EqX [28, 14, 15, 16, 17, 23, 18, 19] [(13, 16)] Sc C2 := by
                    rw [← hC2]
                    exact EqX_wA (EqX_wA (EqX_mo x1 (by decide) (by decide)) (by decide)) (by decide)
                  have B97 : ∀ k, (gD M3 97 0 k) = if k = N then (t : Int) else (gD Sm 97 0 k) := fun k => by rw [← hM3, ← hM1]; simp (disch := decide) only [g_f, g_i]
                  have B98 : ∀ k, (gD M3 98 0 k) = if k = N then (c : Int) else (gD Sm 98 0 k) := fun k => by rw [← hM3, ← hM1]; simp (disch := decide) only [g_f, g_i]
                  have B99 : ∀ k, (gD M3 99 0 k) = if k = N then a3 else (gD Sm 99 0 k) := fun k => by rw [← hM3, ← hM1]; simp (disch := decide) only [g_f, g_i]
                  have B100 : ∀ k, (gD M3 100 0 k) = if k = N then (gD Sc 2 0 9) else (gD Sm 100 0 k) := fun k => by rw [← hM3, ← hM1]; simp (disch := decide) only [g_f, g_i]
                  have B101 : ∀ k, (gD M3 101 0 k) = if k = N then x else (gD Sm 101 0 k) := fun k => by rw [← hM3, ← hM1]; simp (disch := decide) only [g_f, g_i]
                  have B102 : ∀ k, (gD M3 102 0 k) = if k = N then y else (gD Sm 102 0 k) := fun k => by rw [← hM3, ← hM1]; simp (disch := decide) only [g_f, g_i]
                  have B104 : ∀ k, (gD M3 104 0 k) = if k = N then (if (c : Int) < (gD Sm 109 0 t) then 1 else 0) else (gD Sm 104 0 k) := fun k => by rw [← hM3, ← hM1]; simp (disch := decide) only [g_f, g_i]
                  have B106 : ∀ k, (gD M3 106 0 k) = if k = 3 * N + 2 then a6 else if k = 3 * N + 1 then a5 else if k = 3 * N then a4 else (gD Sm 106 0 k) := fun k => by rw [← hM3, ← hM1]; simp (disch := decide) only [g_f, g_i]
                  have B103 : ∀ k, k ≠ N → (gD M3 103 0 k) = (gD Sm 103 0 k) := fun k hk => by rw [← hM3, ← hM1, g_k hk]; simp (disch := decide) only [g_f]
                  have y3 : EqX [97, 98, 99, 100, 106, 104, 101, 102, 103] [] Sm M3 := by
                    rw [← hM3]
                    exact EqX_wA (EqX_wA (EqX_wA (EqX_mo y1 (by decide) (by decide)) (by decide)) (by decide)) (by decide)
                  have hne : ∀ k, k < N → (gD Sc 14 0 k) = (t : Int) → (gD Sc 15 0 k) ≠ (c : Int) := fun k hk h1 h2 => by
                    have := w20 k (by omega)
                    rw [h1, h2, show ((t : Int) * 201 + (c : Int)).toNat = 201 * t + c by omega] at this
                    exact gm this
                  obtain ⟨C3, c3, xh, hlate, hbef, hlast, hbelow, hI9, hR9, hL9, hCh⟩ := q_hang (d := d - 1 - 1) (C := C2) (c := (c : Int)) hNN g0 hT hW hK g1.2 g2.1 Asz (fun k hk => by rw [A15, if_neg (by omega)]) (fun k => EqX_a x2 24 rfl 0 k) (fun k => EqX_a x2 26 rfl 0 k) (fun k => EqX_a x2 27 rfl 0 k) hne (by omega)
                  rw [c3, b_V] at c2
                  have x3 : EqX [28, 14, 15, 16, 17, 23, 18, 19, 21, 24, 25, 26, 27] [(13, 16)] Sc C3 := EqX_tr (EqX_mo x2 (by decide) (by decide)) (EqX_mo xh (by decide) (by decide))
                  have hNW : NW Sc C3 N t := ⟨EqX_c x3 3 10 rfl 0, by rw [EqX_c xh 13 16 rfl]; exact Asz, fun k hk => by rw [EqX_a xh 14 rfl, A14, if_neg (by omega)], by rw [EqX_a xh 14 rfl, A14, if_pos rfl], fun k hk => by rw [EqX_a xh 15 rfl, A15, if_neg (by omega)], fun k hk => by rw [EqX_a xh 18 rfl, A18, if_neg (by omega)], fun k hk => EqX_a x3 22 rfl 0 k, fun k hk => by rw [EqX_a xh 23 rfl, A23, if_neg (by omega), if_neg (by omega), if_neg (by omega)]⟩
                  have hT3 : IT C3 M3 := IT_fr (AgX x3 rfl) (AgX y3 rfl) hT
                  have ho : ∀ f : Nat, f < 3 → _ := fun f hf => out_f (d := d - 1 - 1 - 1) (d' := d - 1) (C := C3) (Cm := M3) (c := (c : Int)) hNN g0 hW hK hT3 hNW g1.2 ht4 hf hbelow hI9 hR9 hL9 (by rw [B98, if_pos rfl]) (fun k => by rw [B97, EqX_a xh 14 rfl, A14, w4]) (fun k hk => by rw [B98, if_neg (by omega), w5]) (fun k => by rw [B101, EqX_a xh 18 rfl, A18, w8]) (by rw [B102, if_pos rfl, EqX_a xh 19 rfl, A19, if_pos rfl]) (fun k => by rw [EqX_a y3 105 rfl, EqX_a x3 22 rfl, w12]) (fun k => by rw [B106, EqX_a xh 23 rfl, A23, w13]) (by omega) (by omega)
                  obtain ⟨bits, M4, f1, f2, f3, f4, f5⟩ := w_bitsO (d := d - 1 - 1 - 1) (d' := d - 1) (C := C3) (Cm := M3) (N := N) g0 (t : Int) (c : Int) ho 999999 0 0 M3 EqX_rf (by rw [← hM3, g_e]) (fun k _ => rfl) (by omega) (by omega)
                  obtain ⟨n'', f6⟩ := f5 999999 (by omega)
                  have f1 : run oo (EE false (d - 1 - 1 - 1)) false mi_132 999999 4 [(0, vr (some (13, 0))), (1, vi (N : Int)), (2, vi 0), (3, vi 0)] [] C3 = some (vi bits, C3) := f1
                  have f6 : run oo (EE false (d - 1)) false mi_211 999999 198 [(0, vr (some (85, 0))), (1, vi (t : Int)), (2, vi (c : Int)), (7, vi (N : Int)), (8, vi 0)] [] M3 = _ := f6
                  rw [E132 (by omega), b132_0, f1, b_I, b_I, if_neg (by omega)] at c2
                  have y4 : EqX [97, 98, 99, 100, 106, 104, 101, 102, 103] [] Sm M4 := EqX_tr y3 (EqX_mo f2 (by decide) (by decide))
                  have gr4 : (gD M4 109 0 t) = (gD Sm 109 0 t) := EqX_a y4 109 rfl 0 t
                  have wd4 : (gD M4 85 0 13) = (N : Int) := by rw [EqX_c y4 85 13 rfl]; exact hMN
                  rw [f6, b211_198, if_neg (by decide), aw201b (by omega), bnd (by omega), bnd (by omega), tn, tn, g_f (by decide), gr4, q_M_more _ (by omega), b_I, bnd (by omega), g_f (by decide), g_f (by decide), wd4, awn (by omega)] at m3
                  generalize hC4 : wD C3 20 0 N bits = C4 at c2
                  generalize hM5 : wD (wD (wD M4 107 0 (201 * t + c) 1) 109 0 t (max (gD Sm 109 0 t) (c : Int))) 85 0 13 ((N + 1 : Nat) : Int) = M5 at m3
                  have x4 : EqX [28, 14, 15, 16, 17, 23, 18, 19, 21, 24, 25, 26, 27, 20] [(13, 16)] Sc C4 := by
                    rw [← hC4]
                    exact EqX_wA (EqX_mo x3 (by decide) (by decide)) (by decide)
                  have y5 : EqX [97, 98, 99, 100, 106, 104, 101, 102, 103, 107, 109] [(85, 13)] Sm M5 := by
                    rw [← hM5]
                    exact EqX_wC (EqX_wA (EqX_wA (EqX_mo y4 (by decide) (by decide)) (by decide)) (by decide)) (by decide)
                  have x34 : EqX [20] [] C3 C4 := by
                    rw [← hC4]; exact EqX_wA EqX_rf (by decide)
                  have x24 : EqX [21, 24, 25, 26, 27, 20] [] C2 C4 := EqX_tr (EqX_mo xh (by decide) (by decide)) (EqX_mo x34 (by decide) (by decide))
                  have y35 : EqX [103, 107, 109] [(85, 13)] M3 M5 := by
                    rw [← hM5]
                    exact EqX_wC (EqX_wA (EqX_wA (EqX_mo f2 (by decide) (by decide)) (by decide)) (by decide)) (by decide)
                  have Wsz : (gD C4 13 0 16) = ((N + 1 : Nat) : Int) := by rw [EqX_c x24 13 16 rfl, Asz]; rfl
                  have hW5 : IW C4 M5 := by
                    unfold IW
                    refine ⟨?_, ?_, ?_, fun k => ?_, fun k => ?_, fun k => ?_, fun k => ?_, fun k => ?_, fun k => ?_, fun k => ?_, fun k => ?_, fun k => ?_, fun k => ?_, fun k => ?_, fun k hk => ?_, fun k l hkl hl => ?_, fun k => ?_, fun k => ?_, fun k => ?_, fun k hk => ?_, fun k l hk hl h1 h2 => ?_, fun k hk => ?_, fun k => ?_, fun k => ?_⟩
                    · rw [Wsz, ← hM5, g_e]
                    · rw [Wsz]; omega
                    · rw [Wsz]; omega
                    · rw [EqX_a y35 97 rfl, EqX_a x24 14 rfl, B97, A14, w4]
                    · rw [EqX_a y35 98 rfl, EqX_a x24 15 rfl, B98, A15, w5]
                    · rw [EqX_a y35 99 rfl, EqX_a x24 16 rfl, B99, A16, w6]
                    · rw [EqX_a y35 100 rfl, EqX_a x24 17 rfl, B100, A17, w7]
                    · rw [EqX_a y35 101 rfl, EqX_a x24 18 rfl, B101, A18, w8]
                    · rw [EqX_a y35 102 rfl, EqX_a x24 19 rfl, B102, A19, w9]
                    · rw [← hM5, g_f (by decide), g_f (by decide), g_f (by decide), ← hC4, g_i]
                      by_cases e : k = N
                      · rw [if_pos e, e]; exact f3
                      · rw [if_neg e, f4 k e, B103 k e, w10, EqX_a x3 20 rfl]
                    · rw [EqX_a y35 104 rfl, EqX_a x34 21 rfl, B104, hlate, w11, EqX_a x2 21 rfl]
                    · rw [EqX_a y5 105 rfl, EqX_a x4 22 rfl, w12]
                    · rw [EqX_a y35 106 rfl, EqX_a x24 23 rfl, B106, A23, w13]
                    · rw [EqX_a x24 23 rfl, A23]
                      have := w14 k
                      split
                      · exact g6
                      · split
                        · exact g5
                        · split
                          · exact g4
                          · exact this
                    · rw [Wsz] at hk
                      rw [EqX_a x24 14 rfl, EqX_a x24 15 rfl, EqX_a x24 17 rfl, EqX_a x24 18 rfl, EqX_a x24 19 rfl, A14, A15, A17, A18, A19, EqX_c x4 3 10 rfl, EqX_c x4 2 9 rfl]
                      by_cases e : k = N
                      · simp only [e, if_true]; omega
                      · simp only [e, if_false]; exact w15 k (by omega)
                    · rw [Wsz] at hl
                      rw [EqX_a x24 17 rfl, EqX_a x24 17 rfl, A17, A17]
                      by_cases e : l = N
                      · rw [if_pos e]
                        split
                        · omega
                        · have := w15 k (by omega); omega
                      · rw [if_neg e, if_neg (by omega)]
                        exact w16 k l hkl (by omega)
                    · rw [EqX_a x24 28 rfl, A28]
                      split
                      · exact Or.inr (Or.inl rfl)
                      · exact w17 k
                    · rw [EqX_a x24 28 rfl, A28, ← hM5, g_f (by decide), g_f (by decide), g_i, EqX_a y4 107 rfl]
                      by_cases e : k = 201 * t + c
                      · rw [if_pos e, if_pos e, if_pos rfl]
                      · rw [if_neg e, if_neg e]; exact w18 k
                    · rw [EqX_a x24 28 rfl, A28, EqX_a y5 108 rfl]
                      by_cases e : k = 201 * t + c
                      · rw [if_pos e]; exact ⟨fun z => absurd z (by decide), fun z => absurd z (by decide)⟩
                      · rw [if_neg e]; exact w19 k
                    · rw [Wsz] at hk
                      rw [EqX_a x24 14 rfl, EqX_a x24 15 rfl, EqX_a x24 28 rfl, A14, A15, A28]
                      by_cases e : k = N
                      · rw [if_pos e, if_pos e, if_pos (by omega)]
                      · rw [if_neg e, if_neg e]
                        split
                        · rfl
                        · exact w20 k (by omega)
                    · rw [Wsz] at hk hl
                      rw [EqX_a x24 14 rfl, EqX_a x24 14 rfl, A14, A14] at h1
                      rw [EqX_a x24 15 rfl, EqX_a x24 15 rfl, A15, A15] at h2
                      by_cases e : k = N
                      · by_cases e2 : l = N
                        · omega
                        · rw [if_pos e, if_neg e2] at h1 h2
                          exact absurd h2.symm (hne l (by omega) h1.symm)
                      · by_cases e2 : l = N
                        · rw [if_neg e, if_pos e2] at h1 h2
                          exact absurd h2 (hne k (by omega) h1)
                        · rw [if_neg e, if_neg e2] at h1 h2
                          exact w21 k l (by omega) (by omega) h1 h2
                    · rw [Wsz] at hk
                      rw [EqX_a x4 22 rfl]; exact w22 k (by omega)
                    · rw [EqX_a x34 21 rfl, hlate, EqX_a x2 21 rfl]
                      split
                      · split
                        · exact Or.inr rfl
                        · exact Or.inl rfl
                      · exact w23 k
                    · rw [EqX_a x4 22 rfl]; exact w24 k
                  have hK5 : IC C4 M5 := by
                    obtain ⟨q1, q2⟩ := hCh (fun k => (gD C4 14 0 k)) (fun k => (gD C4 15 0 k)) (fun k => by show (gD C4 14 0 k) = _; rw [EqX_a x24 14 rfl, A14]) (fun k => by show (gD C4 15 0 k) = _; rw [EqX_a x24 15 rfl, A15])
                    have uK := hK; unfold IC at uK
                    obtain ⟨k1, k2, k3, k4⟩ := uK
                    have T4 : ∀ k, (gD C4 14 0 k) = if k = N then (t : Int) else (gD Sc 14 0 k) := fun k => by rw [EqX_a x24 14 rfl, A14]
                    have K4 : ∀ k, (gD C4 15 0 k) = if k = N then (c : Int) else (gD Sc 15 0 k) := fun k => by rw [EqX_a x24 15 rfl, A15]
                    have G5 : ∀ u, (gD M5 109 0 u) = if u = t then max (gD Sm 109 0 t) (c : Int) else (gD Sm 109 0 u) := fun u => by rw [← hM5, g_f (by decide), g_i, g_f (by decide), EqX_a y4 109 rfl]
                    have L4 : ∀ k, (gD C4 27 0 k) = if k = t then (N : Int) else (gD Sc 27 0 k) := fun k => by rw [EqX_a x34 27 rfl, hlast]
                    have F4 : ∀ k, (gD C4 25 0 k) = if k = N then (gD Sc 27 0 t) else (gD Sc 25 0 k) := fun k => by rw [EqX_a x34 25 rfl, hbef, EqX_a x2 25 rfl]
                    unfold IC
                    rw [Wsz]
                    refine ⟨fun u hu => ?_, fun w hw => ?_, fun u hu => ?_, fun w hw => ?_⟩
                    · rcases q1 u hu with ⟨h1, h2⟩ | ⟨w, h1, h2, h3, h4⟩
                      · left
                        have hut : u ≠ t := fun e => by
                          have := h2 N (by omega)
                          rw [show (fun k => (gD C4 14 0 k)) N = (gD C4 14 0 N) from rfl, T4, if_pos rfl, e] at this
                          exact this rfl
                        refine ⟨by rw [EqX_a x34 26 rfl]; exact h1, ?_, fun k hk => h2 k (by omega)⟩
                        rw [G5, if_neg hut]
                        rcases k1 u hu with ⟨_, h5, _⟩ | ⟨v, _, h6, h7, _⟩
                        · exact h5
                        · have := h2 v (by omega)
                          rw [show (fun k => (gD C4 14 0 k)) v = (gD C4 14 0 v) from rfl, T4, if_neg (by omega)] at this
                          exact absurd h7 this
                      · right
                        have h3 : (gD C4 14 0 w) = (u : Int) := h3
                        have h4 : ∀ k, k < N + 1 → (gD C4 14 0 k) = (u : Int) → (gD C4 15 0 k) ≤ (gD C4 15 0 w) := h4
                        refine ⟨w, by rw [EqX_a x34 26 rfl]; exact h1, by omega, h3, ?_, fun k hk hk2 => h4 k (by omega) hk2⟩
                        rw [G5]
                        by_cases hut : u = t
                        · subst hut
                          rw [if_pos rfl]
                          have z1 := h4 N (by omega) (by rw [T4, if_pos rfl])
                          rw [K4 N, if_pos rfl] at z1
                          rcases k1 u hu with ⟨_, h5, h6⟩ | ⟨v, _, h6, h7, h8, h9⟩
                          · have : w = N := by
                              apply Decidable.byContradiction
                              intro z
                              rw [T4, if_neg z] at h3
                              exact h6 w (by omega) h3
                            subst this
                            rw [h5, K4, if_pos rfl]
                            omega
                          · have z2 := h4 v (by omega) (by rw [T4, if_neg (by omega)]; exact h7)
                            rw [K4 v, if_neg (by omega)] at z2
                            by_cases e : w = N
                            · rw [K4 w, if_pos e] at z2 ⊢
                              omega
                            · rw [K4 w, if_neg e] at z1 z2 ⊢
                              have := h9 w (by omega) (by rw [T4, if_neg e] at h3; exact h3)
                              omega
                        · rw [if_neg hut]
                          have hwN : w ≠ N := fun e => by rw [T4, if_pos e] at h3; omega
                          rw [T4, if_neg hwN] at h3
                          rw [K4, if_neg hwN]
                          rcases k1 u hu with ⟨_, _, h6⟩ | ⟨v, _, h6, h7, h8, h9⟩
                          · exact absurd h3 (h6 w (by omega))
                          · have z2 := h4 v (by omega) (by rw [T4, if_neg (by omega)]; exact h7)
                            rw [K4 v, if_neg (by omega), K4 w, if_neg hwN] at z2
                            have := h9 w (by omega) h3
                            omega
                    · have hw2 : w < N + 1 := by omega
                      rw [EqX_a x34 24 rfl]
                      rcases q2 w hw2 with ⟨h1, h2⟩ | ⟨v, h1, h2, h3, h4, h5⟩
                      · exact Or.inl ⟨h1, fun k hk hk2 => h2 k (by omega) hk2⟩
                      · exact Or.inr ⟨v, h1, by omega, h3, h4, fun k hk hk2 hk3 => h5 k (by omega) hk2 hk3⟩
                    · rw [L4]
                      by_cases hut : u = t
                      · subst hut
                        rw [if_pos rfl]
                        exact Or.inr ⟨N, rfl, by omega, by rw [T4, if_pos rfl], fun k hk _ => by omega⟩
                      · rw [if_neg hut]
                        rcases k3 u hu with ⟨h1, h2⟩ | ⟨w, h1, h2, h3, h4⟩
                        · refine Or.inl ⟨h1, fun k hk => ?_⟩
                          rw [T4]
                          split
                          · omega
                          · exact h2 k (by omega)
                        · refine Or.inr ⟨w, h1, by omega, by rw [T4, if_neg (by omega)]; exact h3, fun k hk hk2 => ?_⟩
                          rw [T4] at hk2
                          split at hk2
                          · omega
                          · exact h4 k (by omega) hk2
                    · rw [F4, T4 w]
                      by_cases e : w = N
                      · rw [if_pos e, if_pos e]
                        rcases k3 t ht4 with ⟨h1, h2⟩ | ⟨v, h1, h2, h3, h4⟩
                        · refine Or.inl ⟨h1, fun k hk => ?_⟩
                          rw [T4, if_neg (by omega)]
                          exact h2 k (by omega)
                        · refine Or.inr ⟨v, h1, by omega, by rw [T4, if_neg (by omega)]; exact h3, fun k hk hk2 => ?_⟩
                          rw [T4, if_neg (by omega)] at hk2
                          exact h4 k (by omega) hk2
                      · rw [if_neg e, if_neg e]
                        rcases k4 w (by omega) with ⟨h1, h2⟩ | ⟨v, h1, h2, h3, h4⟩
                        · refine Or.inl ⟨h1, fun k hk => ?_⟩
                          rw [T4, if_neg (by omega)]
                          exact h2 k hk
                        · refine Or.inr ⟨v, h1, h2, by rw [T4, if_neg (by omega)]; exact h3, fun k hk hk2 => ?_⟩
                          rw [T4, if_neg (by omega)] at hk2
                          exact h4 k hk hk2
                  obtain ⟨r, C6, M6, v1, v2, v3, v4, v5⟩ := q_send (d := d - 1) (d' := d - 1) (Sc := C4) (Sm := M5) (by omega) (by omega) (IO_fr (AgX x4 rfl) (AgX y5 rfl) hO) (t : Int) (gD Sc 2 0 9) (by rw [EqX_c y5 85 0 rfl]; exact n1)
                  rw [EqX_c x4 2 9 rfl, v1, b_I] at c2
                  rw [v2, b_I] at m3
                  have X : EqX [28, 14, 15, 16, 17, 23, 18, 19, 21, 24, 25, 26, 27, 20, 39, 40] [(13, 16)] Sc C6 := EqX_tr (EqX_mo x4 (by decide) (by decide)) (EqX_mo v3 (by decide) (by decide))
                  have Y : EqX [97, 98, 99, 100, 106, 104, 101, 102, 103, 107, 109, 145, 146] [(85, 13)] Sm M6 := EqX_tr (EqX_mo y5 (by decide) (by decide)) (EqX_mo v4 (by decide) (by decide))
                  exact ⟨_, _, _, c2, EqC_of X rfl, m3, EqM_of Y rfl, ⟨IN_fr (AgX X rfl) (AgX Y rfl) hN, IT_fr (AgX X rfl) (AgX Y rfl) hT, IS_up (IS_fr (AgX X rfl) (AgX Y rfl) hS), (IW_fr (AgX v3 rfl) (AgX v4 rfl) hW5), (IC_fr (AgX v3 rfl) (AgX v4 rfl) hK5), v5, IX_up (IX_fr (AgX X rfl) (AgX Y rfl) hX), IP_fr (AgX X rfl) (AgX Y rfl) hP, IR_fr (AgX X rfl) (AgX Y rfl) hR, IF_fr (AgX X rfl) (AgX Y rfl) hF, IA_fr (AgX X rfl) (AgX Y rfl) hA, IH_fr (AgX X rfl) (AgX Y rfl) hH, IQ_fr (AgX X rfl) (AgX Y rfl) hQ, IG_fr (AgX X rfl) (AgX Y rfl) hG⟩⟩
              · rw [if_neg g6, if_pos rfl, b_I, if_pos (by decide)] at c2
                rw [if_neg g6, if_pos rfl] at m2
                exact fin _ c2 m2
            · rw [if_neg g5, if_pos rfl, b_I, if_pos (by decide)] at c2
              rw [if_neg g5, if_pos rfl] at m2
              exact fin _ c2 m2
          · rw [if_neg g4, if_pos rfl, b_I, if_pos (by decide)] at c2
            rw [if_neg g4, if_pos rfl] at m2
            exact fin _ c2 m2
        · rw [q_isTick0 (by omega) _ (by omega), b_I, if_pos rfl, b_I, if_pos (by decide)] at c2
          rw [q_M_isTick0 (by omega) _ (by omega), b_I, if_pos rfl] at m2
          exact fin _ c2 m2
      · rw [q_in0 (by omega) _ _ _ (by omega), b_I, if_pos rfl, b_I, if_pos (by decide)] at c2
        rw [q_M_in0 (by omega) _ _ _ (by omega), b_I, if_pos rfl] at m2
        exact fin _ c2 m2
    · rw [q_thas0 (by omega) _ (by omega), b_I, if_pos rfl, b_I, if_pos (by decide)] at c2
      rw [q_M_isThing0 (by omega) _ (by omega), b_I, if_pos rfl] at m2
      exact fin _ c2 m2
  · rw [if_neg (by omega), b_I, if_pos (by decide)] at c2
    rw [if_pos (by omega)] at m2
    exact fin _ c2 m2
end
