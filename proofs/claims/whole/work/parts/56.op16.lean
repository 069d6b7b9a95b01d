/-! layer 2: ask (4) -/
theorem shl1 : ∀ n : Nat, n ≤ 12 → ab oo 3 1 (n : Int) = ((2 ^ n : Nat) : Int) := by decide
section
variable {d : Nat}
/-- both sides try every set -/
theorem w_choose {Sc Tc Tm : SD} {T Q n0 : Nat} {at' : Int} {VA} (hH : WH Sc Tm T at' VA) (hTm : IT Sc Tm) (hIQ : IQ Sc Tm) (hTc : IT Tc Tm) (hQ : (gD Sc 68 0 9) = (Q : Int)) (hQ8 : Q ≤ 8) (hQc : (gD Tc 68 0 9) = (Q : Int)) (hn : (gD Tc 68 0 8) = (n0 : Int)) (hn12 : n0 ≤ 12) (hnT : T ≤ 40)
    (hnm : ∀ i, i < n0 → (gD Tm 166 0 i) = (gD Tc 72 0 i) ∧ 0 ≤ (gD Tc 72 0 i) ∧ (gD Tc 72 0 i) < (T : Int)) (hcs : ∀ k, (gD Tc 5 0 k) = (gD Sc 5 0 k)) (hks : ∀ k, (gD Tc 9 0 k) = (gD Sc 9 0 k))
    (hs : ∀ q i, q < Q → i < n0 → 0 ≤ SVi Tc q i ∧ SVi Tc q i ≤ 200000) (he : ∀ q, q < Q → -1000000000 ≤ (gD Tc 73 0 q) ∧ (gD Tc 73 0 q) ≤ 8000000)
    (hiff : ∀ k : Nat, okA Tc Q n0 k Q ↔ okM Sc T Q VA (bF (fun i => (gD Tc 72 0 i)) k n0) Q) (hd : 5 ≤ d) {d' : Nat} (hd' : 4 ≤ d') : ∀ (rem k n n' : Nat) (b lc lm bs : Int), k + rem = 2 ^ n0 → rem < n → 40 * rem + 1 < n' → ((b = -1 ∧ lm = -3 ∧ bs = 0) ∨ ∃ w : Nat, b = (w : Int) ∧ w < 5000 ∧ lc = lm ∧ 0 ≤ lm ∧ bs = bF (fun i => (gD Tc 72 0 i)) w n0) → ∃ r, (run oo (EE false d) false mi_40 n 33 [(0, vr (some (68, 0))), (3, vi b), (4, vi lc), (5, vi (k : Int))] [] Tc = some (vi r, Tc) ∧ run oo (EE false d') false mi_292 n' 122 [(0, vr (some (85, 0))), (1, vi at'), (4, vi (n0 : Int)), (5, vi lm), (6, vl bs), (8, vi (k : Int))] [] Tm = some (vi r, Tm)) ∨ ∃ v, run oo (EE false d) false mi_40 n 33 [(0, vr (some (68, 0))), (3, vi b), (4, vi lc), (5, vi (k : Int))] [] Tc = some (vi r, wD Tc 68 0 10 v) ∧ run oo (EE false d') false mi_292 n' 122 [(0, vr (some (85, 0))), (1, vi at'), (4, vi (n0 : Int)), (5, vi lm), (6, vl bs), (8, vi (k : Int))] [] Tm = some (vi r, wD Tm 85 0 104 v) := by
  have h2 : 2 ^ n0 ≤ 4096 := by
    have : ∀ n : Nat, n ≤ 12 → 2 ^ n ≤ 4096 := by decide
    exact this n0 hn12
  have sh := shl1 n0 hn12
  have hb : ∀ i, 0 ≤ CTi Tc i ∧ CTi Tc i ≤ 9999 := fun i => by
    have uT := hTm; unfold IT at uT
    unfold CTi; rw [hcs]; exact uT.2.2.2.2.2.2.2.2.2.2.2.2.2.2.2 _
  have hsz : (gD Tc 3 0 10) = (T : Int) := by
    have u1 := hTc; unfold IT at u1
    have u3 := hH.2.2.1
    omega
  intro rem
  induction rem with
  | zero =>
    intro k n n' b lc lm bs h1 h3 h4 h5
    obtain ⟨n, rfl⟩ : ∃ m, n = m + 1 := ⟨n - 1, by omega⟩
    obtain ⟨n', rfl⟩ : ∃ m, n' = m + 1 := ⟨n' - 1, by omega⟩
    rw [b40_33, b292_122, hn, sh]
    have e : ¬ (k : Int) < ((2 ^ n0 : Nat) : Int) := by omega
    rcases h5 with ⟨rfl, rfl, rfl⟩ | ⟨w, rfl, w2, rfl, w4, rfl⟩
    · exact ⟨-3, Or.inl ⟨by rw [if_neg e, if_pos rfl], by rw [if_neg e, if_pos (by decide)]⟩⟩
    · refine ⟨lc, Or.inr ⟨bF (fun i => (gD Tc 72 0 i)) w n0, ?_, by rw [if_neg e, if_neg (by omega)]⟩⟩
      have wb := w_bits (S := Tc) hn hn12 (w : Int) (K := EE false (d - 1)) 999999 0 (by omega) (by omega)
      rw [if_neg e, if_neg (by omega), E45 (by omega), b45_0]
      exact (congrArg (fun z => bL z _) wb)
  | succ rem ih =>
    intro k n n' b lc lm bs h1 h3 h4 h5
    obtain ⟨n, rfl⟩ : ∃ m, n = m + 1 := ⟨n - 1, by omega⟩
    obtain ⟨n', rfl⟩ : ∃ m, n' = m + 1 := ⟨n' - 1, by omega⟩
    have e : (k : Int) < ((2 ^ n0 : Nat) : Int) := by omega
    have e1 := awp (show k < 1000000 by omega)
    have wc := w_cost (d := d - 1) hTc hn hn12 (fun i hi => ⟨(hnm i hi).2.1, by rw [hsz]; exact (hnm i hi).2.2⟩) (by omega) (k : Int) 999999 0 (by omega) (by omega)
    have c1 : EE false d 43 [vr (some (68, 0)), vi (k : Int)] Tc = some (vi (sB (ti k) (CTi Tc) n0), Tc) := by
      rw [E43 (by omega), b43_0]; exact wc
    obtain ⟨ba, wa, hba⟩ := w_ans (S := Tc) hQc hQ8 hn hn12 hs he (k : Int) (K := EE false (d - 1)) 999999 0 (by omega) (by omega) (fun p hp => by omega)
    have c2 : EE false d 44 [vr (some (68, 0)), vi (k : Int)] Tc = some (vi ba, Tc) := by
      rw [E44 (by omega), b44_0]; exact wa
    have sb := sB_b (b := ti k) (V := CTi Tc) (B := 9999) (n := n0) (by decide) (fun u _ => hb u)
    obtain ⟨n1, f1, f2, f3⟩ := w_M_cost (S1 := Tc) hTm hn12 (fun i hi => ⟨(hnm i hi).1, (hnm i hi).2.1, by have := (hnm i hi).2.2; omega⟩) hcs hks at' lm bs k (by omega) (K := EE false d') n' 0 (by omega) (by omega)
    have f3 : run oo (EE false d') false mi_292 n' 140 [(0, vr (some (85, 0))), (1, vi at'), (4, vi (n0 : Int)), (5, vi lm), (6, vl bs), (8, vi (k : Int)), (9, vl 0), (11, vi 0), (12, vi 0)] [] Tm = _ := f3
    rw [b40_33, b292_122, hn, sh, if_pos e, if_pos e, c1, b_I, c2, b_I, f3, e1]
    by_cases hlm : lm < 0 ∨ sB (ti k) (CTi Tc) n0 < lm
    · rw [if_pos hlm]
      obtain ⟨n2, g1, g2, g3⟩ := w_M_q hH hIQ hQ hQ8 (show 4 ≤ d' by omega) (n0 : Int) lm bs (bF (fun i => (gD Tc 72 0 i)) k n0) (sB (ti k) (CTi Tc) n0) k (by omega) n1 0 (by omega) (by omega) (fun p f hp => by omega)
      have iff := hiff k
      rcases g3 with ⟨g3, g4⟩ | ⟨g3, g4⟩
      · have hok := iff.mpr g3
        have hb1 : ba = 1 := by
          rcases hba with ⟨z, _⟩ | ⟨_, z⟩
          · exact z
          · exact absurd hok z
        have g4 : run oo (EE false d') false mi_292 n1 223 [(0, vr (some (85, 0))), (1, vi at'), (4, vi (n0 : Int)), (5, vi lm), (6, vl bs), (8, vi (k : Int)), (9, vl (bF (fun i => (gD Tc 72 0 i)) k n0)), (11, vi (sB (ti k) (CTi Tc) n0)), (12, vi 1), (13, vi 0)] [] Tm = _ := g4
        have i1 := ih (k + 1) n n2 (k : Int) (sB (ti k) (CTi Tc) n0) (sB (ti k) (CTi Tc) n0) (bF (fun i => (gD Tc 72 0 i)) k n0) (by omega) (by omega) (by omega) (Or.inr ⟨k, rfl, by omega, rfl, sb.1, rfl⟩)
        rw [g4, hb1, if_neg (show ¬ (1 : Int) = 0 by decide)]
        rcases h5 with ⟨rfl, rfl, rfl⟩ | ⟨w, rfl, w2, rfl, w4, rfl⟩
        · rw [if_pos rfl]
          exact i1
        · rw [if_neg (by omega), if_pos (by omega)]
          exact i1
      · have hb0 : ba = 0 := by
          rcases hba with ⟨_, z⟩ | ⟨z, _⟩
          · exact absurd (iff.mp z) g3
          · exact z
        have g4 : run oo (EE false d') false mi_292 n1 223 [(0, vr (some (85, 0))), (1, vi at'), (4, vi (n0 : Int)), (5, vi lm), (6, vl bs), (8, vi (k : Int)), (9, vl (bF (fun i => (gD Tc 72 0 i)) k n0)), (11, vi (sB (ti k) (CTi Tc) n0)), (12, vi 1), (13, vi 0)] [] Tm = _ := g4
        have i1 := ih (k + 1) n n2 b lc lm bs (by omega) (by omega) (by omega) h5
        rw [g4, hb0, if_pos rfl]
        rcases h5 with ⟨rfl, rfl, rfl⟩ | ⟨w, rfl, w2, rfl, w4, rfl⟩
        · rw [if_pos rfl]
          exact i1
        · rw [if_neg (by omega), if_pos (by omega)]
          exact i1
    · rw [if_neg hlm]
      have i1 := ih (k + 1) n n1 b lc lm bs (by omega) (by omega) (by omega) h5
      rcases h5 with ⟨rfl, rfl, rfl⟩ | ⟨w, rfl, w2, rfl, w4, rfl⟩
      · omega
      · rw [if_neg (by omega), if_neg (by omega)]
        exact i1
theorem o_ask (hd : 12 ≤ d) (a1 : Int) : PI2 d CI2 178 292 vi [vi a1] := by
  intro i Sc Sm hi' hC
  have hC' := hC
  obtain ⟨hN, hT, hS, hW, hK, hO, hX, hP, hR, hF, hA, hH, hQ, hG⟩ := hC
  have uN := hN; unfold IN at uN
  obtain ⟨n1, n2, n3⟩ := uN
  have uQ := hQ; unfold IQ at uQ
  obtain ⟨qu1, qu2, qu3, qu4, qu5, qu6, qu7, qu8, qu9, qu10⟩ := uQ
  have uT := hT; unfold IT at uT
  have c2 := (E178 (d := d) (by omega) Sc a1).trans (b178_0 oo (EE false (d - 1)) 999999 Sc a1)
  have m2 := (E292 (d := d) (by omega) Sm a1).trans (b292_0 oo (EE false (d - 1)) 999999 Sm a1)
  rw [qu1, n1] at m2
  by_cases h2 : (gD Sc 2 0 9) ≤ a1 ∧ a1 ≤ 3999
  · rw [q_in1 (by omega) _ _ _ h2, b_I, if_neg (by decide), E40 (by omega), b40_0] at c2
    by_cases hz : (gD Sc 68 0 9) = 0
    · rw [if_pos hz, b_I] at c2
      rw [if_pos hz] at m2
      exact ⟨-1, Sc, Sm, c2, EqC_rf, m2, EqM_rf, CI2_up hC'⟩
    · rw [if_neg hz] at c2
      rw [if_neg hz, q_M_in1 (by omega) _ _ _ h2, b_I, if_neg (by decide)] at m2
      obtain ⟨Q, hQQ⟩ : ∃ N : Nat, (gD Sc 68 0 9) = (N : Int) := Int.eq_ofNat_of_zero_le qu2
      obtain ⟨T, VA, hWH⟩ := WH_ex hN hT hW hK a1 h2.1 h2.2
      have hT4 := hWH.2.1
      have hTs := hWH.1
      generalize hall : orF Sc Q = all
      have hbey : ∀ t, T ≤ t → t < 40 → tb all t = false := fun t h3 h4 => by
        cases h5 : tb all t with
        | false => rfl
        | true =>
          rw [← hall] at h5
          obtain ⟨q, h6, h7⟩ := orF_tb.mp h5
          rw [qu10 q t (by omega) h4] at h7
          cases h7
      have hct : cnt (tb all) 40 = cnt (tb all) T := cnt_ext hbey hT4
      obtain ⟨b, S1, c3, x3, hb⟩ := q_names (S := Sc) (d := d - 1 - 1) (by omega) hQQ (by omega)
      obtain ⟨k1, f1, m3⟩ := w_M_or hQ hQQ a1 (K := EE false (d - 1)) 999999 0 (by omega) (by omega)
      have m3 : run oo (EE false (d - 1)) false mi_292 999999 30 [(0, vr (some (85, 0))), (1, vi a1), (2, vl 0), (4, vi 0)] [] Sm = _ := m3
      obtain ⟨Tm, y3, m4⟩ := w_M_names (S := Sm) all a1 hWH.2.2.1 hT4 (K := EE false (d - 1)) k1 0 Sm EqX_rf (by simp [cnt]) (fun u hu => by omega) (by omega) (by omega)
      have m4 : (run oo (EE false (d - 1)) false mi_292 k1 61 [(0, vr (some (85, 0))), (1, vi a1), (2, vl all), (4, vi 0), (5, vi 0)] [] Sm = some (vi (-2), Tm) ∧ 12 < cnt (tb all) T) ∨ (cnt (tb all) T ≤ 12 ∧ NM 166 Tm all T ∧ ∃ n', k1 ≤ n' + (T - 0) + 1 ∧ run oo (EE false (d - 1)) false mi_292 k1 61 [(0, vr (some (85, 0))), (1, vi a1), (2, vl all), (4, vi 0), (5, vi 0)] [] Sm = run oo (EE false (d - 1)) false mi_292 n' 122 [(0, vr (some (85, 0))), (1, vi a1), (4, vi ((cnt (tb all) T : Nat) : Int)), (5, vi (-3)), (6, vl 0), (8, vi 0)] [] Tm) := m4
      rw [hall] at m3 hb
      rw [m3] at m2
      rw [c3, b_I] at c2
      rw [hct] at hb
      have x2 : EqX [166] [(85, 104)] Sm Tm := EqX_mo y3 (by decide) (by decide)
      rcases hb with ⟨rfl, hb⟩ | ⟨rfl, hb1, hb2, hb3⟩
      · rw [if_pos rfl, b_I] at c2
        rcases m4 with ⟨m4, _⟩ | ⟨m4, _⟩
        · rw [m4] at m2
          exact ⟨_, _, _, c2, EqC_of x3 rfl, m2, EqM_of x2 rfl, ⟨(IN_fr (AgX x3 rfl) (AgX x2 rfl) hN), IT_fr (AgX x3 rfl) (AgX y3 rfl) hT, IS_up (IS_fr (AgX x3 rfl) (AgX y3 rfl) hS), IW_fr (AgX x3 rfl) (AgX y3 rfl) hW, IC_fr (AgX x3 rfl) (AgX y3 rfl) hK, IO_fr (AgX x3 rfl) (AgX y3 rfl) hO, IX_up (IX_fr (AgX x3 rfl) (AgX y3 rfl) hX), IP_fr (AgX x3 rfl) (AgX y3 rfl) hP, IR_fr (AgX x3 rfl) (AgX y3 rfl) hR, IF_fr (AgX x3 rfl) (AgX y3 rfl) hF, IA_fr (AgX x3 rfl) (AgX y3 rfl) hA, IH_fr (AgX x3 rfl) (AgX y3 rfl) hH, IQ_fr (AgX x3 rfl) (AgX y3 rfl) hQ, IG_fr (AgX x3 rfl) (AgX y3 rfl) hG⟩⟩
        · omega
      · rcases m4 with ⟨_, m4⟩ | ⟨m4, m5, k2, f2, m6⟩
        · omega
        · generalize hn0 : cnt (tb all) T = n0 at *
          rw [m6] at m2
          rw [if_neg (by decide)] at c2
          have hN1 := IN_fr (AgX x3 rfl) (AgX y3 rfl) hN
          have hT1 := IT_fr (AgX x3 rfl) (AgX y3 rfl) hT
          have hW1 := IW_fr (AgX x3 rfl) (AgX y3 rfl) hW
          have hK1 := IC_fr (AgX x3 rfl) (AgX y3 rfl) hK
          have hQ1 := IQ_fr (AgX x3 rfl) (AgX y3 rfl) hQ
          have hr : EqX [] [] Sc Sc := EqX_rf
          have hNm := IN_fr (AgX hr rfl) (AgX y3 rfl) hN
          have hTm := IT_fr (AgX hr rfl) (AgX y3 rfl) hT
          have hWm := IW_fr (AgX hr rfl) (AgX y3 rfl) hW
          have hKm := IC_fr (AgX hr rfl) (AgX y3 rfl) hK
          have hQm := IQ_fr (AgX hr rfl) (AgX y3 rfl) hQ
          have hHm : WH Sc Tm T a1 VA := WH_m hWH hNm hTm hWm hKm h2.1 h2.2
          have hXX : ∀ Tc, EqX [73, 74] [] S1 Tc → WH Tc Tm T a1 VA ∧ (gD Tc 2 0 9) = (gD Sc 2 0 9) ∧ IQ Tc Tm := fun Tc hx => by
            have ym : EqX [] [] Tm Tm := EqX_rf
            have a1' := IN_fr (AgX hx rfl) (AgX ym rfl) hN1
            refine ⟨WH_c hHm hNm a1' (IT_fr (AgX hx rfl) (AgX ym rfl) hT1) (IW_fr (AgX hx rfl) (AgX ym rfl) hW1) (IC_fr (AgX hx rfl) (AgX ym rfl) hK1) h2.1 h2.2, ?_, IQ_fr (AgX hx rfl) (AgX ym rfl) hQ1⟩
            rw [EqX_c hx 2 9 rfl, EqX_c x3 2 9 rfl]
          have hidx : ∀ i, i < n0 → ∃ t : Nat, t < T ∧ tb all t = true ∧ cnt (tb all) t = i ∧ (gD S1 72 0 i) = (t : Int) ∧ (gD Tm 166 0 i) = (t : Int) := fun i hi => by
            obtain ⟨u, h3, h4, h5⟩ := cnt_sj (p := tb all) (i := i) (n := T) (by rw [hn0]; exact hi)
            refine ⟨u, h3, h4, h5, ?_, ?_⟩
            · rw [← h5]; exact hb3 u (by omega) h4
            · rw [← h5]; exact m5 u h3 h4
          obtain ⟨S2, c4, x4, hME⟩ := q_meas (Sm := Tm) (d := d - 1 - 1) (T := T) (n0 := n0) (Q := Q) (at' := a1) (now := (gD Sc 2 0 9)) (VA := VA) hXX (by rw [EqX_c x3 68 9 rfl]; exact hQQ) (by omega) hb2 m4 (fun i hi => by
            obtain ⟨t, h3, _, _, h4, _⟩ := hidx i hi
            exact ⟨t, h4, h3⟩) (by omega)
          rw [c4, b_V] at c2
          have ym : EqX [] [] Tm Tm := EqX_rf
          have hT2 := IT_fr (AgX x4 rfl) (AgX ym rfl) hT1
          have hQ2 := (hXX S2 x4).2.2
          have hnmd : ∀ i, (gD S2 72 0 i) = (gD S1 72 0 i) := fun i => EqX_a x4 72 rfl 0 i
          have hfn : (fun i => (gD S2 72 0 i)) = (fun i => (gD S1 72 0 i)) := funext hnmd
          have fq : ∀ q, ∃ f : Nat, (gD S1 69 0 q) = (f : Int) ∧ f < 3 := fun q => by
            obtain ⟨f, hf⟩ := Int.eq_ofNat_of_zero_le (qu5 q).1
            have := (qu5 q).2
            exact ⟨f, by rw [EqX_a x3 69 rfl]; exact hf, by omega⟩
          have hsav : ∀ q i, q < Q → i < n0 → 0 ≤ SVi S2 q i ∧ SVi S2 q i ≤ 200000 := fun q i hq hi => by
            obtain ⟨f, hf, hf3⟩ := fq q
            obtain ⟨t, h3, _, _, h4, _⟩ := hidx i hi
            rw [(hME q f hq hf).2 i t hi h4]
            have := (hHm.2.2.2 f t hf3 h3).2.2.2.2
            split <;> omega
          have hexc : ∀ q, q < Q → -1000000000 ≤ (gD S2 73 0 q) ∧ (gD S2 73 0 q) ≤ 8000000 := fun q hq => by
            obtain ⟨f, hf, hf3⟩ := fq q
            rw [(hME q f hq hf).1]
            have sb := sB_b (b := tb (gD S1 70 0 q)) (V := VV VA f) (B := 200000) (n := T) (by decide) (fun u hu => by
              have := (hHm.2.2.2 f u hf3 hu).2.2.2.2
              unfold VV
              omega)
            have := qu8 q
            rw [← EqX_a x3 71 rfl] at this
            omega
          have hiff : ∀ k : Nat, okA S2 Q n0 k Q ↔ okM Sc T Q VA (bF (fun i => (gD S2 72 0 i)) k n0) Q := fun k => by
            rw [hfn]
            have each : ∀ p f : Nat, p < Q → (gD Sc 69 0 p) = (f : Int) → ((gD S2 73 0 p) - sB (ti k) (SVi S2 p) n0 ≤ 0 ↔ sB (tb (gD Sc 70 0 p)) (MX VA (bF (fun i => (gD S1 72 0 i)) k n0) f) T ≤ (gD Sc 71 0 p)) := fun p f hp hf => by
              have hf' : (gD S1 69 0 p) = (f : Int) := by rw [EqX_a x3 69 rfl]; exact hf
              obtain ⟨z1, z2⟩ := hME p f hp hf'
              have hs := sum_same (s := tb (gD Sc 70 0 p)) (b := tb (bF (fun i => (gD S1 72 0 i)) k n0)) (c := cnt (tb all)) (kb := ti k) (V := VV VA f) (A := fun t => (VA f t).2) (sv := SVi S2 p) (tb all) (fun _ => rfl) (T := T) (fun t ht h3 => by
                rw [← hall]
                exact orF_tb.mpr ⟨p, hp, h3⟩) (fun t ht h3 => by
                have hci : cnt (tb all) t < n0 := by
                  have := cnt_mn (p := tb all) (j := t + 1) (n := T) (by omega)
                  rw [cntT h3, hn0] at this
                  omega
                rw [z2 (cnt (tb all) t) t hci (hb3 t (by omega) h3), EqX_a x3 70 rfl]
                rfl) (fun t ht h3 => by
                have hci : cnt (tb all) t < n0 := by
                  have := cnt_mn (p := tb all) (j := t + 1) (n := T) (by omega)
                  rw [cntT h3, hn0] at this
                  omega
                have hbt := bF_tb (named := fun i => (gD S1 72 0 i)) (k := (k : Int)) (t := t) (n := n0) (by omega) (fun i hi => by
                  obtain ⟨u, h5, _, _, h6, _⟩ := hidx i hi
                  show 0 ≤ (gD S1 72 0 i) ∧ (gD S1 72 0 i) < 40
                  omega)
                cases hk : ti (k : Int) (cnt (tb all) t) with
                | true => exact hbt.mpr ⟨cnt (tb all) t, hci, hk, hb3 t (by omega) h3⟩
                | false =>
                  cases hk2 : tb (bF (fun i => (gD S1 72 0 i)) (k : Int) n0) t with
                  | false => rfl
                  | true =>
                    obtain ⟨i, h5, h6, h7⟩ := hbt.mp hk2
                    obtain ⟨u, h8, _, h9, h10, _⟩ := hidx i h5
                    have h7 : (gD S1 72 0 i) = (t : Int) := h7
                    have : u = t := by omega
                    subst this
                    rw [h9, h6] at hk
                    cases hk) T (Nat.le_refl _)
              rw [hn0] at hs
              have hs : sB (tb (gD Sc 70 0 p)) (MX VA (bF (fun i => (gD S1 72 0 i)) k n0) f) T = sB (tb (gD Sc 70 0 p)) (VV VA f) T - sB (ti k) (SVi S2 p) n0 := hs
              rw [hs, z1, EqX_a x3 70 rfl, EqX_a x3 71 rfl]
              omega
            constructor
            · intro h p f hp _ hf
              exact (each p f hp hf).mp (h p hp hp)
            · intro h p hp _
              obtain ⟨f, hf, _⟩ := fq p
              rw [EqX_a x3 69 rfl] at hf
              exact (each p f hp hf).mpr (h p f hp hp hf)
          have hpw : 2 ^ n0 ≤ 4096 := by
            have : ∀ n : Nat, n ≤ 12 → 2 ^ n ≤ 4096 := by decide
            exact this n0 m4
          obtain ⟨r, hfin⟩ := w_choose (d := d - 1 - 1) (d' := d - 1) (Tc := S2) (Tm := Tm) (at' := a1) hHm hTm hQm hT2 hQQ (by omega) (by rw [EqX_c x4 68 9 rfl, EqX_c x3 68 9 rfl]; exact hQQ) (by rw [EqX_c x4 68 8 rfl]; exact hb2) m4 hT4 (fun i hi => by
            obtain ⟨t, h3, _, _, h4, h5⟩ := hidx i hi
            rw [hnmd, h4, h5]
            omega) (fun k => by rw [EqX_a x4 5 rfl, EqX_a x3 5 rfl]) (fun k => by rw [EqX_a x4 9 rfl, EqX_a x3 9 rfl]) hsav hexc hiff (by omega) (by omega) (2 ^ n0) 0 999999 k2 (-1) 0 (-3) 0 (by omega) (by omega) (by omega) (Or.inl ⟨rfl, rfl, rfl⟩)
          have X3 : EqX [72, 73, 74] [(68, 8), (68, 10)] Sc S1 := EqX_mo x3 (by decide) (by decide)
          have X4 : EqX [72, 73, 74] [(68, 8), (68, 10)] S1 S2 := EqX_mo x4 (by decide) (by decide)
          have X := EqX_tr X3 X4
          rcases hfin with ⟨w1, w2⟩ | ⟨v, w1, w2⟩
          · have w1 : run oo (EE false (d - 1 - 1)) false mi_40 999999 33 [(0, vr (some (68, 0))), (3, vi (-1)), (4, vi 0), (5, vi 0)] [] S2 = some (vi r, S2) := w1
            have w2 : run oo (EE false (d - 1)) false mi_292 k2 122 [(0, vr (some (85, 0))), (1, vi a1), (4, vi (n0 : Int)), (5, vi (-3)), (6, vl 0), (8, vi 0)] [] Tm = some (vi r, Tm) := w2
            rw [w1, b_I] at c2
            rw [w2] at m2
            exact ⟨_, _, _, c2, EqC_of X rfl, m2, EqM_of x2 rfl, ⟨IN_fr (AgX X rfl) (AgX x2 rfl) hN, IT_fr (AgX X rfl) (AgX x2 rfl) hT, IS_up (IS_fr (AgX X rfl) (AgX x2 rfl) hS), IW_fr (AgX X rfl) (AgX x2 rfl) hW, IC_fr (AgX X rfl) (AgX x2 rfl) hK, IO_fr (AgX X rfl) (AgX x2 rfl) hO, IX_up (IX_fr (AgX X rfl) (AgX x2 rfl) hX), IP_fr (AgX X rfl) (AgX x2 rfl) hP, IR_fr (AgX X rfl) (AgX x2 rfl) hR, IF_fr (AgX X rfl) (AgX x2 rfl) hF, IA_fr (AgX X rfl) (AgX x2 rfl) hA, IH_fr (AgX X rfl) (AgX x2 rfl) hH, hQ2, IG_fr (AgX X rfl) (AgX x2 rfl) hG⟩⟩
          · have w1 : run oo (EE false (d - 1 - 1)) false mi_40 999999 33 [(0, vr (some (68, 0))), (3, vi (-1)), (4, vi 0), (5, vi 0)] [] S2 = some (vi r, wD S2 68 0 10 v) := w1
            have w2 : run oo (EE false (d - 1)) false mi_292 k2 122 [(0, vr (some (85, 0))), (1, vi a1), (4, vi (n0 : Int)), (5, vi (-3)), (6, vl 0), (8, vi 0)] [] Tm = some (vi r, wD Tm 85 0 104 v) := w2
            rw [w1, b_I] at c2
            rw [w2] at m2
            have X' : EqX [72, 73, 74] [(68, 8), (68, 10)] Sc (wD S2 68 0 10 v) := EqX_wC X (by decide)
            have x2' : EqX [166] [(85, 104)] Sm (wD Tm 85 0 104 v) := EqX_wC x2 (by decide)
            refine ⟨_, _, _, c2, EqC_of X' rfl, m2, EqM_of x2' rfl, ⟨IN_fr (AgX X' rfl) (AgX x2' rfl) hN, IT_fr (AgX X' rfl) (AgX x2' rfl) hT, IS_up (IS_fr (AgX X' rfl) (AgX x2' rfl) hS), IW_fr (AgX X' rfl) (AgX x2' rfl) hW, IC_fr (AgX X' rfl) (AgX x2' rfl) hK, IO_fr (AgX X' rfl) (AgX x2' rfl) hO, IX_up (IX_fr (AgX X' rfl) (AgX x2' rfl) hX), IP_fr (AgX X' rfl) (AgX x2' rfl) hP, IR_fr (AgX X' rfl) (AgX x2' rfl) hR, IF_fr (AgX X' rfl) (AgX x2' rfl) hF, IA_fr (AgX X' rfl) (AgX x2' rfl) hA, IH_fr (AgX X' rfl) (AgX x2' rfl) hH, ?_, IG_fr (AgX X' rfl) (AgX x2' rfl) hG⟩⟩
            unfold IQ at hQ2 ⊢
            simp (disch := decide) only [g_f, g_e, g_k]
            obtain ⟨z1, z2, z3, z4, z5, z6, z7, z8, z9, z10⟩ := hQ2
            exact ⟨z1, z2, z3, z4, z5, z6, z7, z8, trivial, z10⟩
  · rw [q_in0 (by omega) _ _ _ (by omega), b_I, if_pos rfl] at c2
    refine ⟨-1, Sc, Sm, c2, EqC_rf, ?_, EqM_rf, CI2_up hC'⟩
    rw [m2]
    by_cases hz : (gD Sc 68 0 9) = 0
    · rw [if_pos hz]
    · rw [if_neg hz, q_M_in0 (by omega) _ _ _ (by omega), b_I, if_pos rfl]
end
