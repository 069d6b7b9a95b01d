/-! layer 2: ask -/
section
variable {d : Nat}
theorem vi_inj {a b : Int} {S S' : SD} {o : Option RR} (h1 : o = some (vi a, S)) (h2 : o = some (vi b, S')) : a = b := by
  rw [h1] at h2
  cases h2
  rfl
/-- the same widths in any heap that is alike -/
theorem WH_c {Sc Tc Sm : SD} {T : Nat} {at' : Int} {VA} (hH : WH Sc Sm T at' VA) (hN0 : IN Sc Sm) (hnow : IN Tc Sm) (hT : IT Tc Sm) (hW : IW Tc Sm) (hK : IC Tc Sm) (h1 : (gD Sc 2 0 9) ≤ at') (h2 : at' ≤ 3999) : WH Tc Sm T at' VA := by
  have uW := hW; unfold IW at uW
  obtain ⟨hs, hT4, hM, hV⟩ := hH
  obtain ⟨N, hN⟩ : ∃ N : Nat, (gD Tc 13 0 16) = (N : Int) := Int.eq_ofNat_of_zero_le uW.2.1
  have e0 : (gD Tc 2 0 9) = (gD Sc 2 0 9) := by unfold IN at hN0 hnow; omega
  have e1 : (gD Tc 3 0 10) = (T : Int) := by unfold IT at hT; omega
  refine ⟨e1, hT4, hM, fun f t hf ht => ?_⟩
  obtain ⟨va, c1, c2, m1, m2, _⟩ := width_all hN hnow hT hW hK t f (by omega) hf at' (by omega) h2
  obtain ⟨_, _, k1, k2, k3⟩ := hV f t hf ht
  have q1 := vi_inj (m1 3 (by omega)) (k1 3 (by omega))
  have q2 := vi_inj (m2 3 (by omega)) (k2 3 (by omega))
  rw [q1] at c1
  rw [q2] at c2
  exact ⟨c1, c2, k1, k2, k3⟩
theorem WH_m {Sc Sm Tm : SD} {T : Nat} {at' : Int} {VA} (hH : WH Sc Sm T at' VA) (hnow : IN Sc Tm) (hT : IT Sc Tm) (hW : IW Sc Tm) (hK : IC Sc Tm) (h1 : (gD Sc 2 0 9) ≤ at') (h2 : at' ≤ 3999) : WH Sc Tm T at' VA := by
  have uW := hW; unfold IW at uW
  obtain ⟨hs, hT4, hM, hV⟩ := hH
  obtain ⟨N, hN⟩ : ∃ N : Nat, (gD Sc 13 0 16) = (N : Int) := Int.eq_ofNat_of_zero_le uW.2.1
  have e1 : (gD Tm 85 0 6) = (T : Int) := by unfold IT at hT; omega
  refine ⟨hs, hT4, e1, fun f t hf ht => ?_⟩
  obtain ⟨va, c1, c2, m1, m2, _⟩ := width_all hN hnow hT hW hK t f (by omega) hf at' (by omega) h2
  obtain ⟨k1, k2, _, _, k3⟩ := hV f t hf ht
  have q1 := vi_inj (c1 5 (by omega)) (k1 5 (by omega))
  have q2 := vi_inj (c2 5 (by omega)) (k2 5 (by omega))
  rw [q1] at m1
  rw [q2] at m2
  exact ⟨k1, k2, m1, m2, k3⟩
/-- the THINGS that are named -/
def orF (S : SD) : Nat → Int
  | 0 => 0
  | i + 1 => ab oo 6 (orF S i) (gD S 70 0 i)
theorem orF_tb {S : SD} {t : Nat} : ∀ {n : Nat}, tb (orF S n) t = true ↔ ∃ q, q < n ∧ tb (gD S 70 0 q) t = true
  | 0 => by simp [orF, tb_0]
  | n + 1 => by
    simp only [orF, tb_lor, Bool.or_eq_true]
    rw [orF_tb (n := n)]
    constructor
    · rintro (⟨q, h1, h2⟩ | h)
      · exact ⟨q, by omega, h2⟩
      · exact ⟨n, by omega, h⟩
    · rintro ⟨q, h1, h2⟩
      by_cases e : q = n
      · subst e; exact Or.inr h2
      · exact Or.inl ⟨q, by omega, h2⟩
def NM (F : Nat) (S : SD) (all : Int) (t : Nat) : Prop := ∀ u, u < t → tb all u = true → gD S F 0 (cnt (tb all) u) = (u : Int)
theorem NM_st {F : Nat} {S S' : SD} {all : Int} {t : Nat} (h : NM F S all t) (hb : tb all t = true) (hS : ∀ k, gD S' F 0 k = if k = cnt (tb all) t then (t : Int) else gD S F 0 k) : NM F S' all (t + 1) := by
  intro u hu hb2
  rw [hS]
  by_cases e : u = t
  · subst e; rw [if_pos rfl]
  · have : cnt (tb all) (u + 1) ≤ cnt (tb all) t := cnt_mn (by omega)
    rw [cntT hb2] at this
    rw [if_neg (by omega)]
    exact h u (by omega) hb2
theorem NM_sk {F : Nat} {S : SD} {all : Int} {t : Nat} (h : NM F S all t) (hb : tb all t = false) : NM F S all (t + 1) := by
  intro u hu hb2
  by_cases e : u = t
  · subst e; rw [hb] at hb2; cases hb2
  · exact h u (by omega) hb2
theorem w_or {S : SD} {Q : Nat} (hQ : (gD S 68 0 9) = (Q : Int)) (hQ8 : Q ≤ 8) {K : KT} : ∀ (n i : Nat), i ≤ Q → Q - i < n → ∃ n', n ≤ n' + (Q - i) + 1 ∧ run oo K false mi_41 n 4 [(0, vr (some (68, 0))), (1, vl (orF S i)), (3, vi (i : Int))] [] S = run oo K false mi_41 n' 40 [(0, vr (some (68, 0))), (1, vl (orF S Q)), (3, vi 0)] [] (wD S 68 0 8 0) := by
  intro n
  induction n with
  | zero => intro i h1 h2; omega
  | succ n ih =>
    intro i h1 h2
    rw [b41_4, hQ]
    by_cases hi : i < Q
    · obtain ⟨n', h3, h4⟩ := ih (i + 1) (by omega) (by omega)
      refine ⟨n', by omega, ?_⟩
      rw [if_pos (by omega), if_pos (by omega), bnd (by omega), tn, awp (by omega)]
      exact h4
    · have e : i = Q := by omega
      subst e
      exact ⟨n, by omega, by rw [if_neg (by omega)]⟩
theorem w_names {S : SD} (all : Int) {K : KT} : ∀ (n t : Nat) (Tc : SD), EqX [72] [(68, 8)] S Tc → (gD Tc 68 0 8) = ((cnt (tb all) t : Nat) : Int) → cnt (tb all) t ≤ 12 → NM 72 Tc all t → t ≤ 40 → 40 - t < n → ∃ b Tc', run oo K false mi_41 n 40 [(0, vr (some (68, 0))), (1, vl all), (3, vi (t : Int))] [] Tc = some (vi b, Tc') ∧ EqX [72] [(68, 8)] S Tc' ∧ ((b = 0 ∧ 12 < cnt (tb all) 40) ∨ (b = 1 ∧ cnt (tb all) 40 ≤ 12 ∧ (gD Tc' 68 0 8) = ((cnt (tb all) 40 : Nat) : Int) ∧ NM 72 Tc' all 40)) := by
  intro n
  induction n with
  | zero => intro t Tc h1 h2 h3 h4 h5 h6; omega
  | succ n ih =>
    intro t Tc h1 h2 h3 h4 h5 h6
    rw [b41_40]
    by_cases ht : t < 40
    · have e1 := awp (show t < 1000000 by omega)
      rw [if_pos (by omega)]
      simp only [bitc _ t (show t ≤ 40 by omega)]
      by_cases hb : tb all t = true
      · rw [if_pos hb, h2]
        by_cases hc : cnt (tb all) t < 12
        · have e2 : aw oo ((cnt (tb all) t : Int) + 1) = ((cnt (tb all) (t + 1) : Nat) : Int) := by
            rw [cntT hb, aw_id (by omega)]; rfl
          rw [if_pos (by omega), bnd (by omega), tn, g_f (by decide), h2, e2, e1]
          refine ih (t + 1) _ (EqX_wC (EqX_wA h1 (by decide)) (by decide)) g_e (by rw [cntT hb]; omega) (NM_st h4 hb (fun k => ?_)) (by omega) (by omega)
          rw [g_f (by decide), g_i]
        · have := cnt_mn (p := tb all) (j := t + 1) (n := 40) (by omega)
          rw [cntT hb] at this
          exact ⟨0, Tc, by rw [if_neg (by omega)], h1, Or.inl ⟨rfl, by omega⟩⟩
      · have hb' : tb all t = false := by simpa using hb
        rw [if_neg hb, e1]
        exact ih (t + 1) Tc h1 (by rw [cntF hb']; exact h2) (by rw [cntF hb']; exact h3) (NM_sk h4 hb') (by omega) (by omega)
    · have e : t = 40 := by omega
      subst e
      exact ⟨1, Tc, by rw [if_neg (by omega)], h1, Or.inr ⟨rfl, h3, h2, h4⟩⟩
theorem q_names {S : SD} {Q : Nat} (hd : 1 ≤ d) (hQ : (gD S 68 0 9) = (Q : Int)) (hQ8 : Q ≤ 8) : ∃ b Tc, EE false d 41 [vr (some (68, 0))] S = some (vi b, Tc) ∧ EqX [72] [(68, 8)] S Tc ∧ ((b = 0 ∧ 12 < cnt (tb (orF S Q)) 40) ∨ (b = 1 ∧ cnt (tb (orF S Q)) 40 ≤ 12 ∧ (gD Tc 68 0 8) = ((cnt (tb (orF S Q)) 40 : Nat) : Int) ∧ NM 72 Tc (orF S Q) 40)) := by
  rw [E41 hd, b41_0]
  obtain ⟨n', h1, h2⟩ := w_or hQ hQ8 (K := EE false (d - 1)) 999999 0 (by omega) (by omega)
  obtain ⟨b, Tc, h3, h4, h5⟩ := w_names (S := S) (orF S Q) (K := EE false (d - 1)) n' 0 (wD S 68 0 8 0) (EqX_wC EqX_rf (by decide)) g_e (by simp [cnt]) (fun u hu => by omega) (by omega) (by omega)
  exact ⟨b, Tc, h2.trans h3, h4, h5⟩
theorem w_M_or {Sc Sm : SD} {Q : Nat} (hIQ : IQ Sc Sm) (hQ : (gD Sc 68 0 9) = (Q : Int)) (a : Int) {K : KT} : ∀ (n i : Nat), i ≤ Q → Q - i < n → ∃ n', n ≤ n' + (Q - i) + 1 ∧ run oo K false mi_292 n 30 [(0, vr (some (85, 0))), (1, vi a), (2, vl (orF Sc i)), (4, vi (i : Int))] [] Sm = run oo K false mi_292 n' 61 [(0, vr (some (85, 0))), (1, vi a), (2, vl (orF Sc Q)), (4, vi 0), (5, vi 0)] [] Sm := by
  have uIQ := hIQ; unfold IQ at uIQ; obtain ⟨qu1, qu2, qu3, qu4, qu5, qu6, qu7, qu8, qu9, qu10⟩ := uIQ
  intro n
  induction n with
  | zero => intro i h1 h2; omega
  | succ n ih =>
    intro i h1 h2
    rw [b292_30, qu1, hQ]
    by_cases hi : i < Q
    · obtain ⟨n', h3, h4⟩ := ih (i + 1) (by omega) (by omega)
      refine ⟨n', by omega, ?_⟩
      rw [if_pos (by omega), bnd (by omega), tn, awp (by omega), qu6]
      exact h4
    · have e : i = Q := by omega
      subst e
      exact ⟨n, by omega, by rw [if_neg (by omega)]⟩
theorem w_M_names {S : SD} (all a : Int) {T : Nat} (hM : (gD S 85 0 6) = (T : Int)) (hT4 : T ≤ 40) {K : KT} : ∀ (n t : Nat) (Tm : SD), EqX [166] [] S Tm → cnt (tb all) t ≤ 12 → NM 166 Tm all t → t ≤ T → T - t < n → ∃ Tm', EqX [166] [] S Tm' ∧ ((run oo K false mi_292 n 61 [(0, vr (some (85, 0))), (1, vi a), (2, vl all), (4, vi ((cnt (tb all) t : Nat) : Int)), (5, vi (t : Int))] [] Tm = some (vi (-2), Tm') ∧ 12 < cnt (tb all) T) ∨ (cnt (tb all) T ≤ 12 ∧ NM 166 Tm' all T ∧ ∃ n', n ≤ n' + (T - t) + 1 ∧ run oo K false mi_292 n 61 [(0, vr (some (85, 0))), (1, vi a), (2, vl all), (4, vi ((cnt (tb all) t : Nat) : Int)), (5, vi (t : Int))] [] Tm = run oo K false mi_292 n' 122 [(0, vr (some (85, 0))), (1, vi a), (4, vi ((cnt (tb all) T : Nat) : Int)), (5, vi (-3)), (6, vl 0), (8, vi 0)] [] Tm')) := by
  intro n
  induction n with
  | zero => intro t Tm h1 h2 h3 h4 h5; omega
  | succ n ih =>
    intro t Tm h1 h2 h3 h4 h5
    rw [b292_61, EqX_c h1 85 6 rfl, hM]
    by_cases ht : t < T
    · have e1 := awp (show t < 1000000 by omega)
      rw [if_pos (by omega)]
      simp only [bitc0 _ t (show t ≤ 40 by omega)]
      by_cases hb : tb all t = true
      · rw [if_neg (by rw [hb]; decide)]
        by_cases hc : cnt (tb all) t < 12
        · have e2 : vi (aw oo ((cnt (tb all) t : Int) + 1)) = vi ((cnt (tb all) (t + 1) : Nat) : Int) := by
            rw [cntT hb]; exact awp (by omega)
          rw [if_neg (by omega), bnd (by omega), tn, e1, e2]
          obtain ⟨Tm', h6, h7⟩ := ih (t + 1) (wD Tm 166 0 (cnt (tb all) t) (t : Int)) (EqX_wA h1 (by decide)) (by rw [cntT hb]; omega) (NM_st h3 hb (fun k => g_i)) (by omega) (by omega)
          refine ⟨Tm', h6, ?_⟩
          rcases h7 with h7 | ⟨h7, h8, n', h9, h10⟩
          · exact Or.inl h7
          · exact Or.inr ⟨h7, h8, n', by omega, h10⟩
        · have := cnt_mn (p := tb all) (j := t + 1) (n := T) (by omega)
          rw [cntT hb] at this
          exact ⟨Tm, h1, Or.inl ⟨by rw [if_pos (by omega)], by omega⟩⟩
      · have hb' : tb all t = false := by simpa using hb
        rw [if_pos hb', e1]
        obtain ⟨Tm', h6, h7⟩ := ih (t + 1) Tm h1 (by rw [cntF hb']; exact h2) (NM_sk h3 hb') (by omega) (by omega)
        rw [cntF hb'] at h7
        refine ⟨Tm', h6, ?_⟩
        rcases h7 with h7 | ⟨h7, h8, n', h9, h10⟩
        · exact Or.inl h7
        · exact Or.inr ⟨h7, h8, n', by omega, h10⟩
    · have e : t = T := by omega
      subst e
      exact ⟨Tm, h1, Or.inr ⟨h2, h3, n, by omega, by rw [if_neg (by omega)]⟩⟩
end
