/-! acts of rules: the word that led to it -/
section
variable {d : Nat}
def LMX (P : Nat → Prop) (N : Nat) (v : Int) : Prop := (v = -1 ∧ ∀ k, k < N → ¬ P k) ∨ ∃ w : Nat, v = (w : Int) ∧ w < N ∧ P w ∧ ∀ k, k < N → P k → k ≤ w
theorem MX_un {P N a b} (h1 : LMX P N a) (h2 : LMX P N b) : a = b := by
  rcases h1 with ⟨h1, h3⟩ | ⟨w, h1, h3, h4, h5⟩
  · rcases h2 with ⟨h2, h6⟩ | ⟨v, h2, h6, h7, h8⟩
    · omega
    · exact absurd h7 (h3 v h6)
  · rcases h2 with ⟨h2, h6⟩ | ⟨v, h2, h6, h7, h8⟩
    · exact absurd h4 (h6 w h3)
    · have := h5 v h6 h7
      have := h8 w h3 h4
      omega
theorem MX_ext {P P' : Nat → Prop} {N v} (h : LMX P N v) (e : ∀ k, k < N → (P k ↔ P' k)) : LMX P' N v := by
  rcases h with ⟨h1, h3⟩ | ⟨w, h1, h3, h4, h5⟩
  · exact Or.inl ⟨h1, fun k hk hp => h3 k hk ((e k hk).mpr hp)⟩
  · exact Or.inr ⟨w, h1, h3, (e w h3).mp h4, fun k hk hp => h5 k hk ((e k hk).mpr hp)⟩
theorem MX_max {P Q : Nat → Prop} {N a b} (h1 : LMX P N a) (h2 : LMX Q N b) : LMX (fun k => P k ∨ Q k) N (max a b) := by
  rcases h1 with ⟨h1, h3⟩ | ⟨w, h1, h3, h4, h5⟩
  · rcases h2 with ⟨h2, h6⟩ | ⟨v, h2, h6, h7, h8⟩
    · exact Or.inl ⟨by omega, fun k hk hp => hp.elim (h3 k hk) (h6 k hk)⟩
    · exact Or.inr ⟨v, by omega, h6, Or.inr h7, fun k hk hp => hp.elim (fun q => absurd q (h3 k hk)) (h8 k hk)⟩
  · rcases h2 with ⟨h2, h6⟩ | ⟨v, h2, h6, h7, h8⟩
    · exact Or.inr ⟨w, by omega, h3, Or.inl h4, fun k hk hp => hp.elim (h5 k hk) (fun q => absurd q (h6 k hk))⟩
    · by_cases c : w ≤ v
      · exact Or.inr ⟨v, by omega, h6, Or.inr h7, fun k hk hp => hp.elim (fun q => by have := h5 k hk q; omega) (h8 k hk)⟩
      · exact Or.inr ⟨w, by omega, h3, Or.inl h4, fun k hk hp => hp.elim (h5 k hk) (fun q => by have := h8 k hk q; omega)⟩
def LLP (S : SD) (r : Nat) (n : Nat) (k : Nat) : Prop := ∃ i : Nat, i < n ∧ (gD S 49 r i) = (gD S 14 0 k)
theorem w_lead {Sc Sm : SD} {N r W : Nat} (hN : (gD Sc 13 0 16) = (N : Int)) (hT : IT Sc Sm) (hK : IC Sc Sm) (h1 : RR1 r Sc Sm) (hWn : (gD Sc 47 r 8) = (W : Int)) (hd : 2 ≤ d) : ∀ (n j : Nat) (v : Int), j ≤ W → W - j < n → LMX (LLP Sc r j) N v → ∃ v', run oo (EE false d) false mi_113 n 4 [(0, vr (some (41, 0))), (1, vr (some (47, r))), (2, vi v), (3, vi (j : Int))] [] Sc = some (vi v', Sc) ∧ LMX (LLP Sc r W) N v' := by
  unfold RR1 at h1
  obtain ⟨a1, a2, a3, a4, a5, a6⟩ := h1
  have hT' := hT
  have uIT := hT; unfold IT at uIT; obtain ⟨t1, t2, t3, t4, t5, t6, t7, t8, t9, t10, t11, t12, t13, t14, t15, t16⟩ := uIT
  intro n
  induction n with
  | zero => intro j v z1 z2; omega
  | succ n ih =>
    intro j v z1 z2 z3
    rw [b113_4, hWn]
    by_cases hj : j < W
    · obtain ⟨f1, f2, f3, f4, f5, f6, _⟩ := a6 j (by omega)
      obtain ⟨t, ht⟩ := Int.eq_ofNat_of_zero_le f5
      have ht6 : (t : Int) < (gD Sc 3 0 10) := by omega
      have ht4 : t < 40 := by omega
      rw [if_pos (by omega), if_pos (by omega), bnd (by omega), tn, ht, E146 (by omega), b146_0, q_thas1 (by omega) t ht6, b_I, if_neg (by decide), bnd (by omega), tn, b_I, abmax, awp (by omega)]
      refine ih (j + 1) _ (by omega) (by omega) (MX_ext (MX_max z3 (Q := fun k => (gD Sc 14 0 k) = (t : Int)) ?_) (fun k hk => ⟨fun q => ?_, fun q => ?_⟩))
      · have uK := hK; unfold IC at uK
        rcases uK.2.2.1 t ht4 with ⟨k1, k2⟩ | ⟨w, k1, k2, k3, k4⟩
        · exact Or.inl ⟨k1, fun k hk => k2 k (by omega)⟩
        · exact Or.inr ⟨w, k1, by omega, k3, fun k hk hp => k4 k (by omega) hp⟩
      · rcases q with ⟨i, i1, i2⟩ | q
        · exact ⟨i, by omega, i2⟩
        · exact ⟨j, by omega, ht.trans q.symm⟩
      · obtain ⟨i, i1, i2⟩ := q
        by_cases e : i = j
        · subst e; exact Or.inr (i2.symm.trans ht)
        · exact Or.inl ⟨i, by omega, i2⟩
    · have e : j = W := by omega
      subst e
      exact ⟨v, by rw [if_neg (by omega)], z3⟩
theorem w_led2 {Sc Sm : SD} {N r W u : Nat} {v0 v1 : Int} (hN4 : N ≤ 400) (hu : u < N) (hr : r < 20) (hW : IW Sc Sm) (h1 : RR1 r Sc Sm) (hWn : (gD Sc 47 r 8) = (W : Int)) {K : KT} {R : Option RR} {n0 : Nat} (go : ∀ (n : Nat) (v : Int), n0 ≤ n → (v = v0 ∧ ¬ LLP Sc r W u ∨ v = (u : Int) ∧ LLP Sc r W u) → run oo K false mi_257 n 4 [(0, vr (some (85, 0))), (1, vi (r : Int)), (2, vi v), (3, vi ((u + 1 : Nat) : Int))] [] Sm = R) : ∀ (n j : Nat) (v : Int), j ≤ W → W - j + n0 < n → (v = v0 ∧ ¬ LLP Sc r j u ∨ v = (u : Int) ∧ LLP Sc r j u) → run oo K false mi_257 n 15 [(0, vr (some (85, 0))), (1, vi (r : Int)), (2, vi v), (3, vi (u : Int)), (4, vi (j : Int))] [] Sm = R := by
  unfold RR1 at h1
  obtain ⟨a1, a2, a3, a4, a5, a6⟩ := h1
  have uIW := hW; unfold IW at uIW; obtain ⟨w1, w2, w3, w4, w5, w6, w7, w8, w9, w10, w11, w12, w13, w14, w15, w16, w17, w18, w19, w20, w21, w22, w23, w24⟩ := uIW
  intro n
  induction n with
  | zero => intro j v z1 z2; omega
  | succ n ih =>
    intro j v z1 z2 z3
    rw [b257_15, if_pos (by omega), tn, a3, hWn]
    by_cases hj : j < W
    · obtain ⟨f1, f2, f3, f4, f5, f6, _⟩ := a6 j (by omega)
      rw [if_pos (by omega), awB (by omega), bnd (by omega), bnd (by omega), tn, tn, f4, w4, awp (by omega)]
      by_cases q : (gD Sc 49 r j) = (gD Sc 14 0 u)
      · rw [if_pos q]
        exact ih (j + 1) _ (by omega) (by omega) (Or.inr ⟨rfl, j, by omega, q⟩)
      · rw [if_neg q]
        refine ih (j + 1) _ (by omega) (by omega) ?_
        rcases z3 with ⟨z3, z4⟩ | ⟨z3, i, i1, i2⟩
        · refine Or.inl ⟨z3, ?_⟩
          rintro ⟨i, i1, i2⟩
          by_cases e : i = j
          · subst e; exact q i2
          · exact z4 ⟨i, by omega, i2⟩
        · exact Or.inr ⟨z3, i, by omega, i2⟩
    · have e : j = W := by omega
      subst e
      rw [if_neg (by omega), awp (by omega)]
      exact go n v (by omega) z3
theorem w_led {Sc Sm : SD} {N r W : Nat} {L : Int} (hN : (gD Sc 13 0 16) = (N : Int)) (hN4 : N ≤ 400) (hr : r < 20) (hW : IW Sc Sm) (h1 : RR1 r Sc Sm) (hWn : (gD Sc 47 r 8) = (W : Int)) (hW16 : W ≤ 16) (hL : LMX (LLP Sc r W) N L) {K : KT} : ∀ (m n j : Nat) (v : Int), j ≤ N → N - j = m → 20 * m < n → LMX (fun k => LLP Sc r W k ∧ k < j) N v → run oo K false mi_257 n 4 [(0, vr (some (85, 0))), (1, vi (r : Int)), (2, vi v), (3, vi (j : Int))] [] Sm = some (vi L, Sm) := by
  have uW := hW
  unfold IW at uW
  obtain ⟨w1, _⟩ := uW
  intro m
  induction m with
  | zero =>
    intro n j v z1 z2 z3 z4
    obtain ⟨n, rfl⟩ : ∃ n', n = n' + 1 := ⟨n - 1, by omega⟩
    have e : v = L := MX_un (MX_ext z4 (fun k hk => ⟨fun q => q.1, fun q => ⟨q, by omega⟩⟩)) hL
    rw [b257_4, w1, hN, if_neg (by omega), e]
  | succ m ih =>
    intro n j v z1 z2 z3 z4
    obtain ⟨n, rfl⟩ : ∃ n', n = n' + 1 := ⟨n - 1, by omega⟩
    rw [b257_4, w1, hN, if_pos (by omega)]
    have nx : ∀ x : Int, (x = v ∧ ¬ LLP Sc r W j ∨ x = (j : Int) ∧ LLP Sc r W j) → LMX (fun k => LLP Sc r W k ∧ k < j + 1) N x := by
      intro x hx
      rcases hx with ⟨rfl, h⟩ | ⟨rfl, h⟩
      · exact MX_ext z4 (fun k hk => ⟨fun q => ⟨q.1, by omega⟩, fun q => ⟨q.1, by
          have : k ≠ j := fun e => by subst e; exact h q.1
          have := q.2
          omega⟩⟩)
      · exact Or.inr ⟨j, rfl, by omega, ⟨h, by omega⟩, fun k hk q => by have := q.2; omega⟩
    exact w_led2 (u := j) (v0 := v) (v1 := 0) (n0 := 20 * m + 1) hN4 (by omega) hr hW h1 hWn (fun n v hn hv => ih n (j + 1) v (by omega) (by omega) (by omega) (nx v hv)) n 0 v (by omega) (by omega) (Or.inl ⟨rfl, fun ⟨i, i1, _⟩ => by omega⟩)
theorem lead_both {d' : Nat} {Sc Sm : SD} {r : Nat} (hT : IT Sc Sm) (hW : IW Sc Sm) (hK : IC Sc Sm) (h1 : RR1 r Sc Sm) (hr : r < 20) (hd : 3 ≤ d) (hd' : 1 ≤ d') : ∃ L, (∀ A C S', EqX A C Sc S' → frOK IT_ac IT_cc A C = true → frOK IC_ac IC_cc A C = true → frOK IW_ac IW_cc A C = true → frOK RR1_ac RR1_cc A C = true → EE false d 113 [vr (some (41, 0)), vr (some (47, r))] S' = some (vi L, S')) ∧ (∀ A C S', EqX A C Sm S' → frOK IW_am IW_cm A C = true → frOK RR1_am RR1_cm A C = true → EE false d' 257 [vr (some (85, 0)), vi (r : Int)] S' = some (vi L, S')) := by
  have uW := hW
  unfold IW at uW
  obtain ⟨w1, w2, w3, _⟩ := uW
  obtain ⟨N, hN⟩ := Int.eq_ofNat_of_zero_le w2
  have h1' := h1
  unfold RR1 at h1'
  obtain ⟨a1, a2, a3, a4, a5, a6⟩ := h1'
  obtain ⟨W, hWn⟩ := Int.eq_ofNat_of_zero_le (show 0 ≤ (gD Sc 47 r 8) by omega)
  have x0 : EqX [] [] Sm Sm := EqX_rf
  have y0 : EqX [] [] Sc Sc := EqX_rf
  obtain ⟨L, _, hL⟩ := w_lead (d := d - 1) hN hT hK h1 hWn (by omega) 999999 0 (-1) (by omega) (by omega) (Or.inl ⟨rfl, fun k hk ⟨i, i1, _⟩ => by omega⟩)
  refine ⟨L, fun A C S' x f1 f2 f3 f4 => ?_, fun A C S' x f1 f2 => ?_⟩
  · have a1 := AgX x f3
    have a2 := AgX x f4
    have g1 : (gD S' 13 0 16) = (N : Int) := (a1.2 (13, 16) (by decide) 0).trans hN
    have g2 : (gD S' 47 r 8) = (W : Int) := (a2.2 (47, 8) (by decide) r).trans hWn
    have g3 : LLP S' r W = LLP Sc r W := by
      unfold LLP
      funext k
      simp only [a2.1 49 (by decide), a1.1 14 (by decide)]
    obtain ⟨v, i1, i2⟩ := w_lead (d := d - 1) (Sc := S') g1 (IT_fr (AgX x f1) (AgX x0 rfl) hT) (IC_fr (AgX x f2) (AgX x0 rfl) hK) (RR1_fr a2 (AgX x0 rfl) h1) g2 (by omega) 999999 0 (-1) (by omega) (by omega) (Or.inl ⟨rfl, fun k hk ⟨i, i1, _⟩ => by omega⟩)
    rw [g3] at i2
    rw [MX_un i2 hL] at i1
    exact (E113 (by omega) S' r).trans ((b113_0 oo (EE false (d - 1)) 999999 S' r).trans i1)
  · exact (E257 (by omega) S' (r : Int)).trans ((b257_0 oo (EE false (d' - 1)) 999999 S' (r : Int)).trans (w_led (W := W) hN (by omega) hr (IW_fr (AgX y0 rfl) (AgX x f1) hW) (RR1_fr (AgX y0 rfl) (AgX x f2) h1) hWn (by omega) hL N 999999 0 (-1) (by omega) (by omega) (by omega) (Or.inl ⟨rfl, fun k hk q => by have := q.2; omega⟩)))
end
