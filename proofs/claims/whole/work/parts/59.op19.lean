/-! layer 2: word (3) -/
section
variable {d : Nat}
theorem q_hang {Sc Sm C : SD} {N t : Nat} {c : Int} (hN : (gD Sc 13 0 16) = (N : Int)) (hN4 : N < 400) (hT : IT Sc Sm) (hW : IW Sc Sm) (hK : IC Sc Sm) (ht : (t : Int) < (gD Sc 3 0 10)) (hc : 1 ≤ c) (hsz : (gD C 13 0 16) = (N : Int) + 1) (hct : ∀ k, k < N → (gD C 15 0 k) = (gD Sc 15 0 k)) (hbl : ∀ k, (gD C 24 0 k) = (gD Sc 24 0 k)) (htp : ∀ k, (gD C 26 0 k) = (gD Sc 26 0 k)) (hls : ∀ k, (gD C 27 0 k) = (gD Sc 27 0 k)) (hne : ∀ k, k < N → (gD Sc 14 0 k) = (t : Int) → (gD Sc 15 0 k) ≠ c) (hd : 2 ≤ d) : ∃ C', EE false d 131 [vr (some (13, 0)), vi (N : Int), vi (t : Int), vi c] C = some (vi 0, C') ∧ EqX [21, 24, 25, 26, 27] [] C C' ∧ (∀ k, (gD C' 21 0 k) = if k = N then (if c < (gD Sm 109 0 t) then 1 else 0) else (gD C 21 0 k)) ∧ (∀ k, (gD C' 25 0 k) = if k = N then (gD Sc 27 0 t) else (gD C 25 0 k)) ∧ (∀ k, (gD C' 27 0 k) = if k = t then (N : Int) else (gD Sc 27 0 k)) ∧ (∀ k, k < N → (gD Sc 14 0 k) = (t : Int) → (gD Sc 15 0 k) < c → (gD C' 24 0 k) = (gD Sc 24 0 k)) ∧ ChI Sc N t (gD C' 24 0 N) 0 ∧ (∀ P : Nat → Prop, (∀ k, P k → (gD Sc 14 0 k) = (t : Int) ∧ (gD Sc 15 0 k) < c) → ChR Sc N P (gD C' 24 0 N)) ∧ (∀ v : Nat, (gD C' 24 0 N) = (v : Int) → (gD Sc 15 0 v) < c) ∧ ∀ th' ct' : Nat → Int, (∀ k, th' k = if k = N then (t : Int) else (gD Sc 14 0 k)) → (∀ k, ct' k = if k = N then c else (gD Sc 15 0 k)) → Ch1 th' ct' (fun k => (gD C' 26 0 k)) (N + 1) ∧ Ch2 th' ct' (fun k => (gD C' 24 0 k)) (N + 1) := by
  have uIT := hT; unfold IT at uIT; obtain ⟨t1, t2, t3, t4, t5, t6, t7, t8, t9, t10, t11, t12, t13, t14, t15, t16⟩ := uIT
  have uIW := hW; unfold IW at uIW; obtain ⟨w1, w2, w3, w4, w5, w6, w7, w8, w9, w10, w11, w12, w13, w14, w15, w16, w17, w18, w19, w20, w21, w22, w23, w24⟩ := uIW
  have uK := hK; unfold IC at uK
  have ht4 : t < 40 := by omega
  have H1 : Ch1 (fun k => (gD Sc 14 0 k)) (fun k => (gD Sc 15 0 k)) (fun k => (gD Sc 26 0 k)) N := fun u hu => by
    rcases uK.1 u hu with ⟨h1, _, h2⟩ | ⟨w, h1, h2, h3, _, h4⟩
    · exact Or.inl ⟨h1, fun k hk => h2 k (by omega)⟩
    · exact Or.inr ⟨w, h1, by omega, h3, fun k hk hk2 => h4 k (by omega) hk2⟩
  have H2 : Ch2 (fun k => (gD Sc 14 0 k)) (fun k => (gD Sc 15 0 k)) (fun k => (gD Sc 24 0 k)) N := fun u hu => by
    rcases uK.2.1 u (by omega) with ⟨h1, h2⟩ | ⟨w, h1, h2, h3, h4, h5⟩
    · exact Or.inl ⟨h1, fun k hk hk2 => h2 k (by omega) hk2⟩
    · exact Or.inr ⟨w, h1, by omega, h3, h4, fun k hk hk2 hk3 => h5 k (by omega) hk2 hk3⟩
  rw [E131 (by omega), b131_0]
  by_cases hl : ∃ w : Nat, (gD Sc 26 0 t) = (w : Int) ∧ c < (gD Sc 15 0 w)
  · obtain ⟨w, hw1, hw2⟩ := hl
    obtain ⟨hw3, hw4, hw5, hw6⟩ : w < N ∧ (gD Sc 14 0 w) = (t : Int) ∧ (gD Sm 109 0 t) = (gD Sc 15 0 w) ∧ ∀ k, k < N → (gD Sc 14 0 k) = (t : Int) → (gD Sc 15 0 k) ≤ (gD Sc 15 0 w) := by
      rcases uK.1 t ht4 with ⟨h1, _⟩ | ⟨v, h1, h2, h3, h4, h5⟩
      · omega
      · have : v = w := by omega
        subst this
        exact ⟨by omega, h3, h4, fun k hk => h5 k (by omega)⟩
    rw [bnd (by omega), tn, htp, hw1, q_whas1 (by omega) w (by omega), b_I, if_neg (by decide), bnd (by omega), htp, hw1, bnd (by omega), tn, hct w hw3, if_pos hw2]
    generalize hC3 : wD (wD (wD C 21 0 N 1) 25 0 N (gD Sc 27 0 t)) 27 0 t (N : Int) = C3
    have hC3' : wD (wD (wD C 21 0 N 1) 25 0 N (gD (wD C 21 0 N 1) 27 0 t)) 27 0 t (N : Int) = C3 := by
      rw [← hC3, g_f (by decide), hls]
    have x3 : EqX [21, 25, 27] [] C C3 := by
      rw [← hC3]
      exact EqX_wA (EqX_wA (EqX_wA EqX_rf (by decide)) (by decide)) (by decide)
    obtain ⟨B, g1, g2, g3, g4, g5⟩ := w_hang (d := d - 1) (C := C3) hN hN4 hW hK (by rw [EqX_c x3 13 16 rfl]; exact hsz) (fun k hk => by rw [EqX_a x3 15 rfl]; exact hct k hk) (fun k hk => by rw [EqX_a x3 24 rfl]; exact hbl k) hne (by omega) 999999 0 w (by omega) (Or.inr ⟨w, rfl, hw3, hw4, by omega⟩) hw3 hw4 hw2
    have tp3 : ∀ k, (gD C3 26 0 k) = (gD Sc 26 0 k) := fun k => by rw [EqX_a x3 26 rfl]; exact htp k
    have lt3 : (gD C3 21 0 N) = 1 := by rw [← hC3, g_f (by decide), g_f (by decide), g_e]
    refine ⟨wD (wD C3 24 0 N (gD Sc 24 0 B)) 24 0 B (N : Int), ?_, ?_, ?_, ?_, ?_, ?_, ?_, ?_, ?_, ?_⟩
    · have b1 : (0 ≤ (N : Int) ∧ (N : Int) < 400) = True := eq_true (by omega)
      have b2 : (0 ≤ (t : Int) ∧ (t : Int) < 40) = True := eq_true (by omega)
      simp only [b1, b2, if_true, tn, hC3', lt3, e10, if_false, tp3, hw1]
      exact g1
    · exact EqX_wA (EqX_wA (EqX_mo x3 (by decide) (by decide)) (by decide)) (by decide)
    · intro k
      rw [g_f (by decide), g_f (by decide), ← hC3, g_f (by decide), g_f (by decide), g_i, hw5, if_pos hw2]
    · intro k
      rw [g_f (by decide), g_f (by decide), ← hC3, g_f (by decide), g_i, g_f (by decide)]
    · intro k
      rw [g_f (by decide), g_f (by decide), ← hC3, g_i, g_f (by decide), g_f (by decide), hls]
    · intro k hk hk2 hk3
      have : k ≠ B := fun e => by subst e; omega
      rw [g_k this, g_k (by omega), EqX_a x3 24 rfl]
      exact hbl k
    · rw [g_k (by omega), g_e]
      rcases uK.2.1 B (by omega) with ⟨h1, _⟩ | ⟨v, h1, h2, h3, _⟩
      · exact Or.inl h1
      · exact Or.inr ⟨v, h1, by omega, by omega, by omega⟩
    · intro P hP k hk hp
      rw [g_k (by omega), g_e]
      obtain ⟨p1, p2⟩ := hP k hp
      rcases uK.2.1 B (by omega) with ⟨h1, h2⟩ | ⟨v, h1, h2, h3, h4, h5⟩
      · have := h2 k (by omega) (by omega); omega
      · exact ⟨v, h1, h5 k (by omega) (by omega) (by omega)⟩
    · intro v hv
      rw [g_k (by omega), g_e] at hv
      exact g5 v hv
    · intro th' ct' h1 h2
      have et : (fun k => gD (wD (wD C3 24 0 N (gD Sc 24 0 B)) 24 0 B (N : Int)) 26 0 k) = (fun k => (gD Sc 26 0 k)) := funext fun k => by
        rw [g_f (by decide), g_f (by decide)]; exact tp3 k
      rw [et]
      exact Ch_mid H1 H2 ht4 (fun k l hk hl => w21 k l (by omega) (by omega)) g2 g3 g4 g5 h1 h2 (fun k => by
        show gD (wD (wD C3 24 0 N (gD Sc 24 0 B)) 24 0 B (N : Int)) 24 0 k = _
        rw [g_i]
        by_cases e : k = B
        · rw [if_pos e, if_pos e]
        · rw [if_neg e, if_neg e, g_i]
          by_cases e2 : k = N
          · rw [if_pos e2, if_pos e2]
          · rw [if_neg e2, if_neg e2, EqX_a x3 24 rfl]; exact hbl k)
  · have hg : ¬ c < (gD Sm 109 0 t) := fun z => by
      rcases uK.1 t ht4 with ⟨h1, h2, _⟩ | ⟨w, h1, h2, h3, h4, h5⟩
      · omega
      · exact hl ⟨w, h1, by omega⟩
    have hlt : ∀ w : Nat, (gD Sc 26 0 t) = (w : Int) → (gD Sc 15 0 w) < c := fun w hw => by
      rcases uK.1 t ht4 with ⟨h1, h2, _⟩ | ⟨v, h1, h2, h3, h4, h5⟩
      · omega
      · have : v = w := by omega
        subst this
        have := hne v (by omega) h3
        have : ¬ c < (gD Sc 15 0 v) := fun z => hl ⟨v, h1, z⟩
        omega
    generalize hC5 : wD (wD (wD (wD (wD C 21 0 N 0) 25 0 N (gD Sc 27 0 t)) 27 0 t (N : Int)) 24 0 N (gD Sc 26 0 t)) 26 0 t (N : Int) = C5
    have x5 : EqX [21, 24, 25, 26, 27] [] C C5 := by
      rw [← hC5]
      exact EqX_wA (EqX_wA (EqX_wA (EqX_wA (EqX_wA EqX_rf (by decide)) (by decide)) (by decide)) (by decide)) (by decide)
    have bN : (gD C5 24 0 N) = (gD Sc 26 0 t) := by rw [← hC5, g_f (by decide), g_e]
    refine ⟨C5, ?_, x5, ?_, ?_, ?_, ?_, ?_, ?_, ?_, ?_⟩
    · have b1 : (0 ≤ (N : Int) ∧ (N : Int) < 400) = True := eq_true (by omega)
      have b2 : (0 ≤ (t : Int) ∧ (t : Int) < 40) = True := eq_true (by omega)
      have z0 : gD (wD (wD (wD C 21 0 N 0) 25 0 N (gD Sc 27 0 t)) 27 0 t (N : Int)) 21 0 N = 0 := by rw [g_f (by decide), g_f (by decide), g_e]
      have z1 : gD (wD (wD (wD C 21 0 N 0) 25 0 N (gD Sc 27 0 t)) 27 0 t (N : Int)) 26 0 t = (gD Sc 26 0 t) := by rw [g_f (by decide), g_f (by decide), g_f (by decide)]; exact htp t
      have z2 : gD (wD C 21 0 N 0) 27 0 t = (gD Sc 27 0 t) := by rw [g_f (by decide)]; exact hls t
      rcases uK.1 t ht4 with ⟨h1, h2, _⟩ | ⟨v, h1, h2, h3, h4, h5⟩
      · have e0 := q_whas0 (S := C) (show 1 ≤ d - 1 by omega) (-1) (Or.inl (by decide))
        simp only [b1, b2, if_true, tn, htp, h1, e0, b_I, z2, z0] at z1 hC5 ⊢
        rw [z1, hC5]
      · have e0 := q_whas1 (S := C) (show 1 ≤ d - 1 by omega) v (by omega)
        have hv := hlt v h1
        have b3 : (0 ≤ (v : Int) ∧ (v : Int) < 400) = True := eq_true (by omega)
        have b4 : (c < (gD Sc 15 0 v)) = False := eq_false (by omega)
        simp only [b1, b2, b3, if_true, tn, htp, h1, e0, b_I, e10, if_false, hct v (by omega), b4, z2, z0] at z1 hC5 ⊢
        rw [z1, hC5]
    · intro k
      rw [← hC5, g_f (by decide), g_f (by decide), g_f (by decide), g_f (by decide), g_i, if_neg hg]
    · intro k
      rw [← hC5, g_f (by decide), g_f (by decide), g_f (by decide), g_i, g_f (by decide)]
    · intro k
      rw [← hC5, g_f (by decide), g_f (by decide), g_i, g_f (by decide), g_f (by decide), hls]
    · intro k hk hk2 hk3
      rw [← hC5, g_f (by decide), g_k (by omega), g_f (by decide), g_f (by decide), g_f (by decide)]
      exact hbl k
    · rw [bN]
      rcases uK.1 t ht4 with ⟨h1, _⟩ | ⟨v, h1, h2, h3, _⟩
      · exact Or.inl h1
      · exact Or.inr ⟨v, h1, by omega, h3, by omega⟩
    · intro P hP k hk hp
      rw [bN]
      obtain ⟨p1, p2⟩ := hP k hp
      rcases uK.1 t ht4 with ⟨h1, _, h2⟩ | ⟨v, h1, h2, h3, _, h5⟩
      · exact absurd p1 (h2 k (by omega))
      · exact ⟨v, h1, h5 k (by omega) p1⟩
    · intro v hv
      rw [bN] at hv
      exact hlt v hv
    · intro th' ct' h1 h2
      exact Ch_top H1 H2 ht4 h1 h2 (fun k => by
        show (gD C5 24 0 k) = _
        rw [← hC5, g_f (by decide), g_i, g_f (by decide), g_f (by decide), g_f (by decide)]
        split
        · rfl
        · exact hbl k) (fun k => by
        show (gD C5 26 0 k) = _
        rw [← hC5, g_i, g_f (by decide), g_f (by decide), g_f (by decide), g_f (by decide)]
        split
        · rfl
        · exact htp k) hlt
end
