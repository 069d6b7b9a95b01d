/-! layer 2: word (2): hang, OUTSIDE -/
section
variable {d : Nat}
/-- where the late one hangs -/
theorem w_hang {Sc Sm C : SD} {N t : Nat} {c : Int} (hN : (gD Sc 13 0 16) = (N : Int)) (hN4 : N < 400) (hW : IW Sc Sm) (hK : IC Sc Sm) (hsz : (gD C 13 0 16) = (N : Int) + 1) (hct : ∀ k, k < N → (gD C 15 0 k) = (gD Sc 15 0 k)) (hbl : ∀ k, k < N → (gD C 24 0 k) = (gD Sc 24 0 k)) (hne : ∀ k, k < N → (gD Sc 14 0 k) = (t : Int) → (gD Sc 15 0 k) ≠ c) (hd : 1 ≤ d) : ∀ (n j A : Nat), N - j < n → ChI Sc N t (A : Int) j → A < N → (gD Sc 14 0 A) = (t : Int) → c < (gD Sc 15 0 A) → ∃ B : Nat, run oo (EE false d) false mi_131 n 98 [(0, vr (some (13, 0))), (1, vi (N : Int)), (3, vi c), (4, vi (A : Int)), (5, vi (j : Int))] [] C = some (vi 0, wD (wD C 24 0 N (gD Sc 24 0 B)) 24 0 B (N : Int)) ∧ B < N ∧ (gD Sc 14 0 B) = (t : Int) ∧ c < (gD Sc 15 0 B) ∧ ∀ v : Nat, (gD Sc 24 0 B) = (v : Int) → (gD Sc 15 0 v) < c := by
  have uIW := hW; unfold IW at uIW; obtain ⟨w1, w2, w3, w4, w5, w6, w7, w8, w9, w10, w11, w12, w13, w14, w15, w16, w17, w18, w19, w20, w21, w22, w23, w24⟩ := uIW
  have uK := hK; unfold IC at uK
  intro n
  induction n with
  | zero => intro j A h1 h2 h3 h4 h5; have := ChI_lt h2; omega
  | succ n ih =>
    intro j A h1 h2 h3 h4 h5
    have hj := ChI_lt h2
    rw [b131_98, hsz, if_pos (by omega), bnd (by omega), tn, hbl A h3]
    rcases uK.2.1 A (by omega) with ⟨h6, h7⟩ | ⟨v, h6, h7, h8, h9, h10⟩
    · rw [h6, q_whas0 hd _ (Or.inl (by decide)), b_I, if_pos rfl, bnd (by omega), bnd (by omega), bnd (by omega), tn, hbl A h3]
      exact ⟨A, rfl, h3, h4, h5, fun v hv => by omega⟩
    · have hv : v < N := by omega
      rw [h6, q_whas1 hd v (by omega), b_I, if_neg (by decide), bnd (by omega), hbl A h3, h6, bnd (by omega), tn, hct v hv]
      by_cases q : c < (gD Sc 15 0 v)
      · have hst := ChI_st hN hK (t := t) (j := j) (v := A) h2
        rw [h6] at hst
        rw [if_pos q, bnd (by omega), awp (by omega)]
        exact ih (j + 1) v (by omega) hst hv (by omega) q
      · rw [if_neg q, bnd (by omega), bnd (by omega), bnd (by omega), tn]
        refine ⟨A, by rw [h6], h3, h4, h5, fun u hu => ?_⟩
        have : u = v := by omega
        subst this
        have := hne u hv (by omega)
        omega
/-- the class's side of OUTSIDE: the next lesser one that counts -/
def PO (S : SD) (t f : Nat) (c : Int) (k : Nat) : Prop := (gD S 14 0 k) = (t : Int) ∧ (gD S 15 0 k) < c ∧ (gD S 22 0 k) = 0 ∧ (gD S 23 0 (3 * k + f)) ≠ -1000000
/-- what both sides tell, by the word found -/
def outV (S : SD) (N f : Nat) (r : Int) : Int := if (gD S 23 0 (3 * N + f)) = -1000000 ∨ r < 0 ∨ (gD S 19 0 N) < (gD S 18 0 (r.toNat)) then 0 else if (gD S 23 0 (3 * N + f)) < gLo S r.toNat f (gD S 19 0 N) ∨ gHi S r.toNat f (gD S 19 0 N) < (gD S 23 0 (3 * N + f)) then 1 else 0
/-- the heap with one word more, as far as reading needs it -/
def NW (Sc C : SD) (N t : Nat) : Prop := (gD C 3 0 10) = (gD Sc 3 0 10) ∧ (gD C 13 0 16) = (N : Int) + 1 ∧ (∀ k, k < N → (gD C 14 0 k) = (gD Sc 14 0 k)) ∧ (gD C 14 0 N) = (t : Int) ∧ (∀ k, k < N → (gD C 15 0 k) = (gD Sc 15 0 k)) ∧ (∀ k, k < N → (gD C 18 0 k) = (gD Sc 18 0 k)) ∧ (∀ k, k < N → (gD C 22 0 k) = (gD Sc 22 0 k)) ∧ (∀ k, k < 3 * N → (gD C 23 0 k) = (gD Sc 23 0 k))
theorem q_guessEdge2 {C Cm : SD} (hT : IT C Cm) (hd : 3 ≤ d) (w f : Nat) (hw4 : w < 400) (hw : (w : Int) < (gD C 13 0 16)) (t : Nat) (ht : (gD C 14 0 w) = (t : Int)) (htT : (t : Int) < (gD C 3 0 10)) (hf : f < 3) (at' : Int) : EE false d 143 [vr (some (13, 0)), vi (w : Int), vi (f : Int), vi at', vi 0] C = some (vi (gLo C w f at'), C) ∧ EE false d 143 [vr (some (13, 0)), vi (w : Int), vi (f : Int), vi at', vi 1] C = some (vi (gHi C w f at'), C) := by
  have uIT := hT; unfold IT at uIT; obtain ⟨t1, t2, t3, t4, t5, t6, t7, t8, t9, t10, t11, t12, t13, t14, t15, t16⟩ := uIT
  have hk := t5 t
  refine ⟨?_, ?_⟩
  · rw [E143 (by omega), b143_0]
    (try simp (disch := omega) only [b_I, b_L, b_V, tn, e10, eq_self, if_true, if_false, ite_not, i01, q_whas1, q_number, ht, q_rate, q_least, abmax, abmin]); (try simp (disch := omega) only [↓bnd])
    simp only [gLo, grown, rowT, ht, tn]
  · rw [E143 (by omega), b143_0]
    (try simp (disch := omega) only [b_I, b_L, b_V, tn, e10, eq_self, if_true, if_false, ite_not, i01, q_whas1, q_number, ht, q_rate, q_most, abmax, abmin]); (try simp (disch := omega) only [↓bnd])
    simp only [gHi, grown, rowT, ht, tn]
theorem q_M_guess2 {C Cm : SD} (hT : IT C Cm) (hd : 2 ≤ d) (t w f : Nat) (hw4 : w < 400) (ht : (gD C 14 0 w) = (t : Int)) (ht4 : t < 40) (hf : f < 3) (e13 : (gD Cm 106 0 (3 * w + f)) = (gD C 23 0 (3 * w + f))) (e8 : (gD Cm 101 0 w) = (gD C 18 0 w)) (at' : Int) : EE false d 207 [vr (some (85, 0)), vi (t : Int), vi (f : Int), vi (w : Int), vi at'] Cm = some (vi (gLo C w f at'), Cm) ∧ EE false d 208 [vr (some (85, 0)), vi (t : Int), vi (f : Int), vi (w : Int), vi at'] Cm = some (vi (gHi C w f at'), Cm) := by
  have r1 := q_M_rate hT (show 1 ≤ d - 1 by omega) t f ht4 hf
  have r2 := q_M_least hT (show 1 ≤ d - 1 by omega) t f ht4 hf
  have r3 := q_M_most hT (show 1 ≤ d - 1 by omega) t f ht4 hf
  refine ⟨?_, ?_⟩
  · rw [E207 (by omega), b207_0]
    (try simp (disch := omega) only [b_I, b_L, b_V, tn, e10, eq_self, if_true, if_false, ite_not, i01, aw3y, ix3a, r1, r2, q_M_less, q_M_more, e13, e8]); (try simp (disch := omega) only [↓bnd])
    simp only [gLo, grown, rowT, ht, tn]
  · rw [E208 (by omega), b208_0]
    (try simp (disch := omega) only [b_I, b_L, b_V, tn, e10, eq_self, if_true, if_false, ite_not, i01, aw3y, ix3a, r1, r3, q_M_less, q_M_more, e13, e8]); (try simp (disch := omega) only [↓bnd])
    simp only [gHi, grown, rowT, ht, tn]
theorem w_outside {Sc Sm C Cm : SD} {N t f : Nat} {c : Int} (hN : (gD Sc 13 0 16) = (N : Int)) (hN4 : N < 400) (hW : IW Sc Sm) (hK : IC Sc Sm) (hT : IT C Cm) (hNW : NW Sc C N t) (htT : (t : Int) < (gD Sc 3 0 10)) (hf : f < 3) (hbl : ∀ k, k < N → (gD Sc 14 0 k) = (t : Int) → (gD Sc 15 0 k) < c → (gD C 24 0 k) = (gD Sc 24 0 k)) (hd : 4 ≤ d) : ∀ (n j : Nat) (w : Int), N - j + 1 < n → ChI Sc N t w j → ChR Sc N (PO Sc t f c) w → (∀ v : Nat, w = (v : Int) → (gD Sc 15 0 v) < c) → ∃ r, run oo (EE false d) false mi_133 n 18 [(0, vr (some (13, 0))), (1, vi (N : Int)), (2, vi (f : Int)), (3, vi (gD C 23 0 (3 * N + f))), (4, vi w), (5, vi (j : Int))] [] C = some (vi (outV C N f r), C) ∧ Best (PO Sc t f c) (fun k => (gD Sc 15 0 k)) N r := by
  have uIW := hW; unfold IW at uIW; obtain ⟨w1, w2, w3, w4, w5, w6, w7, w8, w9, w10, w11, w12, w13, w14, w15, w16, w17, w18, w19, w20, w21, w22, w23, w24⟩ := uIW
  obtain ⟨a0, a1, a2, a3, a4, a5, a6, a7⟩ := hNW
  intro n
  induction n with
  | zero => intro j w h1; omega
  | succ n ih =>
    intro j w h1 h2 h3 h4
    rw [b133_18, a1]
    by_cases hw : w = -1
    · subst hw
      refine ⟨-1, ?_, Or.inl ⟨rfl, fun k hk hp => ?_⟩⟩
      · have e0 := q_whas0 (S := C) (show 1 ≤ d by omega) (-1) (Or.inl (by decide))
        have e1 : outV C N f (-1) = 0 := by unfold outV; rw [if_pos (Or.inr (Or.inl (by decide)))]
        rw [e1, e0, b_I]
        simp only [if_true, e0, b_I]
        split <;> split <;> rfl
      · obtain ⟨v, h5, _⟩ := h3 k hk hp
        omega
    · rcases h2 with h | ⟨v, rfl, h5, h6, h7⟩
      · exact absurd h hw
      · have hc : ChI Sc N t (v : Int) j := Or.inr ⟨v, rfl, h5, h6, h7⟩
        have hj := ChI_lt hc
        have hcv := h4 v rfl
        have e0 := q_whas1 (S := C) (show 1 ≤ d by omega) v (by omega)
        have e1 := q_counts (S := C) (show 1 ≤ d by omega) v f (by omega) hf
        have htv : (gD C 14 0 v) = (t : Int) := by rw [a2 v h5]; exact h6
        obtain ⟨e2, e3⟩ := q_guessEdge2 (C := C) (d := d) hT (by omega) v f (by omega) (by omega) t htv (by omega) hf (gD C 19 0 N)
        rw [if_pos (by omega), e0, b_I, if_neg (by decide), e1, b_I]
        by_cases hp : PO Sc t f c v
        · obtain ⟨p1, p2, p3, p4⟩ := hp
          have q1 : (gD C 22 0 v) = 0 ∧ (gD C 23 0 (3 * v + f)) ≠ -1000000 := ⟨by rw [a6 v h5]; exact p3, by rw [a7 _ (by omega)]; exact p4⟩
          refine ⟨v, ?_, Or.inr ⟨v, rfl, h5, ⟨p1, p2, p3, p4⟩, fun k hk hq => ?_⟩⟩
          · rw [if_pos q1, if_neg (show ¬ (1 : Int) = 0 by decide), e0, b_I, if_neg (show ¬ (1 : Int) = 0 by decide), bnd (by omega), bnd (by omega), bnd (by omega), tn, tn, e2, b_I, bnd (by omega), e3, b_I]
            unfold outV
            rw [tn]
            by_cases z1 : (gD C 23 0 (3 * N + f)) = -1000000
            · rw [if_pos z1, if_pos (Or.inl z1)]
            · rw [if_neg z1]
              by_cases z2 : (gD C 19 0 N) < (gD C 18 0 v)
              · rw [if_pos z2, if_pos (Or.inr (Or.inr z2))]
              · rw [if_neg z2, if_neg (show ¬ ((gD C 23 0 (3 * N + f)) = -1000000 ∨ (v : Int) < 0 ∨ (gD C 19 0 N) < (gD C 18 0 v)) by omega)]
                by_cases z3 : (gD C 23 0 (3 * N + f)) < gLo C v f (gD C 19 0 N)
                · rw [if_pos z3, if_pos (Or.inl z3)]
                · rw [if_neg z3]
                  by_cases z4 : gHi C v f (gD C 19 0 N) < (gD C 23 0 (3 * N + f))
                  · rw [if_pos z4, if_pos (Or.inr z4)]
                  · rw [if_neg z4, if_neg (by omega)]
          · obtain ⟨u, h8, h9⟩ := h3 k hk hq
            have : u = v := by omega
            subst this
            exact h9
        · have q1 : ¬ ((gD C 22 0 v) = 0 ∧ (gD C 23 0 (3 * v + f)) ≠ -1000000) := fun z => hp ⟨h6, hcv, by rw [← a6 v h5]; exact z.1, by rw [← a7 (3 * v + f) (by omega)]; exact z.2⟩
          rw [if_neg q1, if_pos rfl, bnd (by omega), tn, hbl v h5 h6 hcv, awp (by omega)]
          have hst := ChI_st hN hK hc
          refine ih (j + 1) _ (by omega) hst (ChR_st hN hW hK (t := t) (fun k hk => hk.1) h5 h6 hp h3) (fun u hu => ?_)
          have uK := hK; unfold IC at uK
          rcases uK.2.1 v (by omega) with ⟨h8, _⟩ | ⟨x, h8, _, _, h9, _⟩
          · omega
          · have : u = x := by omega
            subst this
            omega
/-- the reference's side -/
theorem w_M_outside {Sc Sm C Cm : SD} {N t f : Nat} {c : Int} (hN : (gD Sc 13 0 16) = (N : Int)) (hN4 : N < 400) (hW : IW Sc Sm) (hT : IT C Cm) (hNW : NW Sc C N t) (htT : t < 40) (hf : f < 3) (hcN : (gD Cm 98 0 N) = c) (hth : ∀ k, (gD Cm 97 0 k) = (gD C 14 0 k)) (hct : ∀ k, k < N → (gD Cm 98 0 k) = (gD Sc 15 0 k)) (hfr : ∀ k, (gD Cm 101 0 k) = (gD C 18 0 k)) (hto : (gD Cm 102 0 N) = (gD C 19 0 N)) (hfg : ∀ k, (gD Cm 105 0 k) = (gD C 22 0 k)) (hnu : ∀ k, (gD Cm 106 0 k) = (gD C 23 0 k)) (hv : (gD C 23 0 (3 * N + f)) ≠ -1000000) (hd : 3 ≤ d) : ∀ (n j : Nat) (b : Int), j ≤ N → N - j < n → Best (PO Sc t f c) (fun k => (gD Sc 15 0 k)) j b → ∃ r, run oo (EE false d) false mi_209 n 26 [(0, vr (some (85, 0))), (1, vi (N : Int)), (2, vi (f : Int)), (3, vi (gD C 23 0 (3 * N + f))), (4, vi b), (5, vi (j : Int))] [] Cm = some (vi (outV C N f r), Cm) ∧ Best (PO Sc t f c) (fun k => (gD Sc 15 0 k)) N r := by
  have uIW := hW; unfold IW at uIW; obtain ⟨w1, w2, w3, w4, w5, w6, w7, w8, w9, w10, w11, w12, w13, w14, w15, w16, w17, w18, w19, w20, w21, w22, w23, w24⟩ := uIW
  obtain ⟨a0, a1, a2, a3, a4, a5, a6, a7⟩ := hNW
  intro n
  induction n with
  | zero => intro j b h1 h2; omega
  | succ n ih =>
    intro j b h1 h2 hb
    rw [b209_26]
    by_cases hj : j < N
    · have go : ∀ b', Best (PO Sc t f c) (fun k => (gD Sc 15 0 k)) (j + 1) b' → _ := fun b' hb' => ih (j + 1) b' (by omega) (by omega) hb'
      have e1 := awp (show j < 1000000 by omega)
      rw [if_pos (by omega), bnd (by omega), bnd (by omega), tn, tn, hth, hth, a3, a2 j hj]
      by_cases q1 : (gD Sc 14 0 j) = (t : Int)
      · rw [if_pos q1, bnd (by omega), bnd (by omega), hcN, hct j hj]
        by_cases q2 : (gD Sc 15 0 j) < c
        · rw [if_pos q2, bnd (by omega), hfg, a6 j hj]
          by_cases q3 : (gD Sc 22 0 j) = 0
          · rw [if_pos q3, aw3y (by omega), bnd (by omega), ix3a, hnu, a7 _ (by omega)]
            by_cases q4 : (gD Sc 23 0 (3 * j + f)) = -1000000
            · rw [if_pos q4, e1]; exact go _ (Best_skip hb (fun hp => hp.2.2.2 q4))
            · rw [if_neg q4]
              have hp : PO Sc t f c j := ⟨q1, q2, q3, q4⟩
              have hb2 := hb
              rcases hb2 with ⟨rfl, _⟩ | ⟨w, rfl, hw, _⟩
              · rw [if_pos (by omega), e1]; exact go _ (Best_fst hb hp)
              · rw [if_neg (by omega), bnd (by omega), bnd (by omega), tn, hct w (by omega)]
                by_cases q6 : (gD Sc 15 0 w) < (gD Sc 15 0 j)
                · rw [if_pos q6, e1]; exact go _ (Best_grt hb hp q6)
                · rw [if_neg q6, e1]; exact go _ (Best_les hb q6)
          · rw [if_neg q3, e1]; exact go _ (Best_skip hb (fun hp => q3 hp.2.2.1))
        · rw [if_neg q2, e1]; exact go _ (Best_skip hb (fun hp => q2 hp.2.1))
      · rw [if_neg q1, e1]; exact go _ (Best_skip hb (fun hp => q1 hp.1))
    · have e : j = N := by omega
      subst e
      refine ⟨b, ?_, hb⟩
      rw [if_neg (by omega)]
      rcases hb with ⟨rfl, _⟩ | ⟨w, rfl, hw, hp, _⟩
      · rw [if_pos (by decide)]
        unfold outV
        rw [if_pos (Or.inr (Or.inl (by decide)))]
      · have htw : (gD C 14 0 w) = (t : Int) := by rw [a2 w hw]; exact hp.1
        obtain ⟨e2, e3⟩ := q_M_guess2 (C := C) (Cm := Cm) (d := d - 1) hT (by omega) t w f (by omega) htw htT hf (hnu _) (hfr _) (gD C 19 0 j)
        rw [if_neg (by omega), bnd (by omega), bnd (by omega), tn, tn, hto, hfr]
        unfold outV
        rw [tn]
        by_cases z2 : (gD C 19 0 j) < (gD C 18 0 w)
        · rw [if_pos z2, if_pos (Or.inr (Or.inr z2))]
        · rw [if_neg z2, if_neg (show ¬ ((gD C 23 0 (3 * j + f)) = -1000000 ∨ (w : Int) < 0 ∨ (gD C 19 0 j) < (gD C 18 0 w)) by omega), bnd (by omega), bnd (by omega), hth, a3, E206 (by omega), b206_0, e2, b_I, e3, b_I, q_M_in _ (by omega), b_I]
          by_cases z3 : gLo C w f (gD C 19 0 j) ≤ (gD C 23 0 (3 * j + f)) ∧ (gD C 23 0 (3 * j + f)) ≤ gHi C w f (gD C 19 0 j)
          · rw [if_pos z3, if_pos (Or.inr rfl), b_I, if_neg (by decide), if_neg (by omega)]
          · rw [if_neg z3, if_pos (Or.inl rfl), b_I, if_pos rfl, if_pos (by omega)]
end
