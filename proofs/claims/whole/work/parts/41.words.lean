/-! layer 2: the words, read only, both sides -/
section
variable {d : Nat}
theorem q_whas1 {S : SD} (hd : 1 ≤ d) (w : Nat) (h : (w : Int) < (gD S 13 0 16)) : EE false d 127 [vr (some (13, 0)), vi (w : Int)] S = some (vi 1, S) := by
  rw [E127 hd, b127_0, if_neg (by omega), if_pos h]
theorem q_whas0 {S : SD} (hd : 1 ≤ d) (a : Int) (h : a < 0 ∨ (gD S 13 0 16) ≤ a) : EE false d 127 [vr (some (13, 0)), vi a] S = some (vi 0, S) := by
  rw [E127 hd, b127_0]
  by_cases h1 : a < 0
  · rw [if_pos h1]
  · rw [if_neg h1, if_neg (by omega)]
theorem q_thas1 {S : SD} (hd : 1 ≤ d) (t : Nat) (h : (t : Int) < (gD S 3 0 10)) : EE false d 96 [vr (some (3, 0)), vi (t : Int)] S = some (vi 1, S) := by
  rw [E96 hd, b96_0, if_neg (by omega), if_pos h]
theorem q_thas0 {S : SD} (hd : 1 ≤ d) (a : Int) (h : a < 0 ∨ (gD S 3 0 10) ≤ a) : EE false d 96 [vr (some (3, 0)), vi a] S = some (vi 0, S) := by
  rw [E96 hd, b96_0]
  by_cases h1 : a < 0
  · rw [if_pos h1]
  · rw [if_neg h1, if_neg (by omega)]
theorem q_in1 {S : SD} (hd : 1 ≤ d) (a b c : Int) (h : b ≤ a ∧ a ≤ c) : EE false d 189 [vi a, vi b, vi c] S = some (vi 1, S) := by
  rw [q_within S hd, if_pos h]
theorem q_in0 {S : SD} (hd : 1 ≤ d) (a b c : Int) (h : a < b ∨ c < a) : EE false d 189 [vi a, vi b, vi c] S = some (vi 0, S) := by
  rw [q_within S hd, if_neg (by omega)]
theorem q_counts {S : SD} (hd : 1 ≤ d) (w f : Nat) (hw : w < 400) (hf : f < 3) : EE false d 134 [vr (some (13, 0)), vi (w : Int), vi (f : Int)] S = some (vi (if (gD S 22 0 w) = 0 ∧ (gD S 23 0 (3 * w + f)) ≠ -1000000 then 1 else 0), S) := by
  rw [E134 hd, b134_0]
  (try simp (disch := omega) only [b_I, b_L, b_V, tn, e10, eq_self, if_true, if_false, ite_not, i01, aw3x, ix3a]); (try simp (disch := omega) only [↓bnd])
  by_cases h1 : (gD S 22 0 w) = 0
  · by_cases h2 : (gD S 23 0 (3 * w + f)) = -1000000
    · rw [if_pos h1, if_pos h2, if_neg (fun q => q.2 h2)]
    · rw [if_pos h1, if_neg h2, if_pos ⟨h1, h2⟩]
  · rw [if_neg h1, if_neg (fun q => h1 q.1)]
theorem q_number {S : SD} (hd : 2 ≤ d) (w f : Nat) (hw : w < 400) (hw2 : (w : Int) < (gD S 13 0 16)) (hf : f < 3) : EE false d 135 [vr (some (13, 0)), vi (w : Int), vi (f : Int)] S = some (vi (gD S 23 0 (3 * w + f)), S) := by
  rw [E135 (by omega), b135_0]
  (try simp (disch := omega) only [b_I, b_L, b_V, tn, e10, eq_self, if_true, if_false, ite_not, i01, q_whas1, q_in1, aw3x, ix3a]); (try simp (disch := omega) only [↓bnd])
theorem q_number0 {S : SD} (hd : 2 ≤ d) (a b : Int) (h : a < 0 ∨ (gD S 13 0 16) ≤ a) : EE false d 135 [vr (some (13, 0)), vi a, vi b] S = some (vi (-1000000), S) := by
  rw [E135 (by omega), b135_0]
  (try simp (disch := omega) only [b_I, b_L, b_V, tn, e10, eq_self, if_true, if_false, ite_not, i01, q_whas0]); (try simp (disch := omega) only [↓bnd])
/-- whose number a REF tells -/
def PS (S : SD) (t f : Nat) (at' kn : Int) (k : Nat) : Prop := (gD S 14 0 k) = (t : Int) ∧ (gD S 17 0 k) ≤ kn ∧ (gD S 18 0 k) ≤ at' ∧ (gD S 22 0 k) = 0 ∧ (gD S 23 0 (3 * k + f)) ≠ -1000000
/-- a place in the chain that falls by COUNT -/
def ChI (S : SD) (N t : Nat) (w : Int) (j : Nat) : Prop := w = -1 ∨ ∃ v : Nat, w = (v : Int) ∧ v < N ∧ (gD S 14 0 v) = (t : Int) ∧ j ≤ cnt (fun k => decide ((gD S 14 0 k) = (t : Int) ∧ (gD S 15 0 v) < (gD S 15 0 k))) N
theorem ChI_lt {S : SD} {N t v j : Nat} (h : ChI S N t (v : Int) j) : j < N := by
  rcases h with h | ⟨u, h1, h2, h3, h4⟩
  · omega
  · have e : v = u := by omega
    subst e
    have := cnt_lt (p := fun k => decide ((gD S 14 0 k) = (t : Int) ∧ (gD S 15 0 v) < (gD S 15 0 k))) (v := v) (by simp) h2
    omega
theorem ChI_st {S Sm : SD} {N t v j : Nat} (hN : (gD S 13 0 16) = (N : Int)) (hK : IC S Sm) (h : ChI S N t (v : Int) j) : ChI S N t (gD S 24 0 v) (j + 1) := by
  rcases h with h | ⟨u, h1, h2, h3, h4⟩
  · omega
  · have e : v = u := by omega
    subst e
    have uK := hK; unfold IC at uK
    rcases uK.2.1 v (by omega) with ⟨h5, _⟩ | ⟨u, h5, h6, h7, h8, _⟩
    · exact Or.inl h5
    · refine Or.inr ⟨u, h5, by omega, by omega, ?_⟩
      have := cnt_st (p := fun k => decide ((gD S 14 0 k) = (t : Int) ∧ (gD S 15 0 v) < (gD S 15 0 k))) (q := fun k => decide ((gD S 14 0 k) = (t : Int) ∧ (gD S 15 0 u) < (gD S 15 0 k))) (fun k hk => by
        simp only [decide_eq_true_eq] at *
        omega) (v := v) (by simp; omega) (by simp) h2
      omega
/-- what is still to come in the chain -/
def ChR (S : SD) (N : Nat) (P : Nat → Prop) (w : Int) : Prop := ∀ k : Nat, k < N → P k → ∃ v : Nat, w = (v : Int) ∧ (gD S 15 0 k) ≤ (gD S 15 0 v)
theorem ChR_st {S Sm : SD} {N t v : Nat} {P : Nat → Prop} (hN : (gD S 13 0 16) = (N : Int)) (hW : IW S Sm) (hK : IC S Sm) (hP : ∀ k, P k → (gD S 14 0 k) = (t : Int)) (hv : v < N) (ht : (gD S 14 0 v) = (t : Int)) (hn : ¬ P v) (h : ChR S N P (v : Int)) : ChR S N P (gD S 24 0 v) := by
  intro k hk hp
  obtain ⟨u, h1, h2⟩ := h k hk hp
  have e : u = v := by omega
  subst e
  have hne : (gD S 15 0 k) ≠ (gD S 15 0 u) := fun q => by
    have uW := hW; unfold IW at uW
    have := uW.2.2.2.2.2.2.2.2.2.2.2.2.2.2.2.2.2.2.2.2.1 k u (by omega) (by omega) (by rw [hP k hp, ht]) q
    subst this
    exact hn hp
  have uK := hK; unfold IC at uK
  rcases uK.2.1 u (by omega) with ⟨h5, h6⟩ | ⟨w, h5, h6, h7, h8, h9⟩
  · have := h6 k (by omega) (by rw [hP k hp, ht])
    omega
  · exact ⟨w, h5, h9 k (by omega) (by rw [hP k hp, ht]) (by omega)⟩
theorem w_saidBy {Sc Sm : SD} {N : Nat} (hN : (gD Sc 13 0 16) = (N : Int)) (hW : IW Sc Sm) (hK : IC Sc Sm) (hd : 1 ≤ d) (t f : Nat) (hf : f < 3) (at' kn : Int) : ∀ (n j : Nat) (w : Int), j ≤ N → N - j < n → ChI Sc N t w j → ChR Sc N (PS Sc t f at' kn) w → ∃ r, run oo (EE false d) false mi_142 n 33 [(0, vr (some (13, 0))), (2, vi (f : Int)), (3, vi at'), (4, vi kn), (5, vi w), (6, vi (j : Int))] [] Sc = some (vi r, Sc) ∧ Best (PS Sc t f at' kn) (fun k => (gD Sc 15 0 k)) N r := by
  have uIW := hW; unfold IW at uIW; obtain ⟨w1, w2, w3, w4, w5, w6, w7, w8, w9, w10, w11, w12, w13, w14, w15, w16, w17, w18, w19, w20, w21, w22, w23, w24⟩ := uIW
  intro n
  induction n with
  | zero => intro j w h1 h2; omega
  | succ n ih =>
    intro j w h1 h2 hc hr
    rw [b142_33]
    by_cases hw : w = -1
    · subst hw
      refine ⟨-1, ?_, Or.inl ⟨rfl, fun k hk hp => ?_⟩⟩
      · (try simp (disch := omega) only [b_I, b_L, b_V, tn, e10, eq_self, if_true, if_false, ite_not, i01, q_whas0]); (try simp (disch := omega) only [↓bnd])
        split <;> rfl
      · obtain ⟨v, h3, _⟩ := hr k hk hp
        omega
    · rcases hc with h | ⟨v, h3, h4, h5, h6⟩
      · exact absurd h hw
      · subst h3
        have hj : j < N := ChI_lt (t := t) (S := Sc) (v := v) (Or.inr ⟨v, rfl, h4, h5, h6⟩)
        have hst := ChI_st hN hK (t := t) (j := j) (v := v) (Or.inr ⟨v, rfl, h4, h5, h6⟩)
        have hv : (v : Int) < (gD Sc 13 0 16) := by omega
        have hvb : v < 400 := by omega
        rw [if_pos (by omega)]
        (try simp (disch := omega) only [b_I, b_L, b_V, tn, e10, eq_self, if_true, if_false, ite_not, i01, q_whas1, q_counts, awn]); (try simp (disch := omega) only [↓bnd])
        by_cases hp : PS Sc t f at' kn v
        · refine ⟨v, ?_, Or.inr ⟨v, rfl, h4, hp, fun k hk hq => ?_⟩⟩
          · obtain ⟨p1, p2, p3, p4, p5⟩ := hp
            rw [if_neg (by omega), if_neg (by omega), if_pos ⟨p4, p5⟩]
          · obtain ⟨u, h7, h8⟩ := hr k hk hq
            have e : u = v := by omega
            subst e
            exact h8
        · have hgo := ih (j + 1) (gD Sc 24 0 v) (by omega) (by omega) hst (ChR_st hN hW hK (t := t) (fun k hk => hk.1) h4 h5 hp hr)
          by_cases q1 : kn < (gD Sc 17 0 v)
          · rw [if_pos q1]; exact hgo
          · rw [if_neg q1]
            by_cases q2 : at' < (gD Sc 18 0 v)
            · rw [if_pos q2]; exact hgo
            · rw [if_neg q2, if_neg (fun q3 => hp ⟨h5, by omega, by omega, q3.1, q3.2⟩)]
              exact hgo
theorem q_saidBy {Sc Sm : SD} {N : Nat} (hN : (gD Sc 13 0 16) = (N : Int)) (hT : IT Sc Sm) (hW : IW Sc Sm) (hK : IC Sc Sm) (hd : 2 ≤ d) (t f : Nat) (ht : (t : Int) < (gD Sc 3 0 10)) (hf : f < 3) (at' kn : Int) : ∃ r, EE false d 142 [vr (some (13, 0)), vi (t : Int), vi (f : Int), vi at', vi kn] Sc = some (vi r, Sc) ∧ Best (PS Sc t f at' kn) (fun k => (gD Sc 15 0 k)) N r := by
  have uIT := hT; unfold IT at uIT; obtain ⟨t1, t2, t3, t4, t5, t6, t7, t8, t9, t10, t11, t12, t13, t14, t15, t16⟩ := uIT
  have uIW := hW; unfold IW at uIW; obtain ⟨w1, w2, w3, w4, w5, w6, w7, w8, w9, w10, w11, w12, w13, w14, w15, w16, w17, w18, w19, w20, w21, w22, w23, w24⟩ := uIW
  rw [E142 (by omega), b142_0]
  have ht4 : t < 40 := by omega
  (try simp (disch := omega) only [b_I, b_L, b_V, tn, e10, eq_self, if_true, if_false, ite_not, i01, q_thas1, q_in1]); (try simp (disch := omega) only [↓bnd])
  have uK := hK; unfold IC at uK
  have h0 : ((0 : Nat) : Int) = 0 := rfl
  refine w_saidBy hN hW hK (by omega) t f hf at' kn 999999 0 (gD Sc 26 0 t) (by omega) (by omega) ?_ ?_
  · rcases uK.1 t ht4 with ⟨h1, _⟩ | ⟨w, h1, h2, h3, _⟩
    · exact Or.inl h1
    · exact Or.inr ⟨w, h1, by omega, h3, by omega⟩
  · intro k hk hp
    rcases uK.1 t ht4 with ⟨h1, _, h2⟩ | ⟨w, h1, h2, h3, _, h4⟩
    · exact absurd hp.1 (h2 k (by omega))
    · exact ⟨w, h1, h4 k (by omega) hp.1⟩
theorem q_saidBy0 {Sc : SD} (hd : 2 ≤ d) (t f : Int) (h : t < 0 ∨ (gD Sc 3 0 10) ≤ t ∨ f < 0 ∨ 2 < f) (at' kn : Int) : EE false d 142 [vr (some (13, 0)), vi t, vi f, vi at', vi kn] Sc = some (vi (-1), Sc) := by
  rw [E142 (by omega), b142_0]
  by_cases h1 : t < 0 ∨ (gD Sc 3 0 10) ≤ t
  · (try simp (disch := omega) only [b_I, b_L, b_V, tn, e10, eq_self, if_true, if_false, ite_not, i01, q_thas0]); (try simp (disch := omega) only [↓bnd])
  · obtain ⟨t, rfl⟩ := Int.eq_ofNat_of_zero_le (show 0 ≤ t by omega)
    (try simp (disch := omega) only [b_I, b_L, b_V, tn, e10, eq_self, if_true, if_false, ite_not, i01, q_thas1, q_in0]); (try simp (disch := omega) only [↓bnd])
theorem w_M_saying {K : KT} {Sc Sm : SD} {N : Nat} (hN : (gD Sc 13 0 16) = (N : Int)) (hW : IW Sc Sm) (t f : Nat) (hf : f < 3) (at' kn : Int) : ∀ (n j : Nat) (b : Int), j ≤ N → N - j < n → Best (PS Sc t f at' kn) (fun k => (gD Sc 15 0 k)) j b → ∃ r, run oo K false mi_217 n 6 [(0, vr (some (85, 0))), (1, vi (t : Int)), (2, vi (f : Int)), (3, vi at'), (4, vi kn), (5, vi b), (6, vi (j : Int))] [] Sm = some (vi r, Sm) ∧ Best (PS Sc t f at' kn) (fun k => (gD Sc 15 0 k)) N r := by
  have uIW := hW; unfold IW at uIW; obtain ⟨w1, w2, w3, w4, w5, w6, w7, w8, w9, w10, w11, w12, w13, w14, w15, w16, w17, w18, w19, w20, w21, w22, w23, w24⟩ := uIW
  intro n
  induction n with
  | zero => intro j b h1 h2; omega
  | succ n ih =>
    intro j b h1 h2 hb
    rw [b217_6, w1, hN]
    by_cases hj : (j : Int) < (N : Int)
    · have hj4 : j < 400 := by omega
      have go : ∀ b', Best (PS Sc t f at' kn) (fun k => (gD Sc 15 0 k)) (j + 1) b' → _ := fun b' hb' => ih (j + 1) b' (by omega) (by omega) hb'
      rw [if_pos hj]
      have e1 : vi (aw oo ((j : Int) + 1)) = vi ((j + 1 : Nat) : Int) := congrArg vi (awn (by omega))
      have b1 : (0 ≤ (j : Int) ∧ (j : Int) < 400) = True := eq_true (by omega)
      have e2 : aw oo (aw oo (3 * (j : Int)) + (f : Int)) = (j : Int) * 3 + (f : Int) := aw3y (by omega)
      have b2 : (0 ≤ (j : Int) * 3 + (f : Int) ∧ (j : Int) * 3 + (f : Int) < 1200) = True := eq_true (by omega)
      simp only [b_I, b_L, b_V, tn, e10, eq_self, if_true, if_false, ite_not, i01, and_self, e1, b1, e2, b2, ix3a, w4, w5, w7, w8, w12, w13]
      by_cases q1 : (gD Sc 14 0 j) = (t : Int)
      · rw [if_pos q1]
        by_cases q2 : kn < (gD Sc 17 0 j)
        · rw [if_pos q2]; exact go _ (Best_skip hb (fun hp => by have := hp.2.1; omega))
        · rw [if_neg q2]
          by_cases q3 : (gD Sc 22 0 j) = 0
          · rw [if_pos q3]
            by_cases q4 : (gD Sc 23 0 (3 * j + f)) = -1000000
            · rw [if_pos q4]; exact go _ (Best_skip hb (fun hp => hp.2.2.2.2 q4))
            · rw [if_neg q4]
              by_cases q5 : at' < (gD Sc 18 0 j)
              · rw [if_pos q5]; exact go _ (Best_skip hb (fun hp => by have := hp.2.2.1; omega))
              · rw [if_neg q5]
                have hp : PS Sc t f at' kn j := ⟨q1, by omega, by omega, q3, q4⟩
                have hb2 := hb
                rcases hb2 with ⟨rfl, _⟩ | ⟨w, rfl, hw, _⟩
                · rw [if_pos (by omega)]; exact go _ (Best_fst hb hp)
                · rw [if_neg (by omega)]
                  have b3 : (0 ≤ (w : Int) ∧ (w : Int) < 400) = True := eq_true (by omega)
                  simp only [b_I, b_L, b_V, tn, e10, eq_self, if_true, if_false, ite_not, i01, and_self, b3]
                  by_cases q6 : (gD Sc 15 0 w) < (gD Sc 15 0 j)
                  · rw [if_pos q6]; exact go _ (Best_grt hb hp q6)
                  · rw [if_neg q6]; exact go _ (Best_les hb q6)
          · rw [if_neg q3]; exact go _ (Best_skip hb (fun hp => q3 hp.2.2.2.1))
      · rw [if_neg q1]; exact go _ (Best_skip hb (fun hp => q1 hp.1))
    · rw [if_neg hj]
      have e : j = N := by omega
      subst e
      exact ⟨b, rfl, hb⟩
theorem q_M_saying {Sc Sm : SD} {N : Nat} (hN : (gD Sc 13 0 16) = (N : Int)) (hW : IW Sc Sm) (hd : 1 ≤ d) (t f : Nat) (hf : f < 3) (at' kn : Int) : ∃ r, EE false d 217 [vr (some (85, 0)), vi (t : Int), vi (f : Int), vi at', vi kn] Sm = some (vi r, Sm) ∧ Best (PS Sc t f at' kn) (fun k => (gD Sc 15 0 k)) N r := by
  have uIW := hW; unfold IW at uIW; obtain ⟨w1, w2, w3, w4, w5, w6, w7, w8, w9, w10, w11, w12, w13, w14, w15, w16, w17, w18, w19, w20, w21, w22, w23, w24⟩ := uIW
  rw [E217 hd, b217_0]
  exact w_M_saying hN hW t f hf at' kn 999999 0 (-1) (by omega) (by omega) Best_0
/-- both sides tell the same word -/
theorem said_both {d' : Nat} {Sc Sm : SD} {N : Nat} (hN : (gD Sc 13 0 16) = (N : Int)) (hT : IT Sc Sm) (hW : IW Sc Sm) (hK : IC Sc Sm) (hd : 2 ≤ d) (hd' : 1 ≤ d') (t f : Nat) (ht : (t : Int) < (gD Sc 3 0 10)) (hf : f < 3) (at' kn : Int) : ∃ r, EE false d 142 [vr (some (13, 0)), vi (t : Int), vi (f : Int), vi at', vi kn] Sc = some (vi r, Sc) ∧ EE false d' 217 [vr (some (85, 0)), vi (t : Int), vi (f : Int), vi at', vi kn] Sm = some (vi r, Sm) ∧ (r = -1 ∨ ∃ w : Nat, r = (w : Int) ∧ w < N ∧ PS Sc t f at' kn w) := by
  obtain ⟨r, h1, h2⟩ := q_saidBy hN hT hW hK hd t f ht hf at' kn
  obtain ⟨r', h3, h4⟩ := q_M_saying hN hW hd' t f hf at' kn
  have uIW := hW; unfold IW at uIW; obtain ⟨w1, w2, w3, w4, w5, w6, w7, w8, w9, w10, w11, w12, w13, w14, w15, w16, w17, w18, w19, w20, w21, w22, w23, w24⟩ := uIW
  have e := Best_un (fun k l hk hl p q e => w21 k l (by omega) (by omega) (by rw [p.1, q.1]) e) h2 h4
  subst e
  refine ⟨r, h1, h3, ?_⟩
  rcases h2 with ⟨h5, _⟩ | ⟨w, h5, h6, h7, _⟩
  · exact Or.inl h5
  · exact Or.inr ⟨w, h5, h6, h7⟩
end
