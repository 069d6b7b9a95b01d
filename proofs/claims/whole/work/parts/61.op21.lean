/-! layer 2: the values that rules look at -/
def BV (g : Bool) (P : Nat → Prop) (c : Nat → Int) (N : Nat) (v : Int) : Prop := (v = -1000000 ∧ ∀ k, k < N → ¬ P k) ∨ ∃ w, w < N ∧ P w ∧ v = c w ∧ ∀ k, k < N → P k → (g = true → c k ≤ c w) ∧ (g = false → c w ≤ c k)
theorem BV_ext {g P P' c N v} (h : BV g P c N v) (e : ∀ k, k < N → (P k ↔ P' k)) : BV g P' c N v := by
  rcases h with ⟨h1, h2⟩ | ⟨w, h1, h2, h3, h4⟩
  · exact Or.inl ⟨h1, fun k hk hp => h2 k hk ((e k hk).mpr hp)⟩
  · exact Or.inr ⟨w, h1, (e w h1).mp h2, h3, fun k hk hp => h4 k hk ((e k hk).mpr hp)⟩
theorem BV_un {g P c N a b} (hne : ∀ k, k < N → P k → c k ≠ -1000000) (h1 : BV g P c N a) (h2 : BV g P c N b) : a = b := by
  rcases h1 with ⟨h1, h3⟩ | ⟨w, h1, h3, h4, h5⟩
  · rcases h2 with ⟨h2, h6⟩ | ⟨v, h2, h6, h7, h8⟩
    · omega
    · exact absurd h6 (h3 v h2)
  · rcases h2 with ⟨h2, h6⟩ | ⟨v, h2, h6, h7, h8⟩
    · exact absurd h3 (h6 w h1)
    · have a1 := h5 v h2 h6
      have a2 := h8 w h1 h3
      cases g with
      | true => have := a1.1 rfl; have := a2.1 rfl; omega
      | false => have := a1.2 rfl; have := a2.2 rfl; omega
theorem BV_new {g D D' c N v x} (h : BV g D c N v) (hx : x < N) (hD : ∀ k, k < N → (D' k ↔ D k ∨ k = x)) (hne : ∀ k, k < N → D k → c k ≠ -1000000) : BV g D' c N (if v = -1000000 ∨ (g = true ∧ v < c x) ∨ (g = false ∧ c x < v) then c x else v) := by
  rcases h with ⟨h1, h2⟩ | ⟨w, h1, h2, h3, h4⟩
  · rw [if_pos (Or.inl h1)]
    refine Or.inr ⟨x, hx, (hD x hx).mpr (Or.inr rfl), rfl, fun k hk hp => ?_⟩
    rcases (hD k hk).mp hp with h | h
    · exact absurd h (h2 k hk)
    · subst h; exact ⟨fun _ => Int.le_refl _, fun _ => Int.le_refl _⟩
  · have := hne w h1 h2
    cases g with
    | true =>
      by_cases z : v < c x
      · rw [if_pos (Or.inr (Or.inl ⟨rfl, z⟩))]
        refine Or.inr ⟨x, hx, (hD x hx).mpr (Or.inr rfl), rfl, fun k hk hp => ⟨fun _ => ?_, fun q => (by cases q)⟩⟩
        rcases (hD k hk).mp hp with h | h
        · have := (h4 k hk h).1 rfl; omega
        · subst h; exact Int.le_refl _
      · rw [if_neg (by rintro (q | ⟨_, q⟩ | ⟨q, _⟩) <;> first | omega | cases q)]
        refine Or.inr ⟨w, h1, (hD w h1).mpr (Or.inl h2), h3, fun k hk hp => ⟨fun _ => ?_, fun q => (by cases q)⟩⟩
        rcases (hD k hk).mp hp with h | h
        · exact (h4 k hk h).1 rfl
        · subst h; omega
    | false =>
      by_cases z : c x < v
      · rw [if_pos (Or.inr (Or.inr ⟨rfl, z⟩))]
        refine Or.inr ⟨x, hx, (hD x hx).mpr (Or.inr rfl), rfl, fun k hk hp => ⟨fun q => (by cases q), fun _ => ?_⟩⟩
        rcases (hD k hk).mp hp with h | h
        · have := (h4 k hk h).2 rfl; omega
        · subst h; exact Int.le_refl _
      · rw [if_neg (by rintro (q | ⟨q, _⟩ | ⟨_, q⟩) <;> first | omega | cases q)]
        refine Or.inr ⟨w, h1, (hD w h1).mpr (Or.inl h2), h3, fun k hk hp => ⟨fun q => (by cases q), fun _ => ?_⟩⟩
        rcases (hD k hk).mp hp with h | h
        · exact (h4 k hk h).2 rfl
        · subst h; omega
section
variable {d : Nat}
/-- words of a THING, back in time -/
def PX (S : SD) (t f : Nat) (n at' kn : Int) (k : Nat) : Prop := (gD S 14 0 k) = (t : Int) ∧ (gD S 17 0 k) ≤ kn ∧ (gD S 22 0 k) = 0 ∧ (gD S 23 0 (3 * k + f)) ≠ -1000000 ∧ (gD S 18 0 k) ≤ at' ∧ aw oo (at' - n) < (gD S 19 0 k)
def BkI (S : SD) (N t : Nat) (w : Int) (j : Nat) : Prop := w = -1 ∨ ∃ v : Nat, w = (v : Int) ∧ v < N ∧ (gD S 14 0 v) = (t : Int) ∧ j + v < N
theorem Bk_st {S Sm : SD} {N t v j : Nat} (hN : (gD S 13 0 16) = (N : Int)) (hK : IC S Sm) (hv : v < N) (ht : (gD S 14 0 v) = (t : Int)) (hj : j + v < N) : BkI S N t (gD S 25 0 v) (j + 1) ∧ ∀ k, k < N → (gD S 14 0 k) = (t : Int) → ((gD S 25 0 v) < (k : Int) ↔ (v : Int) < (k : Int) ∨ k = v) := by
  have uK := hK; unfold IC at uK
  rcases uK.2.2.2 v (by omega) with ⟨h1, h2⟩ | ⟨u, h1, h2, h3, h4⟩
  · refine ⟨Or.inl h1, fun k hk hk2 => ?_⟩
    by_cases e : k < v
    · exact absurd (hk2.trans ht.symm) (h2 k e)
    · omega
  · refine ⟨Or.inr ⟨u, h1, by omega, by omega, by omega⟩, fun k hk hk2 => ?_⟩
    by_cases e : k < v
    · have := h4 k e (hk2.trans ht.symm)
      omega
    · omega
theorem Bk_0 {S Sm : SD} {N t : Nat} (hN : (gD S 13 0 16) = (N : Int)) (hK : IC S Sm) (ht : t < 40) : BkI S N t (gD S 27 0 t) 0 ∧ ∀ k, k < N → (gD S 14 0 k) = (t : Int) → ¬ (gD S 27 0 t) < (k : Int) := by
  have uK := hK; unfold IC at uK
  rcases uK.2.2.1 t ht with ⟨h1, h2⟩ | ⟨w, h1, h2, h3, h4⟩
  · exact ⟨Or.inl h1, fun k hk hk2 => absurd hk2 (h2 k (by omega))⟩
  · refine ⟨Or.inr ⟨w, h1, by omega, h3, by omega⟩, fun k hk hk2 => ?_⟩
    have := h4 k (by omega) hk2
    omega
theorem w_ext {Sc Sm : SD} {N t f : Nat} (g : Bool) (hN : (gD Sc 13 0 16) = (N : Int)) (hN4 : N ≤ 400) (hK : IC Sc Sm) (hf : f < 3) (n0 at' kn : Int) (hd : 1 ≤ d) : ∀ (n j : Nat) (w v : Int), N + 1 - j < n → BkI Sc N t w j → BV g (fun k => PX Sc t f n0 at' kn k ∧ w < (k : Int)) (fun k => (gD Sc 23 0 (3 * k + f))) N v → ∃ v', run oo (EE false d) false mi_144 n 39 [(0, vr (some (13, 0))), (2, vi (f : Int)), (3, vi n0), (4, vi at'), (5, vi kn), (6, vi (if g then 1 else 0)), (7, vi v), (8, vi w), (9, vi (j : Int))] [] Sc = some (vi v', Sc) ∧ BV g (PX Sc t f n0 at' kn) (fun k => (gD Sc 23 0 (3 * k + f))) N v' := by
  intro n
  induction n with
  | zero =>
    intro j w v h1 h2
    rcases h2 with h | ⟨u, _, _, _, h⟩ <;> omega
  | succ n ih =>
    intro j w v h1 h2 h3
    rw [b144_39, hN]
    rcases h2 with rfl | ⟨u, rfl, hu, ht, hj⟩
    · have e0 := q_whas0 (S := Sc) hd (-1) (Or.inl (by decide))
      refine ⟨v, by rw [e0, b_I, if_pos rfl]; split <;> rfl, BV_ext h3 (fun k hk => ⟨fun z => z.1, fun z => ⟨z, by omega⟩⟩)⟩
    · obtain ⟨st1, st2⟩ := Bk_st hN hK hu ht hj
      have e0 := q_whas1 (S := Sc) hd u (by omega)
      have e1 := q_counts (S := Sc) hd u f (by omega) hf
      have e2 := awp (show j < 1000000 by omega)
      have b1 : (0 ≤ (u : Int) ∧ (u : Int) < 400) = True := eq_true (by omega)
      have b2 : (0 ≤ (u : Int) * 3 + (f : Int) ∧ (u : Int) * 3 + (f : Int) < 1200) = True := eq_true (by omega)
      rw [if_pos (by omega), e0, b_I, if_neg (by decide)]
      have e3 : aw oo (aw oo ((u : Int) * 3) + (f : Int)) = (u : Int) * 3 + (f : Int) := aw3x (by omega)
      simp only [b1, if_true, tn, e1, b_I, e3, b2, ix3a, e2]
      clear e3
      by_cases hp : PX Sc t f n0 at' kn u
      · have hb := BV_new h3 hu (D' := fun k => PX Sc t f n0 at' kn k ∧ (gD Sc 25 0 u) < (k : Int)) (fun k hk => ⟨fun z => by
          rcases (st2 k hk z.1.1).mp z.2 with z2 | z2
          · exact Or.inl ⟨z.1, z2⟩
          · exact Or.inr z2, fun z => by
          rcases z with z | z
          · exact ⟨z.1, (st2 k hk z.1.1).mpr (Or.inl z.2)⟩
          · subst z; exact ⟨hp, (st2 k hk hp.1).mpr (Or.inr rfl)⟩⟩) (fun k _ hd => hd.1.2.2.2.1)
        obtain ⟨p1, p2, p3, p4, p5, p6⟩ := hp
        obtain ⟨v', i1, i2⟩ := ih (j + 1) _ _ (by omega) st1 hb
        refine ⟨v', ?_, i2⟩
        have c1 : ¬ kn < (gD Sc 17 0 u) := by omega
        have c2 : ¬ at' < (gD Sc 18 0 u) := by omega
        simp only [c1, c2, p3, p6, if_true, if_false, e10, ne_eq, p4, not_false_eq_true, and_self]
        by_cases z1 : v = -1000000
        · simp only [z1, if_true]
          rw [if_pos (Or.inl z1)] at i1
          exact i1
        · simp only [z1, if_false]
          cases g with
          | true =>
            by_cases z2 : v < (gD Sc 23 0 (3 * u + f))
            · rw [if_pos (Or.inr (Or.inl ⟨rfl, z2⟩))] at i1
              simp only [if_true, e10, if_false, z2] at i1 ⊢
              exact i1
            · have z3 : (if v = -1000000 ∨ (true = true ∧ v < (gD Sc 23 0 (3 * u + f))) ∨ (true = false ∧ (gD Sc 23 0 (3 * u + f)) < v) then (gD Sc 23 0 (3 * u + f)) else v) = v := if_neg (fun q => by
                rcases q with q | ⟨_, q⟩ | ⟨q, _⟩
                · exact z1 q
                · exact z2 q
                · cases q)
              rw [z3] at i1
              simp only [if_true, e10, if_false, z2] at i1 ⊢
              exact i1
          | false =>
            by_cases z2 : (gD Sc 23 0 (3 * u + f)) < v
            · rw [if_pos (Or.inr (Or.inr ⟨rfl, z2⟩))] at i1
              simp only [Bool.false_eq_true, if_false, if_true, z2] at i1 ⊢
              exact i1
            · have z3 : (if v = -1000000 ∨ (false = true ∧ v < (gD Sc 23 0 (3 * u + f))) ∨ (false = false ∧ (gD Sc 23 0 (3 * u + f)) < v) then (gD Sc 23 0 (3 * u + f)) else v) = v := if_neg (fun q => by
                rcases q with q | ⟨q, _⟩ | ⟨_, q⟩
                · exact z1 q
                · cases q
                · exact z2 q)
              rw [z3] at i1
              simp only [Bool.false_eq_true, if_false, if_true, z2] at i1 ⊢
              exact i1
      · have hb : BV g (fun k => PX Sc t f n0 at' kn k ∧ (gD Sc 25 0 u) < (k : Int)) (fun k => (gD Sc 23 0 (3 * k + f))) N v := BV_ext h3 (fun k hk => ⟨fun z => ⟨z.1, (st2 k hk z.1.1).mpr (Or.inl z.2)⟩, fun z => by
          rcases (st2 k hk z.1.1).mp z.2 with z2 | z2
          · exact ⟨z.1, z2⟩
          · subst z2; exact absurd z.1 hp⟩)
        obtain ⟨v', i1, i2⟩ := ih (j + 1) _ _ (by omega) st1 hb
        refine ⟨v', ?_, i2⟩
        by_cases c1 : kn < (gD Sc 17 0 u)
        · rw [if_pos c1]; exact i1
        · rw [if_neg c1]
          by_cases c2 : (gD Sc 22 0 u) = 0 ∧ (gD Sc 23 0 (3 * u + f)) ≠ -1000000
          · rw [if_pos c2, if_neg (show ¬ (1 : Int) = 0 by decide)]
            by_cases c3 : at' < (gD Sc 18 0 u)
            · rw [if_pos c3]; exact i1
            · rw [if_neg c3]
              by_cases c4 : aw oo (at' - n0) < (gD Sc 19 0 u)
              · exact absurd ⟨ht, by omega, c2.1, c2.2, by omega, c4⟩ hp
              · rw [if_neg c4]; exact i1
          · rw [if_neg c2, if_pos rfl]; exact i1
theorem q_ext {Sc Sm : SD} {N t f : Nat} (g : Bool) (hN : (gD Sc 13 0 16) = (N : Int)) (hN4 : N ≤ 400) (hT : IT Sc Sm) (hK : IC Sc Sm) (ht : (t : Int) < (gD Sc 3 0 10)) (hf : f < 3) (n0 at' kn : Int) (hd : 2 ≤ d) : ∃ v, EE false d 144 [vr (some (13, 0)), vi (t : Int), vi (f : Int), vi n0, vi at', vi kn, vi (if g then 1 else 0)] Sc = some (vi v, Sc) ∧ BV g (PX Sc t f n0 at' kn) (fun k => (gD Sc 23 0 (3 * k + f))) N v := by
  have uIT := hT; unfold IT at uIT; obtain ⟨t1, t2, t3, t4, t5, t6, t7, t8, t9, t10, t11, t12, t13, t14, t15, t16⟩ := uIT
  have ht4 : t < 40 := by omega
  obtain ⟨k1, k2⟩ := Bk_0 hN hK ht4
  rw [E144 (by omega), b144_0, q_thas1 (by omega) t ht, b_I, if_neg (by decide), q_in1 (by omega) _ _ _ (by omega), b_I, if_neg (by decide), bnd (by omega), tn]
  exact w_ext (d := d - 1) g hN hN4 hK hf n0 at' kn (by omega) 999999 0 _ _ (by omega) k1 (Or.inl ⟨rfl, fun k hk hp => k2 k hk hp.1.1 hp.2⟩)
theorem w_M_far {Sc Sm : SD} {N t f F : Nat} (g : Bool) (hN : (gD Sc 13 0 16) = (N : Int)) (hN4 : N ≤ 400) (hW : IW Sc Sm) (hf : f < 3) (hF : F < 320) (n0 at' kn : Int) (h1 : (gD Sm 128 0 F) = (t : Int)) (h2 : (gD Sm 129 0 F) = (f : Int)) (h3 : (gD Sm 130 0 F) = n0) (h4 : ((gD Sm 127 0 F) = 1 ∧ g = true) ∨ ((gD Sm 127 0 F) = 2 ∧ g = false)) (h5 : (gD Sm 85 0 61) = kn) {K : KT} : ∀ (n j : Nat) (v : Int), j ≤ N → N - j < n → BV g (fun k => PX Sc t f n0 at' kn k ∧ k < j) (fun k => (gD Sc 23 0 (3 * k + f))) N v → ∃ v', run oo K false mi_250 n 7 [(0, vr (some (85, 0))), (1, vi (F : Int)), (2, vi at'), (3, vi v), (4, vi (j : Int))] [] Sm = some (vi v', Sm) ∧ BV g (PX Sc t f n0 at' kn) (fun k => (gD Sc 23 0 (3 * k + f))) N v' := by
  have uIW := hW; unfold IW at uIW; obtain ⟨w1, w2, w3, w4, w5, w6, w7, w8, w9, w10, w11, w12, w13, w14, w15, w16, w17, w18, w19, w20, w21, w22, w23, w24⟩ := uIW
  intro n
  induction n with
  | zero => intro j v z1 z2; omega
  | succ n ih =>
    intro j v z1 z2 hb
    rw [b250_7, w1, hN]
    by_cases hj : j < N
    · have e1 := awp (show j < 1000000 by omega)
      have b1 : (0 ≤ (j : Int) ∧ (j : Int) < 400) = True := eq_true (by omega)
      have b3 : (0 ≤ (F : Int) ∧ (F : Int) < 320) = True := eq_true (by omega)
      have b2 : (0 ≤ (j : Int) * 3 + (f : Int) ∧ (j : Int) * 3 + (f : Int) < 1200) = True := eq_true (by omega)
      rw [if_pos (by omega)]
      have e3 : aw oo (aw oo (3 * (j : Int)) + (f : Int)) = (j : Int) * 3 + (f : Int) := aw3y (by omega)
      simp only [b1, b3, if_true, tn, h1, h2, h3, h5, e3, b2, ix3a, e1, w4, w7, w8, w9, w12, w13]
      clear e3
      by_cases hp : PX Sc t f n0 at' kn j
      · have hb := BV_new hb hj (D' := fun k => PX Sc t f n0 at' kn k ∧ k < j + 1) (fun k hk => ⟨fun z => by
          by_cases e : k = j
          · exact Or.inr e
          · exact Or.inl ⟨z.1, by omega⟩, fun z => by
          rcases z with z | z
          · exact ⟨z.1, by omega⟩
          · subst z; exact ⟨hp, by omega⟩⟩) (fun k _ hd => hd.1.2.2.2.1)
        obtain ⟨p1, p2, p3, p4, p5, p6⟩ := hp
        obtain ⟨v', i1, i2⟩ := ih (j + 1) _ (by omega) (by omega) hb
        refine ⟨v', ?_, i2⟩
        have c1 : ¬ kn < (gD Sc 17 0 j) := by omega
        have c2 : ¬ at' < (gD Sc 18 0 j) := by omega
        simp only [c1, c2, p1, p3, p4, p6, if_true, if_false]
        by_cases y1 : v = -1000000
        · simp only [y1, if_true]
          rw [if_pos (Or.inl y1)] at i1
          exact i1
        · simp only [y1, if_false]
          rcases h4 with ⟨h4, rfl⟩ | ⟨h4, rfl⟩
          · simp only [h4, if_true]
            by_cases y2 : v < (gD Sc 23 0 (3 * j + f))
            · rw [if_pos (Or.inr (Or.inl ⟨rfl, y2⟩))] at i1
              rw [if_pos y2]
              exact i1
            · rw [if_neg (by rintro (q | ⟨_, q⟩ | ⟨q, _⟩) <;> first | omega | cases q)] at i1
              rw [if_neg y2]
              exact i1
          · have y0 : ¬ (2 : Int) = 1 := by decide
            simp only [h4, y0, if_false]
            by_cases y2 : (gD Sc 23 0 (3 * j + f)) < v
            · rw [if_pos (Or.inr (Or.inr ⟨rfl, y2⟩))] at i1
              rw [if_pos y2]
              exact i1
            · rw [if_neg (by rintro (q | ⟨q, _⟩ | ⟨_, q⟩) <;> first | omega | cases q)] at i1
              rw [if_neg y2]
              exact i1
      · have hb : BV g (fun k => PX Sc t f n0 at' kn k ∧ k < j + 1) (fun k => (gD Sc 23 0 (3 * k + f))) N v := BV_ext hb (fun k hk => ⟨fun z => ⟨z.1, by omega⟩, fun z => ⟨z.1, by
          have : k ≠ j := fun e => by subst e; exact hp z.1
          omega⟩⟩)
        obtain ⟨v', i1, i2⟩ := ih (j + 1) _ (by omega) (by omega) hb
        refine ⟨v', ?_, i2⟩
        by_cases c0 : (gD Sc 14 0 j) = (t : Int)
        · rw [if_pos c0]
          by_cases c1 : kn < (gD Sc 17 0 j)
          · rw [if_pos c1]; exact i1
          · rw [if_neg c1]
            by_cases c2 : (gD Sc 22 0 j) = 0
            · rw [if_pos c2]
              by_cases c5 : (gD Sc 23 0 (3 * j + f)) = -1000000
              · rw [if_pos c5]; exact i1
              · rw [if_neg c5]
                by_cases c3 : at' < (gD Sc 18 0 j)
                · rw [if_pos c3]; exact i1
                · rw [if_neg c3]
                  by_cases c4 : aw oo (at' - n0) < (gD Sc 19 0 j)
                  · exact absurd ⟨c0, by omega, c2, c5, by omega, c4⟩ hp
                  · rw [if_neg c4]; exact i1
            · rw [if_neg c2]; exact i1
        · rw [if_neg c0]; exact i1
    · have e : j = N := by omega
      subst e
      exact ⟨v, by rw [if_neg (by omega)], BV_ext hb (fun k hk => ⟨fun z => z.1, fun z => ⟨z, hk⟩⟩)⟩
/-- age -/
def PG (S : SD) (t : Nat) (at' kn : Int) (k : Nat) : Prop := (gD S 14 0 k) = (t : Int) ∧ (gD S 17 0 k) ≤ at' ∧ (gD S 17 0 k) ≤ kn
theorem w_age {Sc Sm : SD} {N t : Nat} (hN : (gD Sc 13 0 16) = (N : Int)) (hN4 : N ≤ 400) (hW : IW Sc Sm) (hK : IC Sc Sm) (at' kn : Int) (hd : 1 ≤ d) : ∀ (n j : Nat) (w : Int), N + 1 - j < n → BkI Sc N t w j → (∀ k, k < N → PG Sc t at' kn k → ¬ w < (k : Int)) → ∃ v, run oo (EE false d) false mi_145 n 26 [(0, vr (some (13, 0))), (2, vi at'), (3, vi kn), (4, vi w), (5, vi (j : Int))] [] Sc = some (vi v, Sc) ∧ ((v = -1000000 ∧ ∀ k, k < N → ¬ PG Sc t at' kn k) ∨ ∃ u, u < N ∧ PG Sc t at' kn u ∧ v = aw oo (at' - (gD Sc 17 0 u)) ∧ ∀ k, k < N → PG Sc t at' kn k → (gD Sc 17 0 k) ≤ (gD Sc 17 0 u)) := by
  have uIW := hW; unfold IW at uIW; obtain ⟨w1, w2, w3, w4, w5, w6, w7, w8, w9, w10, w11, w12, w13, w14, w15, w16, w17, w18, w19, w20, w21, w22, w23, w24⟩ := uIW
  intro n
  induction n with
  | zero =>
    intro j w h1 h2
    rcases h2 with h | ⟨u, _, _, _, h⟩ <;> omega
  | succ n ih =>
    intro j w h1 h2 h3
    rw [b145_26, hN]
    rcases h2 with rfl | ⟨u, rfl, hu, ht, hj⟩
    · have e0 := q_whas0 (S := Sc) hd (-1) (Or.inl (by decide))
      exact ⟨-1000000, by rw [e0, b_I, if_pos rfl]; split <;> rfl, Or.inl ⟨rfl, fun k hk hp => h3 k hk hp (by omega)⟩⟩
    · obtain ⟨st1, st2⟩ := Bk_st hN hK hu ht hj
      rw [if_pos (by omega), q_whas1 hd u (by omega), b_I, if_neg (by decide)]
      have b1 : (0 ≤ (u : Int) ∧ (u : Int) < 400) = True := eq_true (by omega)
      simp only [b1, if_true, tn, awp (show j < 1000000 by omega)]
      by_cases hp : PG Sc t at' kn u
      · refine ⟨aw oo (at' - (gD Sc 17 0 u)), by rw [if_neg (by have := hp.2.1; omega), if_neg (by have := hp.2.2; omega)], Or.inr ⟨u, hu, hp, rfl, fun k hk hq => ?_⟩⟩
        have := h3 k hk hq
        exact w16 k u (by omega) (by omega)
      · obtain ⟨v, i1, i2⟩ := ih (j + 1) _ (by omega) st1 (fun k hk hq => by
          rw [st2 k hk hq.1]
          have := h3 k hk hq
          rintro (z | z)
          · exact this z
          · subst z; exact hp hq)
        refine ⟨v, ?_, i2⟩
        by_cases c1 : at' < (gD Sc 17 0 u)
        · rw [if_pos c1]; exact i1
        · rw [if_neg c1]
          by_cases c2 : kn < (gD Sc 17 0 u)
          · rw [if_pos c2]; exact i1
          · exact absurd ⟨ht, by omega, by omega⟩ hp
theorem w_M_age {Sc Sm : SD} {N t : Nat} (hN : (gD Sc 13 0 16) = (N : Int)) (hN4 : N ≤ 400) (hW : IW Sc Sm) (at' kn : Int) (h5 : (gD Sm 85 0 61) = kn) (hd : 1 ≤ d) : ∀ (n j : Nat) (b : Int), j ≤ N → N - j < n → ((b = -1 ∧ ∀ k, k < j → ¬ PG Sc t at' kn k) ∨ ∃ u, u < j ∧ PG Sc t at' kn u ∧ b = (gD Sc 17 0 u) ∧ ∀ k, k < j → PG Sc t at' kn k → (gD Sc 17 0 k) ≤ (gD Sc 17 0 u)) → ∃ v, run oo (EE false d) false mi_251 n 5 [(0, vr (some (85, 0))), (1, vi (t : Int)), (2, vi at'), (3, vi b), (4, vi (j : Int))] [] Sm = some (vi v, Sm) ∧ ((v = -1000000 ∧ ∀ k, k < N → ¬ PG Sc t at' kn k) ∨ ∃ u, u < N ∧ PG Sc t at' kn u ∧ v = aw oo (at' - (gD Sc 17 0 u)) ∧ ∀ k, k < N → PG Sc t at' kn k → (gD Sc 17 0 k) ≤ (gD Sc 17 0 u)) := by
  have uIW := hW; unfold IW at uIW; obtain ⟨w1, w2, w3, w4, w5, w6, w7, w8, w9, w10, w11, w12, w13, w14, w15, w16, w17, w18, w19, w20, w21, w22, w23, w24⟩ := uIW
  intro n
  induction n with
  | zero => intro j b h1 h2; omega
  | succ n ih =>
    intro j b h1 h2 h3
    rw [b251_5, w1, hN]
    by_cases hj : j < N
    · have hbd := w15 j (by omega)
      rw [if_pos (by omega)]
      have b1 : (0 ≤ (j : Int) ∧ (j : Int) < 400) = True := eq_true (by omega)
      simp only [b1, if_true, tn, h5, w4, w7, awp (show j < 1000000 by omega), q_M_more _ hd, b_I]
      by_cases hp : PG Sc t at' kn j
      · obtain ⟨v, i1, i2⟩ := ih (j + 1) (max b (gD Sc 17 0 j)) (by omega) (by omega) (Or.inr (by
          rcases h3 with ⟨rfl, h4⟩ | ⟨u, h4, h6, h7, h8⟩
          · refine ⟨j, by omega, hp, by omega, fun k hk hq => ?_⟩
            by_cases e : k = j
            · subst e; omega
            · exact absurd hq (h4 k (by omega))
          · refine ⟨j, by omega, hp, ?_, fun k hk hq => w16 k j (by omega) (by omega)⟩
            have := w16 u j (by omega) (by omega)
            omega))
        refine ⟨v, ?_, i2⟩
        rw [if_pos hp.1, if_neg (by have := hp.2.1; omega), if_neg (by have := hp.2.2; omega)]
        exact i1
      · obtain ⟨v, i1, i2⟩ := ih (j + 1) b (by omega) (by omega) (by
          rcases h3 with ⟨h9, h4⟩ | ⟨u, h4, h6, h7, h8⟩
          · exact Or.inl ⟨h9, fun k hk hq => by
              by_cases e : k = j
              · subst e; exact hp hq
              · exact h4 k (by omega) hq⟩
          · exact Or.inr ⟨u, by omega, h6, h7, fun k hk hq => by
              by_cases e : k = j
              · subst e; exact absurd hq hp
              · exact h8 k (by omega) hq⟩)
        refine ⟨v, ?_, i2⟩
        by_cases c0 : (gD Sc 14 0 j) = (t : Int)
        · rw [if_pos c0]
          by_cases c1 : at' < (gD Sc 17 0 j)
          · rw [if_pos c1]; exact i1
          · rw [if_neg c1]
            by_cases c2 : kn < (gD Sc 17 0 j)
            · rw [if_pos c2]; exact i1
            · exact absurd ⟨c0, by omega, by omega⟩ hp
        · rw [if_neg c0]; exact i1
    · have e : j = N := by omega
      subst e
      rw [if_neg (by omega)]
      rcases h3 with ⟨rfl, h4⟩ | ⟨u, h4, h6, h7, h8⟩
      · exact ⟨-1000000, by rw [if_pos (by decide)], Or.inl ⟨rfl, h4⟩⟩
      · have := w15 u (by omega)
        exact ⟨aw oo (at' - (gD Sc 17 0 u)), by rw [if_neg (by omega), h7], Or.inr ⟨u, h4, h6, rfl, h8⟩⟩
end
