/-! rule: a rule read is the same on both sides -/
section
variable {d : Nat} {A B : Nat → Int} {n : Nat} {th : Int}
theorem stD_hi {s : Nat → Int} {lo hi hi' : Int} : ∀ (L d g : Nat), stD s lo hi L = some (d, g) → (g : Int) ≤ hi' → stD s lo hi' L = some (d, g)
  | 0, _, _, h, _ => h
  | L + 1, d, g, h, hg => by
    obtain ⟨d0, g0, e, c⟩ := stD_st h
    have := stD_hi (hi' := hi') L d0 g0 e (by omega)
    unfold stD at h ⊢
    rw [e] at h
    rw [this]
    have h : (if s L = (g0 : Int) ∧ (g0 : Int) < hi then some (d0 + 1, g0 + 1) else if s L = -1 ∧ 1 ≤ d0 then some (d0, g0) else if (s L = -2 ∨ s L = -3) ∧ 2 ≤ d0 then some (d0 - 1, g0) else none) = some (d, g) := h
    show (if s L = (g0 : Int) ∧ (g0 : Int) < hi' then some (d0 + 1, g0 + 1) else if s L = -1 ∧ 1 ≤ d0 then some (d0, g0) else if (s L = -2 ∨ s L = -3) ∧ 2 ≤ d0 then some (d0 - 1, g0) else none) = some (d, g)
    rcases c with ⟨c1, c2, c3, c4⟩ | c | c
    · rw [if_pos ⟨c1, by omega⟩, c3, c4]
    · rw [if_neg (by omega)] at h ⊢
      exact h
    · rw [if_neg (by omega)] at h ⊢
      exact h
theorem RR1_cg {r : Nat} {Sc Sm Sc' Sm' : SD} (c7 : gD Sc' 47 r 7 = gD Sc 47 r 7) (c8 : gD Sc' 47 r 8 = gD Sc 47 r 8) (cF : ∀ g k, 48 ≤ g → g ≤ 53 → gD Sc' g r k = gD Sc g r k) (cT : gD Sc' 3 0 10 = gD Sc 3 0 10) (m1 : ∀ g, g = 123 ∨ g = 124 → gD Sm' g 0 r = gD Sm g 0 r) (m2 : ∀ g k, 127 ≤ g → g ≤ 132 → k < 16 → gD Sm' g 0 (16 * r + k) = gD Sm g 0 (16 * r + k)) (h : RR1 r Sc Sm) : RR1 r Sc' Sm' := by
  obtain ⟨h1, h2, h3, h4, h5, h6⟩ := h
  refine ⟨?_, ?_, ?_, ?_, ?_, fun k hk => ?_⟩
  · rw [m1 123 (by omega), c7]; exact h1
  · rw [c7]; exact h2
  · rw [m1 124 (by omega), c8]; exact h3
  · rw [c8]; exact h4
  · rw [c7, c8]; exact h5
  · rw [c7] at hk
    have := h6 k hk
    show FCT (gD Sc' 3 0 10) r k Sc' Sm'
    rw [cT]
    exact FCT_cg (fun g a b => cF g k a b) (fun g a b => m2 g k a b (by omega)) this
theorem RR2_cg {r : Nat} {Sc Sm Sc' Sm' : SD} (c : ∀ k, 7 ≤ k → k ≤ 10 → gD Sc' 47 r k = gD Sc 47 r k) (cS : ∀ k, gD Sc' 54 r k = gD Sc 54 r k) (m1 : ∀ w, w < 2 → gD Sm' 125 0 (2 * r + w) = gD Sm 125 0 (2 * r + w)) (m2 : ∀ k, k < 200 → gD Sm' 126 0 (200 * r + k) = gD Sm 126 0 (200 * r + k)) (h : RR2 r Sc Sm) : RR2 r Sc' Sm' := by
  obtain ⟨h1, h2, h3, h4, h5, h6, h7, h8, h9⟩ := h
  have c7 := c 7 (by decide) (by decide)
  have c8 := c 8 (by decide) (by decide)
  have c9 := c 9 (by decide) (by decide)
  have c10 := c 10 (by decide) (by decide)
  unfold RR2
  simp only [c7, c8, c9, c10, cS]
  refine ⟨(m1 0 (by omega)).trans h1, (m1 1 (by omega)).trans h2, h3, h4, h5, fun k hk => ?_, fun k hk => ?_, h8, h9⟩
  · rw [m2 k (by omega)]; exact h6 k hk
  · rw [Nat.add_assoc, m2 (100 + k) (by omega), ← Nat.add_assoc]; exact h7 k hk
theorem RR3_cg {r : Nat} {Sc Sm Sc' Sm' : SD} (c : ∀ k, 11 ≤ k → k ≤ 14 → gD Sc' 47 r k = gD Sc 47 r k) (cT : gD Sc' 3 0 10 = gD Sc 3 0 10) (m : ∀ g, 115 ≤ g → g ≤ 122 → gD Sm' g 0 r = gD Sm g 0 r ∨ g = 117 ∨ g = 118) (h : RR3 r Sc Sm) : RR3 r Sc' Sm' := by
  have c11 := c 11 (by decide) (by decide)
  have c12 := c 12 (by decide) (by decide)
  have c13 := c 13 (by decide) (by decide)
  have c14 := c 14 (by decide) (by decide)
  have m115 := (m 115 (by decide) (by decide)).resolve_right (by decide)
  have m116 := (m 116 (by decide) (by decide)).resolve_right (by decide)
  have m119 := (m 119 (by decide) (by decide)).resolve_right (by decide)
  have m120 := (m 120 (by decide) (by decide)).resolve_right (by decide)
  have m121 := (m 121 (by decide) (by decide)).resolve_right (by decide)
  have m122 := (m 122 (by decide) (by decide)).resolve_right (by decide)
  unfold RR3 at *
  rw [c11, c12, c13, c14, cT, m115, m116, m119, m120, m121, m122]
  exact h
theorem OUT_tr {r : Nat} {G : SD → SD → Prop} {oC oM oC' oM' : Option RR} {Sc Sm Sc1 Sm1 : SD} (h : OUT r G oC oM Sc1 Sm1) (x1 : FRc r Sc Sc1) (x2 : FRm r Sm Sm1) (eC : oC' = oC) (eM : ∀ v S, v = 0 ∨ v = 1 → oM = some (vi v, S) → oM' = some (vi v, S)) : OUT r G oC' oM' Sc Sm := by
  rcases h with ⟨S', M', fl, h1, h2, h3, h4, h5⟩ | ⟨S', M', h1, h2, h3, h4, h5⟩
  · exact Or.inl ⟨S', M', fl, eC.trans h1, eM 0 _ (Or.inl rfl) h2, FRc_tr x1 h3, FRm_tr x2 h4, h5⟩
  · exact Or.inr ⟨S', M', eC.trans h1, eM 1 _ (Or.inr rfl) h2, FRc_tr x1 h3, FRm_tr x2 h4, h5⟩
theorem OUT_F {r : Nat} {G : SD → SD → Prop} {oC oM oC' oM' : Option RR} {Sc Sm Sc1 Sm1 : SD} (h : FAILo r oC oM Sc1 Sm1) (x1 : FRc r Sc Sc1) (x2 : FRm r Sm Sm1) (e1 : ∀ S, oC = some (vi 0, S) → oC' = some (vi (gD S 29 0 5), wD S 29 0 2 0)) (e2 : ∀ S, oM = some (vi 0, S) → oM' = some (vi 0, S)) : OUT r G oC' oM' Sc Sm := by
  obtain ⟨S', M', fl, h1, h2, h3, h4, h5, h6, h7, h8⟩ := h
  have := e1 _ h1
  rw [h5] at this
  exact Or.inl ⟨S', M', fl, this, e2 _ h2, FRc_tr x1 h3, FRm_tr x2 h4, h6, h7, h8⟩
def LAST (r : Nat) (Sc Sm : SD) : Prop := 0 ≤ (gD Sc 47 r 11) ∧ (gD Sc 47 r 11) ≤ 60 ∧ ((gD Sm 116 0 r) = if (gD Sc 47 r 11) = 0 then 0 else 1) ∧ (gD Sm 115 0 r) = max (gD Sc 47 r 11) 1
def RRX (r : Nat) (Sc Sm : SD) : Prop := RR1 r Sc Sm ∧ RR2 r Sc Sm ∧ RR3 r Sc Sm
theorem L_fin {d' r base p F L dd : Nat} {lo : Int} {s : Nat → Int} {Sc Sm : SD} (hd : 7 ≤ d) (hd' : 6 ≤ d') (hn : n ≤ 200) (hA : TAB A B) (hr : r < 20) (h : SYN A B n th r base lo p p F L dd s Sc Sm) (hf : (gD Sc 47 r 13) = -1) (h1 : RR1 r Sc Sm) (h2 : RR2 r Sc Sm) (h3 : LAST r Sc Sm) : OUT r (RRX r) (TAIL d Sc) (EE false d' 244 [vr (some (85, 0))] Sm) Sc Sm := by
  have hT : (gD Sc 3 0 10) = th := h.2.2.2.2.2.2.2.2.2.1
  rcases L_act hd hd' hn hA hr h hf with f | ⟨S', M', c1, c2, c3, c4, x, y, g⟩
  · exact Or.inl f
  · refine Or.inr ⟨S', M', c1, c2, c3, c4, RR1_cg (x.2 47 r 7 (by omega) (by omega)) (x.2 47 r 8 (by omega) (by omega)) (fun g k a b => x.2 g r k (by omega) (by omega)) (x.2 3 0 10 (by omega) (by omega)) (fun g a => y.2 g 0 r (by omega) (by omega)) (fun g k a b _ => y.2 g 0 _ (by omega) (by omega)) h1, RR2_cg (fun k a b => x.2 47 r k (by omega) (by omega)) (fun k => x.2 54 r k (by omega) (by omega)) (fun w _ => y.2 125 0 _ (by omega) (by omega)) (fun k _ => y.2 126 0 _ (by omega) (by omega)) h2, ?_⟩
    obtain ⟨g1, g2, g3, g4, g5⟩ := g
    obtain ⟨l1, l2, l3, l4⟩ := h3
    have e11 := x.2 47 r 11 (by omega) (by omega)
    have e116 := y.2 116 0 r (by omega) (by omega)
    have e115 := y.2 115 0 r (by omega) (by omega)
    have e10 := x.2 3 0 10 (by omega) (by omega)
    unfold RR3
    rw [e11, e116, e115, e10, hT]
    exact ⟨l1, l2, l3, l4, g1, g2, g3, g4, g5⟩
end
