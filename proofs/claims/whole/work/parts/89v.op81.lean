/-! rule -/
section
variable {d : Nat}
theorem gD_ne {S : SD} {f j k f' j' k' : Nat} {v : Int} (h : ¬ (f = f' ∧ j = j' ∧ k = k')) : gD (wD S f' j' k' v) f j k = gD S f j k := by
  show (if f = f' ∧ j = j' ∧ k = k' then v else S.1 f j k) = S.1 f j k
  rw [if_neg h]
theorem FRc_X {r : Nat} {S S' : SD} (h : FRc r S S') : EqX [29, 47, 48, 49, 50, 51, 52, 53, 54] [(41, 8)] S S' := ⟨congrArg Prod.snd h.1, fun f j k a _ => h.2 f j k (fun q => a (by simp only [List.mem_cons, List.not_mem_nil, or_false]; omega)) (fun q => a (by simp only [List.mem_cons, List.not_mem_nil, or_false]; omega))⟩
theorem FRm_X {r : Nat} {S S' : SD} (h : FRm r S S') : EqX [113, 114, 115, 116, 117, 118, 119, 120, 121, 122, 123, 124, 125, 126, 127, 128, 129, 130, 131, 132, 133] [(85, 31), (85, 32), (85, 53), (85, 54), (85, 55), (85, 56), (85, 57), (85, 58), (85, 59)] S S' := ⟨congrArg Prod.snd h.1, fun f j k a b => h.2 f j k (fun q => by
  by_cases e : f = 85
  · refine b ?_
    simp only [List.mem_cons, List.not_mem_nil, or_false, Prod.mk.injEq]
    unfold own at q
    omega
  · refine a ?_
    simp only [List.mem_cons, List.not_mem_nil, or_false]
    unfold own at q
    omega)⟩
def IFr (r : Nat) (Sc Sm : SD) : Prop := (gD Sm 113 0 r) = (gD Sc 47 r 15) ∧ 0 ≤ (gD Sc 47 r 15) ∧ (gD Sc 47 r 15) ≤ 7
    ∧ (gD Sm 114 0 r) = (gD Sc 47 r 16) ∧ 0 ≤ (gD Sc 47 r 16) ∧ (gD Sc 47 r 16) ≤ (gD Sc 2 0 9) ∧ (gD Sm 117 0 r) = (gD Sc 47 r 17) ∧ (gD Sm 118 0 r) = (gD Sc 47 r 18)
    ∧ ((gD Sc 47 r 17) = 0 ∨ (gD Sc 47 r 17) = 1) ∧ ((gD Sc 47 r 18) = 0 ∨ (gD Sc 47 r 18) = 1) ∧ ((gD Sc 47 r 17) = 0 → (gD Sc 47 r 18) = 0)
theorem FIN_rl {i r N' : Nat} {Sc Sm Sc' Sm' : SD} (hC : CI2 i Sc Sm) (hr : r < 20) (hs : (gD Sc 41 0 8) = (r : Int)) (x1 : EqX [29, 47, 48, 49, 50, 51, 52, 53, 54] [(41, 8)] Sc Sc') (x2 : EqX [113, 114, 115, 116, 117, 118, 119, 120, 121, 122, 123, 124, 125, 126, 127, 128, 129, 130, 131, 132, 133] [(85, 31), (85, 32), (85, 53), (85, 54), (85, 55), (85, 56), (85, 57), (85, 58), (85, 59)] Sm Sm') (fc : ∀ f j k, 47 ≤ f → f ≤ 54 → j ≠ r → gD Sc' f j k = gD Sc f j k) (fm : ∀ f k, 113 ≤ f → f ≤ 132 → ¬ own r f k → gD Sm' f 0 k = gD Sm f 0 k) (h1 : (gD Sc' 41 0 8) = (N' : Int)) (h2 : (gD Sm' 85 0 32) = (N' : Int)) (p1 : (gD Sc' 29 0 2) = 0) (p2 : (gD Sm' 85 0 31) = 0) (hN' : N' = r ∨ (N' = r + 1 ∧ RRX r Sc' Sm' ∧ IFr r Sc' Sm')) : EqC Sc Sc' ∧ EqM Sm Sm' ∧ CI2 (i + 1) Sc' Sm' := by
  obtain ⟨hN, hT, hS, hW, hK, hO, hX, hP, hR, hF, hA, hH, hQ, hG⟩ := hC
  have fr : ∀ l : Nat, (l : Int) < (N' : Int) → l = r ∧ RRX r Sc' Sm' ∧ IFr r Sc' Sm' ∨ l < r := fun l hl => by
    rcases hN' with e | ⟨e, q⟩
    · exact Or.inr (by omega)
    · by_cases c : l = r
      · exact Or.inl ⟨c, q⟩
      · exact Or.inr (by omega)
  have fmr : ∀ g l, l ≠ r → 113 ≤ g → g ≤ 124 → gD Sm' g 0 l = gD Sm g 0 l := fun g l hl a b => fm g l a (by omega) (by unfold own; omega)
  refine ⟨EqC_of x1 rfl, EqM_of x2 rfl, ⟨IN_fr (AgX x1 rfl) (AgX x2 rfl) hN, IT_fr (AgX x1 rfl) (AgX x2 rfl) hT, IS_up (IS_fr (AgX x1 rfl) (AgX x2 rfl) hS), IW_fr (AgX x1 rfl) (AgX x2 rfl) hW, IC_fr (AgX x1 rfl) (AgX x2 rfl) hK, IO_fr (AgX x1 rfl) (AgX x2 rfl) hO, IX_up (IX_fr (AgX x1 rfl) (AgX x2 rfl) hX), ?_, ?_, ?_, ?_, IH_fr (AgX x1 rfl) (AgX x2 rfl) hH, IQ_fr (AgX x1 rfl) (AgX x2 rfl) hQ, IG_fr (AgX x1 rfl) (AgX x2 rfl) hG⟩⟩
  · unfold IP at *
    obtain ⟨a1, a2, a3, a4, a5⟩ := hP
    rw [p1, p2]
    have e30 := EqX_a x1 30 rfl
    have e112 := EqX_a x2 112 rfl
    exact ⟨rfl, by decide, by decide, fun k => by rw [e30, e112]; exact a4 k, fun k => by rw [e112]; exact a5 k⟩
  · unfold IR at *
    obtain ⟨r1, r2, r3, r4, r5⟩ := hR
    rw [h1, h2]
    refine ⟨rfl, by omega, by omega, (EqX_c x2 85 63 rfl 0).trans r4, fun l hl => ?_⟩
    rcases fr l hl with ⟨rfl, q, _⟩ | c
    · exact q
    · have hne : l ≠ r := by omega
      obtain ⟨g1, g2, g3⟩ := r5 l (by omega)
      exact ⟨RR1_cg (fc 47 l 7 (by decide) (by decide) hne) (fc 47 l 8 (by decide) (by decide) hne) (fun g k a b => fc g l k (by omega) (by omega) hne) (EqX_c x1 3 10 rfl 0) (fun g a => fmr g l hne (by omega) (by omega)) (fun g k a b c => fm g _ (by omega) (by omega) (by unfold own; omega)) g1, RR2_cg (fun k a b => fc 47 l k (by decide) (by decide) hne) (fun k => fc 54 l k (by decide) (by decide) hne) (fun w a => fm 125 _ (by decide) (by decide) (by unfold own; omega)) (fun k a => fm 126 _ (by decide) (by decide) (by unfold own; omega)) g2, RR3_cg (fun k a b => fc 47 l k (by decide) (by decide) hne) (EqX_c x1 3 10 rfl 0) (fun g a b => Or.inl (fmr g l hne (by omega) (by omega))) g3⟩
  · unfold IF at *
    intro l hl
    rw [h1] at hl
    rcases fr l hl with ⟨rfl, _, q⟩ | c
    · exact q
    · have hne : l ≠ r := by omega
      have := hF l (by omega)
      rw [fmr 113 l hne (by decide) (by decide), fmr 114 l hne (by decide) (by decide), fmr 117 l hne (by decide) (by decide), fmr 118 l hne (by decide) (by decide), fc 47 l 15 (by decide) (by decide) hne, fc 47 l 16 (by decide) (by decide) hne, fc 47 l 17 (by decide) (by decide) hne, fc 47 l 18 (by decide) (by decide) hne, EqX_c x1 2 9 rfl 0]
      exact this
  · unfold IA at *
    simp only [EqX_a x1 43 rfl, EqX_a x1 44 rfl, EqX_a x1 45 rfl, EqX_a x1 46 rfl, EqX_c x1 41 9 rfl, EqX_c x1 2 9 rfl, EqX_a x2 135 rfl, EqX_a x2 136 rfl, EqX_a x2 137 rfl, EqX_a x2 138 rfl, EqX_c x2 85 64 rfl, h1]
    obtain ⟨a1, a2, a3, a4, a5, a6, a7, a8⟩ := hA
    exact ⟨a1, a2, a3, a4, a5, a6, a7, fun k hk => by
      obtain ⟨b1, b2, b3⟩ := a8 k hk
      exact ⟨b1, by omega, b3⟩⟩
end
