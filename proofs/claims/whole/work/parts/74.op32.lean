/-! a rule upon numbers of REFS: class and reference -/
section
variable {d : Nat}
def SLT (Sc Sm : SD) (r : Nat) : Prop := ∀ k : Nat, (k : Int) < (gD Sc 47 r 7) → (gD Sc 48 r k) = 0 ∧ ∃ s : Nat, s < 32 ∧ (gD Sc 64 0 (((gD Sc 49 r k) * 3 + (gD Sc 50 r k)).toNat)) = (s : Int) ∧ (gD Sm 149 0 (16 * r + k)) = (s : Int) ∧ (gD Sm 153 0 s) = (gD Sc 56 0 s) ∧ (gD Sc 56 0 s) ≠ -1000000
def FN (S : SD) (r k : Nat) : Bool := cmpI (gD S 56 0 (((gD S 64 0 (((gD S 49 r k) * 3 + (gD S 50 r k)).toNat))).toNat)) (gD S 52 r k) (gD S 53 r k) == 1
def HV (S : SD) (r : Nat) (F : Nat → Bool) : Bool := evS (TS S r true) F (TL S r true) 0 && !(decide ((gD S 47 r 10) < (gD S 47 r 9)) && evS (TS S r false) F (TL S r false) 0)
theorem cmpI_b (a s n : Int) : cmpI a s n = bi (cmpI a s n == 1) := by
  rcases cmpI_01 a s n with h | h <;> rw [h] <;> rfl
theorem q_factCell {S : SD} (hd : 3 ≤ d) (r k t f : Nat) (h : (k : Int) < (gD S 47 r 7)) (h2 : k < 16) (ht : (gD S 49 r k) = (t : Int)) (hf : (gD S 50 r k) = (f : Int)) (ht4 : t < 40) (hf3 : f < 3) : EE false d 50 [vr (some (47, r)), vi (k : Int)] S = some (vi ((t : Int) * 3 + (f : Int)), S) := by
  rw [E50 (by omega), b50_0, q_hasFact (by omega) r k h h2, b_I, if_neg (by decide), bnd (by omega), bnd (by omega), tn, ht, hf, E52 (by omega), b52_0, q_in1 (by omega) _ _ _ (by omega), b_I, if_neg (by decide), q_in1 (by omega) _ _ _ (by omega), b_I, if_neg (by decide), aw3x (by omega), b_I]
theorem q_slotOf {S : SD} (hd : 1 ≤ d) (c s : Nat) (hc : c < 120) (hs : s < 32) (h : (gD S 64 0 c) = (s : Int)) : EE false d 8 [vr (some (55, 0)), vi (c : Int)] S = some (vi (s : Int), S) := by
  rw [E8 hd, b8_0, if_neg (by omega), if_pos (by omega), bnd (by omega), tn, h, if_pos (by omega)]
theorem w_hfin {Sc Sm : SD} {r : Nat} (hd : 1 ≤ d) (h1 : RR1 r Sc Sm) (h2 : RR2 r Sc Sm) (F : Nat → Bool) (bits : Int) (hb : ∀ k : Nat, (k : Int) < (gD Sc 47 r 7) → ti bits k = F k) : (bI (EE false d 55 [vr (some (47, r)), vi 1, vi bits] Sc) (fun x14 S13 =>
   (if x14 = 0 then
    some (vi 0, S13)
   else
    (bI (EE false d 48 [vr (some (47, r))] S13) (fun x16 S15 =>
     (if x16 = 0 then
      some (vi 1, S15)
     else
      (bI (EE false d 55 [vr (some (47, r)), vi 0, vi bits] S15) (fun x18 S17 =>
       (if x18 = 0 then
        some (vi 1, S17)
       else
        some (vi 0, S17))))))))) : Option RR) = some (vi (bi (HV Sc r F)), Sc) := by
  have g : ∀ w, (w = true ∨ (gD Sc 47 r 10) < (gD Sc 47 r 9)) → ((Thi Sc r w : Nat) : Int) ≤ (gD Sc 47 r 7) := fun w hw => (RR_w h1 h2 w hw).2.2.2.1
  have i1 := q_isT (d := d) hd h1 h2 true (Or.inl rfl) F bits (fun k _ k2 => hb k (by have := g true (Or.inl rfl); omega))
  have i1 : EE false d 55 [vr (some (47, r)), vi 1, vi bits] Sc = _ := i1
  rw [i1, b_I]
  unfold HV
  cases hv : evS (TS Sc r true) F (TL Sc r true) 0 with
  | false => rfl
  | true =>
    rw [if_neg (by decide), E48 hd, b48_0]
    by_cases hu : (gD Sc 47 r 10) < (gD Sc 47 r 9)
    · have i2 := q_isT (d := d) hd h1 h2 false (Or.inr hu) F bits (fun k _ k2 => hb k (by have := g false (Or.inr hu); omega))
      have i2 : EE false d 55 [vr (some (47, r)), vi 0, vi bits] Sc = _ := i2
      rw [if_pos hu, b_I, if_neg (by decide), i2, b_I, decide_eq_true hu]
      cases evS (TS Sc r false) F (TL Sc r false) 0 <;> rfl
    · rw [if_neg hu, b_I, if_pos rfl, decide_eq_false hu]
      rfl
theorem w_holds {Sc Sm : SD} {r : Nat} (hT : IT Sc Sm) (h1 : RR1 r Sc Sm) (h2 : RR2 r Sc Sm) (hS : SLT Sc Sm r) (hd : 3 ≤ d) : ∀ (n j : Nat) (bits : Int), (j : Int) ≤ (gD Sc 47 r 7) → 16 - j < n → (∀ k : Nat, k < j → ti bits k = FN Sc r k) → (∀ k : Nat, j ≤ k → k < 32 → ti bits k = false) → run oo (EE false d) false mi_9 n 4 [(0, vr (some (55, 0))), (1, vr (some (47, r))), (2, vi bits), (3, vi (j : Int))] [] Sc = some (vi (bi (HV Sc r (FN Sc r))), Sc) := by
  have h1' := h1
  unfold RR1 at h1'
  obtain ⟨a1, a2, a3, a4, a5, a6⟩ := h1'
  have uT := hT; unfold IT at uT
  have tt : (gD Sc 3 0 10) ≤ 40 := uT.2.2.1
  intro n
  induction n with
  | zero => intro j bits z1 z2; omega
  | succ n ih =>
    intro j bits z1 z2 z4 z5
    rw [b9_4]
    by_cases hj : (j : Int) < (gD Sc 47 r 7)
    · obtain ⟨v0, s, s1, s2, s3, s4, s5⟩ := hS j hj
      obtain ⟨f1, f2, f3, f4, f5, f6, f7, f8, _⟩ := a6 j hj
      obtain ⟨g1, g2⟩ := f8 (by omega)
      obtain ⟨t, ht⟩ := Int.eq_ofNat_of_zero_le f5
      obtain ⟨f, hf⟩ := Int.eq_ofNat_of_zero_le g1
      have ec : (t : Int) * 3 + (f : Int) = ((3 * t + f : Nat) : Int) := by omega
      have es : (gD Sc 64 0 (3 * t + f)) = (s : Int) := by rw [ht, hf, ec, tn] at s2; exact s2
      have eF : FN Sc r j = (cmpI (gD Sc 56 0 s) (gD Sc 52 r j) (gD Sc 53 r j) == 1) := by
        unfold FN
        rw [s2, tn]
      rw [if_pos hj, if_pos (by omega), q_factCell (by omega) r j t f hj (by omega) ht hf (by omega) (by omega), b_I, ec, q_slotOf (by omega) (3 * t + f) s (by omega) s1 es, b_I, if_neg (by omega), bnd (by omega), tn, q_cmp (by omega) r j hj (by omega), if_neg s5, b_I, cmpI_b, ← eF, awp (show j < 1000000 by omega)]
      cases hF : FN Sc r j with
      | true =>
        rw [if_neg (by decide)]
        refine ih (j + 1) _ (by omega) (by omega) (fun k k2 => ?_) (fun k k1 k2 => ?_)
        · rw [ti_ior, ti_shl j (by omega) k (by omega)]
          by_cases e : k = j
          · subst e; rw [hF, decide_eq_true rfl, Bool.or_true]
          · rw [z4 k (by omega), decide_eq_false e, Bool.or_false]
        · rw [ti_ior, ti_shl j (by omega) k (by omega), z5 k (by omega) k2, decide_eq_false (by omega)]
          rfl
      | false =>
        rw [if_pos (by decide)]
        refine ih (j + 1) _ (by omega) (by omega) (fun k k2 => ?_) (fun k k1 k2 => z5 k (by omega) k2)
        by_cases e : k = j
        · subst e; rw [hF, z5 k (by omega) (by omega)]
        · exact z4 k (by omega)
    · rw [if_neg hj]
      exact w_hfin (by omega) h1 h2 (FN Sc r) bits (fun k hk => z4 k (by omega))
end
