/-! rule: from the UNLESS on, both sides -/
section
variable {d : Nat} {A B : Nat → Int} {n : Nat} {th : Int}
theorem SYN_r {r base p q F L dd k : Nat} {lo v : Int} {s : Nat → Int} {Sc Sm : SD} (h : SYN A B n th r base lo p q F L dd s Sc Sm) (hk : k ≠ 7 ∧ k ≠ 9) : SYN A B n th r base lo p q F L dd s (wD Sc 47 r k v) Sm := by
  obtain ⟨h1, h2, h3, h4, h5, h6, h7, h8, h9, h10, h11, h12, h13, h14, h15, h16, h17, h18⟩ := h
  exact ⟨⟨by rw [g_f (by decide)]; exact h1.1, fun k => by rw [g_f (by decide)]; exact h1.2 k⟩, h2, by rw [g_f (by decide)]; exact h3, h4, h5, h6, h7, h8, h9, by rw [g_f (by decide)]; exact h10, h11, by rw [g_k (by omega)]; exact h12, h13, h14, fun k hk => FCT_cg (fun g a b => by rw [g_f (by omega)]) (fun g a b => rfl) (h15 k hk), by rw [g_k (by omega)]; exact h16, fun k hk => by rw [g_f (by decide)]; exact h17 k hk, h18⟩
theorem SYN_mw {r base p q F L dd g k : Nat} {lo v : Int} {s : Nat → Int} {Sc Sm : SD} (h : SYN A B n th r base lo p q F L dd s Sc Sm) (hg : g = 115 ∨ g = 116 ∨ g = 124) : SYN A B n th r base lo p q F L dd s Sc (wD Sm g 0 k v) :=
  SYN_m h h.2.2.2.2.2.1 (by rw [g_f (by omega)]; exact h.2.2.2.1) (fun k hk _ => by rw [g_f (by omega)]) (fun g' hg' k => by rw [g_f (by omega)])
theorem RRx_w {r p q F L : Nat} {s : Nat → Int} {S M : SD} (h : SYN A B n th r 0 0 p q F L 1 s S M) (hT : TSL r 0 L 0 s M) (h124 : (gD M 124 0 r) = (F : Int)) (ht : (gD M 125 0 (2 * r + 1)) = 0) (h8 : gD S 47 r 8 = (F : Int)) (h10 : gD S 47 r 10 = (L : Int)) (hF : 1 ≤ F) (hL : 1 ≤ L ∧ L ≤ 100) : RR1 r S M ∧ RR2 r S M := by
  obtain ⟨a1, a2, a3, a4, a5, a6, a7, a8, a9, a10, a11, a12, a13, a14, a15, a16, a17, a18⟩ := h
  rw [Nat.zero_add] at a16
  have a17' : ∀ k : Nat, k < L → gD S 54 r k = s k := fun k hk => by have := a17 k hk; rw [Nat.zero_add] at this; exact this
  constructor
  · unfold RR1
    rw [a12, a14, h124, h8, a10]
    exact ⟨rfl, by omega, rfl, by omega, by omega, fun k hk => a15 k (by omega)⟩
  · unfold RR2
    simp only [a12, h8, a16, h10]
    refine ⟨hT.1, by rw [ht]; omega, by omega, by omega, by omega, fun k hk => ?_, fun k hk => absurd hk (by omega), ?_, Or.inl (by exact ⟨trivial, trivial⟩)⟩
    · rw [a17' k (by omega)]
      have := hT.2.1 k (by omega)
      rw [Nat.mul_zero, Nat.add_zero] at this
      exact this
    · rw [tn, tn, stD_cg (fun k hk => a17' k hk)]
      exact stD_hi L 1 F a18 (by omega)
theorem RRx_u {r p q F L F1 L1 : Nat} {s s1 : Nat → Int} {S M : SD} (h : SYN A B n th r L1 (F1 : Int) p q F L 1 s S M) (hT : TSL r 1 L 0 s M) (h124 : (gD M 124 0 r) = (F1 : Int)) (ht : (gD M 125 0 (2 * r)) = (L1 : Int)) (h8 : gD S 47 r 8 = (F1 : Int)) (h10 : gD S 47 r 10 = (L1 : Int)) (hF : 1 ≤ F1) (hL : 1 ≤ L1 ∧ L1 + L ≤ 100) (hs1 : ∀ k : Nat, k < L1 → gD S 54 r k = s1 k) (hs2 : ∀ k : Nat, k < L1 → (gD M 126 0 (200 * r + k)) = s1 k) (hst : stD s1 0 16 L1 = some (1, F1)) (hF16 : F1 ≤ 16) : RR1 r S M ∧ RR2 r S M := by
  obtain ⟨a1, a2, a3, a4, a5, a6, a7, a8, a9, a10, a11, a12, a13, a14, a15, a16, a17, a18⟩ := h
  have hle := stD_le (by omega) (by omega) L 1 F a18
  constructor
  · unfold RR1
    rw [a12, a14, h124, h8, a10]
    exact ⟨rfl, by omega, rfl, by omega, by omega, fun k hk => a15 k (by omega)⟩
  · unfold RR2
    simp only [a12, h8, a16, h10, tn]
    refine ⟨ht, by rw [hT.1]; omega, by omega, by omega, by omega, fun k hk => ?_, fun k hk => ?_, ?_, Or.inr ?_⟩
    · rw [hs1 k (by omega)]
      exact hs2 k (by omega)
    · rw [a17 k (by omega)]
      have := hT.2.1 k (by omega)
      rw [Nat.mul_one] at this
      exact this
    · rw [stD_cg (fun k hk => hs1 k hk)]
      exact stD_hi L1 1 F1 hst (by omega)
    · rw [show (((L1 + L : Nat) : Int) - (L1 : Int)).toNat = L by omega, stD_cg (fun k hk => a17 k hk)]
      exact stD_hi L 1 F a18 (by omega)
theorem LAST_cg {r : Nat} {Sc Sm Sc' Sm' : SD} (c : gD Sc' 47 r 11 = gD Sc 47 r 11) (m1 : gD Sm' 116 0 r = gD Sm 116 0 r) (m2 : gD Sm' 115 0 r = gD Sm 115 0 r) (h : LAST r Sc Sm) : LAST r Sc' Sm' := by
  unfold LAST at *
  rw [c, m1, m2]
  exact h
def CREST (d : Nat) (S : SD) : Option RR := (bI (EE false d 82 [vr (some (29, 0))] S) (fun x10 S9 =>
   (if x10 = 0 then
     TAIL d S9
   else
     (bI (EE false d 71 [vr (some (29, 0)), vi 0] S9) (fun x18 S17 => (if x18 = 0 then some (vi (gD (wD S17 29 0 2 0) 29 0 5), wD S17 29 0 2 0) else TAIL d S17))))))
def MREST (d : Nat) (S : SD) : Option RR := (bI (EE false d 229 [vr (some (85, 0)), vl 129117125440371] S) (fun x10 S9 =>
              (if x10 = 0 then
               (bI (EE false d 244 [vr (some (85, 0))] S9) (fun x12 S11 =>
                (if x12 = 0 then
                 some (vi 0, S11)
                else
                 some (vi 1, S11))))
              else
               (bI (EE false d 242 [vr (some (85, 0)), vi 1] S9) (fun x14 S13 =>
                (if x14 = 0 then
                 some (vi 0, S13)
                else
                 (bI (EE false d 244 [vr (some (85, 0))] S13) (fun x16 S15 =>
                  (if x16 = 0 then
                   some (vi 0, S15)
                  else
                   some (vi 1, S15))))))))))
theorem bI_01 {o : Option RR} {v : Int} {S : SD} (hv : v = 0 ∨ v = 1) (h : o = some (vi v, S)) : (bI o (fun x12 S11 => (if x12 = 0 then some (vi 0, S11) else some (vi 1, S11))) : Option RR) = some (vi v, S) := by
  rw [h, b_I]
  rcases hv with rfl | rfl
  · rw [if_pos rfl]
  · rw [if_neg (by decide)]
theorem L_rest {d' r p F L : Nat} {s : Nat → Int} {Sc Sm : SD} (hd : 19 ≤ d) (hd' : 10 ≤ d') (hn : n ≤ 200) (hA : TAB A B) (hr : r < 20) (hth : 0 ≤ th) (h : SYN A B n th r 0 0 p p F L 1 s Sc Sm) (hT : TSL r 0 L 0 s Sm) (hL : 2 * L + 4 ≤ p) (h124 : (gD Sm 124 0 r) = (F : Int)) (ht : (gD Sm 125 0 (2 * r + 1)) = 0) (hl : LAST r Sc Sm) (hf : (gD Sc 47 r 13) = -1) : OUT r (RRX r) (CREST d Sc) (MREST d' Sm) Sc Sm := by
  obtain ⟨h1, h2, h3, h4, h5, h6, h7, h8, h9, h10, h11, h12, h13, h14, h15, h16, h17, h18⟩ := id h
  have hs := sk_n (B := B) h5
  have hsl := skp_le (B := B) (n := n) (p := p)
  have hF1 := stD_le (by decide) (by decide) L 1 F h18
  have hL1 : 1 ≤ L := by
    cases L with
    | zero => exact absurd (show some (0, (0 : Int).toNat) = some (1, F) from h18) (by intro q; cases q)
    | succ L => omega
  rw [Nat.zero_add] at h16
  have cA := (E82 (d := d) (by omega) Sc).trans (b82_0 oo (EE false (d - 1)) 999999 Sc)
  rw [show gR Sc 29 0 3 = some (47, r) from h8, rR_s, rR_s, show gR (wD Sc 47 r 8 (gD Sc 47 r 7)) 29 0 3 = some (47, r) from h8, rR_s, rR_s, h12, g_k (by decide), h16] at cA
  have hX : SYN A B n th r 0 0 p p F L 1 s (wD (wD Sc 47 r 8 (F : Int)) 47 r 10 (L : Int)) Sm := SYN_r (SYN_r h (by decide)) (by decide)
  rw [q_takesWC (by omega) hn hX.1 (by decide) (by omega) hX.2.2.1, b_I, if_pos (bi01 _)] at cA
  have cM := q_takesWM (d := d') (j := 9) (by omega) hn hA h2 (by decide) (by omega) h4
  have xX : FRc r Sc (wD (wD Sc 47 r 8 (F : Int)) 47 r 10 (L : Int)) := FRc_w (FRc_w FRc_rf (Or.inr ⟨by decide, by decide, rfl⟩)) (Or.inr ⟨by decide, by decide, rfl⟩)
  cases hW : WRD B n 9 p with
  | false =>
    rw [hW, if_neg Bool.false_ne_true] at cA cM
    have y := SYN_nx (SYN_pl hX hs) hs
    obtain ⟨q1, q2⟩ := RRx_w y (TSL_nx hT) (by rw [g_f (by decide)]; exact h124) (by rw [g_f (by decide)]; exact ht) (by rw [g_f (by decide), g_k (by decide), g_e]) (by rw [g_f (by decide), g_e]) (by omega) ⟨hL1, by omega⟩
    refine OUT_tr (L_fin (d := d) (d' := d') (by omega) (by omega) hn hA hr y (by rw [g_f (by decide), g_k (by decide), g_k (by decide)]; exact hf) q1 q2 (LAST_cg (by rw [g_f (by decide), g_k (by decide), g_k (by decide)]) (by rw [g_f (by decide)]) (by rw [g_f (by decide)]) hl)) (FRc_w xX (Or.inl ⟨rfl, by decide⟩)) (FRm_w FRm_rf (Or.inr (Or.inr (Or.inr (Or.inr (Or.inl ⟨rfl, by decide, by decide⟩)))))) ?_ (fun v S hv e => ?_)
    · unfold CREST
      rw [cA, b_I, if_pos bi_f]
    · unfold MREST
      rw [show EE false d' 229 [vr (some (85, 0)), vl 129117125440371] Sm = _ from cM, b_I, if_pos bi_f]
      exact bI_01 hv e
  | true =>
    obtain ⟨p1, e1⟩ : ∃ x, x = skp B n p + (strT 9).length := ⟨_, rfl⟩
    have hp1 : p1 ≤ n := by rw [e1]; exact WRD_n (by decide) hW
    have hp2 : p ≤ p1 := by omega
    rw [hW, if_pos rfl, ← e1] at cA cM
    have x9 : FRc r Sc (wD (wD (wD Sc 47 r 8 (F : Int)) 47 r 10 (L : Int)) 29 0 4 (p1 : Int)) := FRc_w xX (Or.inl ⟨rfl, by decide⟩)
    have m9 : FRm r Sm (wD Sm 85 0 53 (p1 : Int)) := FRm_w FRm_rf (Or.inr (Or.inr (Or.inr (Or.inr (Or.inl ⟨rfl, by decide, by decide⟩)))))
    obtain ⟨a1, a2, a3, a4, a5, a6, a7, a8, a9, a10, a11, a12, a13, a14, a15, a16, a17, a18⟩ := SYN_nx (SYN_pl hX hp1) hp1
    have y : SYN A B n th r L (F : Int) p1 p1 F 0 0 s (wD (wD (wD Sc 47 r 8 (F : Int)) 47 r 10 (L : Int)) 29 0 4 (p1 : Int)) (wD Sm 85 0 53 (p1 : Int)) := ⟨a1, a2, a3, a4, a5, a6, a7, a8, a9, a10, a11, a12, a13, a14, a15, by rw [Nat.zero_add] at a16; exact a16, fun k hk => absurd hk (Nat.not_lt_zero _), rfl⟩
    rcases L_test (d := d) (d' := d') (w := 1) (by omega) (by omega) hn hA hr (by decide) hth y (by omega) with f | ⟨S', M', p', F', L', s', k1, k2, k3, k4, k5, k6, k7⟩
    · refine OUT_F f x9 m9 (fun S e => ?_) (fun S e => ?_)
      · unfold CREST
        rw [cA, b_I, if_neg (show ¬ bi true = 0 by decide), show EE false d 71 [vr (some (29, 0)), vi 0] _ = _ from e, b_I, if_pos rfl, g_k (by decide)]
      · unfold MREST
        rw [show EE false d' 229 [vr (some (85, 0)), vl 129117125440371] Sm = _ from cM, b_I, if_neg (show ¬ bi true = 0 by decide), show EE false d' 242 [vr (some (85, 0)), vi 1] _ = _ from e, b_I, if_pos rfl]
    · have hp' : p' ≤ n := k5.2.2.2.2.1
      obtain ⟨q1, q2⟩ := RRx_u (s1 := s) k5 k6 (by rw [k4.2 124 0 r (by unfold mok; omega), g_f (by decide)]; exact h124) (by rw [k4.2 125 0 (2 * r) (by unfold mok; omega), g_f (by decide)]; exact hT.1) (by rw [k3.2.2 8 (by decide) (by decide), g_f (by decide), g_k (by decide), g_e]) (by rw [k3.2.2 10 (by decide) (by decide), g_f (by decide), g_e]) (by omega) ⟨hL1, by omega⟩ (fun k hk => by
        rw [k3.2.1 k hk]
        have := a17 k hk
        rw [Nat.zero_add] at this
        exact this) (fun k hk => by
        rw [k4.2 126 0 (200 * r + k) (by unfold mok; omega), g_f (by decide)]
        have := hT.2.1 k hk
        rw [Nat.mul_zero, Nat.add_zero] at this
        exact this) h18 h13
      refine OUT_tr (L_fin (d := d) (d' := d') (by omega) (by omega) hn hA hr k5 (by rw [k3.2.2 13 (by decide) (by decide), g_f (by decide), g_k (by decide), g_k (by decide)]; exact hf) q1 q2 (LAST_cg (by rw [k3.2.2 11 (by decide) (by decide), g_f (by decide), g_k (by decide), g_k (by decide)]) (by rw [k4.2 116 0 r (by unfold mok; omega), g_f (by decide)]) (by rw [k4.2 115 0 r (by unfold mok; omega), g_f (by decide)]) hl)) (FRc_tr x9 k3.1) (FRm_tr m9 (MFr_F k4 (by decide))) ?_ (fun v S hv e => ?_)
      · unfold CREST
        rw [cA, b_I, if_neg (show ¬ bi true = 0 by decide), show EE false d 71 [vr (some (29, 0)), vi 0] _ = _ from k1, b_I, if_neg (by decide)]
      · unfold MREST
        rw [show EE false d' 229 [vr (some (85, 0)), vl 129117125440371] Sm = _ from cM, b_I, if_neg (show ¬ bi true = 0 by decide), show EE false d' 242 [vr (some (85, 0)), vi 1] _ = _ from k2, b_I, if_neg (by decide)]
        exact bI_01 hv e
end
