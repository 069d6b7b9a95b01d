/-! rule: one turn of a test on both sides -/
section
variable {d : Nat} {A B : Nat → Int} {n : Nat} {th : Int}
theorem pend_l {an or : Bool} : (pend an or).length = (if an then 1 else 0) + (if or then 1 else 0) := by cases an <;> cases or <;> rfl
theorem T_step {d' : Nat} {r base w p F L dd0 dp m mc i : Nat} {lo : Int} {s : Nat → Int} {an or : Bool} {sg : List Int} {S1 M1 : SD} (hd : 4 ≤ d) (hd' : 4 ≤ d') (hn : n ≤ 200) (hA : TAB A B) (hr : r < 20) (hw : w < 2) (hsg : sg = [] ∨ ∃ t, sg = (-4) :: t) (h : SYN A B n th r base lo p p F L (dd0 + (pend an or).length + 1) s S1 M1) (hT : TSL r w L 0 s M1) (hS : STK (pend an or ++ sg) M1) (hdp : (gD M1 85 0 58) = (dp : Int)) (hl : sg.length ≤ 190) (hL : 2 * (base + L) + 4 ≤ p) (hm : 8 ≤ m) (hi : i < 1000) : (∃ S2 M2 m2 p2 an2 or2 L2 s2, (if bi an = 0 then TCx d mc dp or i S1 else bV (EE false d 70 [vr (some (29, 0)), vi (-2)] S1) (fun S10 => TCx d mc dp or i S10)) = run oo (EE false d) false mi_71 mc 7 [(0, vr (some (29, 0))), (1, vi (dp : Int)), (2, vi (bi an2)), (3, vi (bi or2)), (4, vi ((i + 1 : Nat) : Int))] [] S2 ∧ run oo (EE false d') false mi_242 m 127 [(0, vr (some (85, 0))), (1, vi (w : Int))] [] M1 = run oo (EE false d') false mi_242 m2 24 [(0, vr (some (85, 0))), (1, vi (w : Int))] [] M2 ∧ m ≤ m2 + 6 ∧ CFr r base S1 S2 ∧ MFr r w M1 M2 ∧ SYN A B n th r base lo p2 p2 F L2 (dd0 + (pend an2 or2).length) s2 S2 M2 ∧ TSL r w L2 0 s2 M2 ∧ STK (pend an2 or2 ++ sg) M2 ∧ (gD M2 85 0 58) = (dp : Int) ∧ p + 2 ≤ p2 ∧ L ≤ L2 ∧ L2 + (pend an2 or2).length = L + (pend an or).length + 1) ∨ (∃ S2, (if bi an = 0 then TCx d mc dp or i S1 else bV (EE false d 70 [vr (some (29, 0)), vi (-2)] S1) (fun S10 => TCx d mc dp or i S10)) = some (vi 1, S2) ∧ CFr r base S1 S2 ∧ SYN A B n th r base lo (skp B n p) p F (L + (pend an or).length) (dd0 + 1) (ext s L (pend an or)) S2 M1 ∧ WRD B n 6 p = false ∧ WRD B n 7 p = false) := by
  obtain ⟨h1, h2, h3, h4, h5, h6, h7, h8, h9, h10⟩ := id h
  have hs := sk_n (B := B) h5
  have hsl := skp_le (B := B) (n := n) (p := p)
  obtain ⟨m, rfl⟩ : ∃ k, m = k + 1 := ⟨m - 1, by omega⟩
  have hM : TPm A n (wD M1 85 0 53 (skp B n p : Int)) := TPm_w h2 (by decide)
  -- the reference's words
  have mw : ∀ j, j < 12 → EE false d' 227 [vr (some (85, 0)), vl (wcd j)] (wD M1 85 0 53 (skp B n p : Int)) = some (vi (bi (WRD B n j p)), wD M1 85 0 53 (skp B n p : Int)) := fun j hj => by
    rw [q_wordM (p := skp B n p) (by omega) hn hA hM hj (by omega) g_e, skp_sk, wD_ww, WRD_s]
  have mw6 : EE false d' 227 [vr (some (85, 0)), vl 6385252] (wD M1 85 0 53 (skp B n p : Int)) = some (vi (bi (WRD B n 6 p)), wD M1 85 0 53 (skp B n p : Int)) := mw 6 (by decide)
  have mw7 : EE false d' 227 [vr (some (85, 0)), vl 28530] (wD M1 85 0 53 (skp B n p : Int)) = some (vi (bi (WRD B n 7 p)), wD M1 85 0 53 (skp B n p : Int)) := mw 7 (by decide)
  have see := q_see (d := d') (by omega) hn hA h2 (by omega) h4
  have key : ∀ X, CFr r base S1 X → SYN A B n th r base lo p p F (L + (pend an false).length) (dd0 + (pend false or).length + 1) (ext s L (pend an false)) X M1 → (∃ S2 M2 m2 p2 an2 or2 L2 s2, TCx d mc dp or i X = run oo (EE false d) false mi_71 mc 7 [(0, vr (some (29, 0))), (1, vi (dp : Int)), (2, vi (bi an2)), (3, vi (bi or2)), (4, vi ((i + 1 : Nat) : Int))] [] S2 ∧ run oo (EE false d') false mi_242 (m + 1) 127 [(0, vr (some (85, 0))), (1, vi (w : Int))] [] M1 = run oo (EE false d') false mi_242 m2 24 [(0, vr (some (85, 0))), (1, vi (w : Int))] [] M2 ∧ m + 1 ≤ m2 + 6 ∧ CFr r base S1 S2 ∧ MFr r w M1 M2 ∧ SYN A B n th r base lo p2 p2 F L2 (dd0 + (pend an2 or2).length) s2 S2 M2 ∧ TSL r w L2 0 s2 M2 ∧ STK (pend an2 or2 ++ sg) M2 ∧ (gD M2 85 0 58) = (dp : Int) ∧ p + 2 ≤ p2 ∧ L ≤ L2 ∧ L2 + (pend an2 or2).length = L + (pend an or).length + 1) ∨ (∃ S2, TCx d mc dp or i X = some (vi 1, S2) ∧ CFr r base S1 S2 ∧ SYN A B n th r base lo (skp B n p) p F (L + (pend an or).length) (dd0 + 1) (ext s L (pend an or)) S2 M1 ∧ WRD B n 6 p = false ∧ WRD B n 7 p = false) := fun X hX hY => by
    have k1 := hY.1
    have k3 := hY.2.2.1
    unfold TCx
    rw [q_takesWC (by omega) hn k1 (by decide) (by omega) k3, b_I]
    cases h6w : WRD B n 6 p with
    | true =>
      have hu : skp B n p + 3 ≤ n := WRD_n (by decide) h6w
      have hc : bt B n (skp B n p) = 97 := wrd_c (by decide) h6w
      refine Or.inl ?_
      have qs := q_skips (d := d') (j := 6) (S := wD M1 85 0 53 (skp B n p : Int)) (q := skp B n p) (by omega) hn hA hM (by decide) (by omega) h6w g_e
      rw [wD_ww] at qs
      obtain ⟨M2, m2, r1, r2, r3, r4, r5⟩ := R229_and (d := d') (M := wD M1 85 0 53 ((skp B n p + 3 : Nat) : Int)) (m := m) (by omega) hr hw (by rw [g_k (by decide)]; exact h9) hsg (STK_k hS (by decide)) hl (TSL_nx hT) (by omega) (by omega)
      rw [if_neg (by decide), if_pos rfl, awp (show i < 1000000 by omega)]
      refine ⟨_, M2, m2, skp B n p + 3, true, or, _, _, rfl, ?_, by omega, CFr_pl hX, MFr_tr (MFr_nx MFr_rf) r3.1, ?_, r5, r4, ?_, by omega, by omega, ?_⟩
      · rw [b242_127, see, b_I, if_neg (by rw [hc]; decide), mw6, b_I, h6w, if_neg (by decide), qs, b_V]
        exact r1
      · have e : dd0 + (pend true or).length = dd0 + (pend false or).length + 1 := by rw [pend_l, pend_l]; simp only [if_true, Bool.false_eq_true, if_false]; omega
        rw [e]
        exact SYN_pl (SYN_mov (SYN_nx hY hu) r3) hu
      · rw [r3.2.1 58 (by decide), g_k (by decide)]
        exact hdp
      · rw [pend_l, pend_l, pend_l]; simp only [if_true, Bool.false_eq_true, if_false]; omega
    | false =>
      rw [if_pos (by decide), if_neg (show ¬ false = true by decide)]
      have hcl : ∀ X2 L2 s2, CFr r base S1 X2 → SYN A B n th r base lo (skp B n p) p F L2 (dd0 + 1) s2 X2 M1 → L2 = L + (pend an or).length → s2 = ext s L (pend an or) → (∃ S2 M2 m2 p2 an2 or2 L2 s2, (bI (EE false d 65 [vr (some (29, 0)), vr (some (1, 7))] X2) (fun x9 S8 => (if x9 = 0 then some (vi 1, S8) else run oo (EE false d) false mi_71 mc 7 [(0, vr (some (29, 0))), (1, vi (dp : Int)), (2, vi (bi false)), (3, vi x9), (4, vi (aw oo ((i : Int) + 1)))] [] S8)) : Option RR) = run oo (EE false d) false mi_71 mc 7 [(0, vr (some (29, 0))), (1, vi (dp : Int)), (2, vi (bi an2)), (3, vi (bi or2)), (4, vi ((i + 1 : Nat) : Int))] [] S2 ∧ run oo (EE false d') false mi_242 (m + 1) 127 [(0, vr (some (85, 0))), (1, vi (w : Int))] [] M1 = run oo (EE false d') false mi_242 m2 24 [(0, vr (some (85, 0))), (1, vi (w : Int))] [] M2 ∧ m + 1 ≤ m2 + 6 ∧ CFr r base S1 S2 ∧ MFr r w M1 M2 ∧ SYN A B n th r base lo p2 p2 F L2 (dd0 + (pend an2 or2).length) s2 S2 M2 ∧ TSL r w L2 0 s2 M2 ∧ STK (pend an2 or2 ++ sg) M2 ∧ (gD M2 85 0 58) = (dp : Int) ∧ p + 2 ≤ p2 ∧ L ≤ L2 ∧ L2 + (pend an2 or2).length = L + (pend an or).length + 1) ∨ (∃ S2, (bI (EE false d 65 [vr (some (29, 0)), vr (some (1, 7))] X2) (fun x9 S8 => (if x9 = 0 then some (vi 1, S8) else run oo (EE false d) false mi_71 mc 7 [(0, vr (some (29, 0))), (1, vi (dp : Int)), (2, vi (bi false)), (3, vi x9), (4, vi (aw oo ((i : Int) + 1)))] [] S8)) : Option RR) = some (vi 1, S2) ∧ CFr r base S1 S2 ∧ SYN A B n th r base lo (skp B n p) p F (L + (pend an or).length) (dd0 + 1) (ext s L (pend an or)) S2 M1 ∧ false = false ∧ WRD B n 7 p = false) := fun X2 L2 s2 q1 q2 eL es => by
        have k1 := q2.1
        have k3 := q2.2.2.1
        rw [q_takesWC (p := skp B n p) (by omega) hn k1 (by decide) (by omega) k3, b_I, WRD_s, skp_sk]
        cases h7w : WRD B n 7 p with
        | true =>
          have hu : skp B n p + 2 ≤ n := WRD_n (by decide) h7w
          have hc : bt B n (skp B n p) = 111 := wrd_c (by decide) h7w
          refine Or.inl ?_
          have qs := q_skips (d := d') (j := 7) (S := wD M1 85 0 53 (skp B n p : Int)) (q := skp B n p) (by omega) hn hA hM (by decide) (by omega) h7w g_e
          rw [wD_ww] at qs
          obtain ⟨M2, m2, r1, r2, r3, r4, r5⟩ := R229_or (d := d') (M := wD M1 85 0 53 ((skp B n p + 2 : Nat) : Int)) (m := m) (by omega) hr hw (by rw [g_k (by decide)]; exact h9) hsg (STK_k hS (by decide)) hl (TSL_nx hT) (by omega) (by omega)
          rw [if_neg (by decide), if_pos rfl, awp (show i < 1000000 by omega)]
          refine ⟨_, M2, m2, skp B n p + 2, false, true, _, _, rfl, ?_, by omega, CFr_pl q1, MFr_tr (MFr_nx MFr_rf) r3.1, ?_, r5, r4, ?_, by omega, by omega, ?_⟩
          · rw [b242_127, see, b_I, if_neg (by rw [hc]; decide), mw6, b_I, h6w, if_pos (by decide), mw7, b_I, h7w, if_neg (by decide), qs, b_V]
            exact r1
          · rw [← eL, ← es]
            exact SYN_pl (SYN_mov (SYN_nx q2 hu) r3) hu
          · rw [r3.2.1 58 (by decide), g_k (by decide)]
            exact hdp
          · rw [show (pend false true).length = 1 from rfl]
        | false =>
          rw [if_pos (by decide), if_neg (show ¬ false = true by decide)]
          rw [wD_id k3, ← eL, ← es]
          exact Or.inr ⟨X2, rfl, q1, q2, rfl, rfl⟩
      have hX4 : CFr r base S1 (wD X 29 0 4 (skp B n p : Int)) := CFr_pl hX
      have hY4 := SYN_pl hY hs
      cases or with
      | false =>
        rw [if_pos (by decide)]
        exact hcl _ _ _ hX4 hY4 rfl rfl
      | true =>
        rw [if_neg (by decide)]
        have e9 : dd0 + (pend false true).length + 1 = dd0 + 2 := rfl
        rw [e9] at hY4
        have hL4 : L + (pend an false).length ≤ L + 1 := by rw [pend_l]; cases an <;> simp
        obtain ⟨X5, x1, x2, x3⟩ := SYN_add (d := d) (v := -3) (dd' := dd0 + 1) (by omega) hY4 (by omega) (stD_b (by rw [stD_cg (fun k hk => xt_l hk)]; exact hY4.2.2.2.2.2.2.2.2.2.2.2.2.2.2.2.2.2) (Or.inr xt_e) (by omega))
        rw [x1, b_V]
        refine hcl X5 _ _ (CFr_tr hX4 x2) x3 ?_ ?_
        · rw [pend_l, pend_l]; cases an <;> rfl
        · cases an
          · rfl
          · rfl
  cases an with
  | false =>
    rw [if_pos (by decide)]
    exact key S1 CFr_rf h
  | true =>
    rw [if_neg (by decide)]
    have e9 : dd0 + (pend true or).length + 1 = dd0 + (pend false or).length + 2 := by rw [pend_l, pend_l]; simp only [if_true, Bool.false_eq_true, if_false]; omega
    rw [e9] at h
    obtain ⟨X5, x1, x2, x3⟩ := SYN_add (d := d) (v := -2) (dd' := dd0 + (pend false or).length + 1) (by omega) h (by omega) (stD_b (by rw [stD_cg (fun k hk => xt_l hk)]; exact h.2.2.2.2.2.2.2.2.2.2.2.2.2.2.2.2.2) (Or.inl xt_e) (by omega))
    rw [x1, b_V]
    exact key X5 x2 x3
end
