/-! rule: a whole test on both sides -/
section
variable {A B : Nat → Int} {n : Nat} {th : Int}
theorem pend_4 {an or : Bool} : ∀ x, x ∈ pend an or → x ≠ -4 := by
  intro x hx
  cases an <;> cases or <;> simp [pend] at hx <;> omega
theorem L_test {d d' r base w p F : Nat} {lo : Int} {s : Nat → Int} {Sc Sm : SD} (hd : 18 ≤ d) (hd' : 9 ≤ d') (hn : n ≤ 200) (hA : TAB A B) (hr : r < 20) (hw : w < 2) (hth : 0 ≤ th) (h : SYN A B n th r base lo p p F 0 0 s Sc Sm) (hb : 2 * base + 4 ≤ p) : FAILo r (EE false d 71 [vr (some (29, 0)), vi 0] Sc) (EE false d' 242 [vr (some (85, 0)), vi (w : Int)] Sm) Sc Sm ∨ ∃ S' M' p' F' L' s', EE false d 71 [vr (some (29, 0)), vi 0] Sc = some (vi 1, S') ∧ EE false d' 242 [vr (some (85, 0)), vi (w : Int)] Sm = some (vi 1, M') ∧ CFr r base Sc S' ∧ MFr r w Sm M' ∧ SYN A B n th r base lo p' p' F' L' 1 s' S' M' ∧ TSL r w L' 0 s' M' ∧ 2 * (base + L') + 4 ≤ p' := by
  obtain ⟨d', rfl⟩ : ∃ k, d' = k + 1 := ⟨d' - 1, by omega⟩
  have h9 : (gD Sm 85 0 32) = (r : Int) := h.2.2.2.2.2.2.2.2.1
  have eC := fun S (x : Option RR) (e : run oo (EE false (d - 1)) false mi_71 999999 7 [(0, vr (some (29, 0))), (1, vi ((0 : Nat) : Int)), (2, vi (bi false)), (3, vi (bi false)), (4, vi ((0 : Nat) : Int))] [] S = x) => ((E71 (d := d) (by omega) S 0).trans (b71_0 oo (EE false (d - 1)) 999999 S 0)).trans e
  have cM := (E242 (d := d' + 1) (by omega) Sm (w : Int)).trans (b242_0 oo (EE false d') 999999 Sm (w : Int))
  have e32 : gD (wD (wD Sm 85 0 58 0) 85 0 59 0) 85 0 32 = (r : Int) := by rw [g_k (by decide), g_k (by decide)]; exact h9
  rw [e32, awA (r := r) (w := w) ⟨hr, hw⟩, if_pos (by omega), tn] at cM
  have y1 : SYN A B n th r base lo p p F 0 0 s Sc (wD (wD (wD Sm 85 0 58 0) 85 0 59 0) 125 0 (2 * r + w) 0) := SYN_m h h.2.2.2.2.1 (by rw [g_f (by decide), g_k (by decide), g_k (by decide)]; exact h.2.2.2.1) (fun k hk _ => by rw [g_f (by decide), g_k (by omega), g_k (by omega)]) (fun g hg k => by rw [g_f (by omega), g_f (by omega), g_f (by omega)])
  have y5 : MFr r w Sm (wD (wD (wD Sm 85 0 58 0) 85 0 59 0) 125 0 (2 * r + w) 0) := MFr_w (MFr_w (MFr_w MFr_rf (Or.inl ⟨rfl, by decide, by decide⟩)) (Or.inl ⟨rfl, by decide, by decide⟩)) (Or.inr (Or.inr (Or.inl ⟨rfl, rfl⟩)))
  rcases (PFT (base := base) (lo := lo) (d' := d') (by omega) hn hA hr hw hth (2 * (n - p) + 2)).2 (d - 1) p F 0 0 s [] 0 false false 0 999999 999999 Sc _ (by omega) y1 ⟨g_e, fun k hk => absurd hk (Nat.not_lt_zero _), fun i hi => absurd hi (Nat.not_lt_zero _)⟩ ⟨by rw [g_f (by decide), g_e]; rfl, trivial⟩ (Or.inl rfl) (by rw [g_f (by decide), g_k (by decide), g_e]; rfl) (by omega) (by omega) (by show 2 * (base + 0 + 0 + 0) + 4 ≤ p; omega) (by show 0 ≤ _; omega) (by omega) (by omega) (by omega) with f | ⟨S1, M1, p1, F1, L1, s1, an, or, m1, k1, k2, k3, k4, k5, k6, k7, k8, k9, k10, k11, k12, k13⟩
  · exact Or.inl (FAILo_tr f FRc_rf (MFr_F y5 hw) (fun S e => eC Sc _ e) (fun S e => cM.trans e))
  · refine Or.inr ?_
    have hp1 : p1 ≤ n := k6.2.2.2.2.2.1
    have hs1 := sk_n (B := B) hp1
    have hsl1 := skp_le (B := B) (n := n) (p := p1)
    have hpl := pend_l (an := an) (or := or)
    have hpl2 : (pend an or).length ≤ 2 := by rw [hpl]; cases an <;> cases or <;> decide
    have k8 : STK (pend an or) M1 := by rw [List.append_nil] at k8; exact k8
    have k13 : 2 * (base + L1 + (pend an or).length + 0) + 4 ≤ p1 := k13
    obtain ⟨m1, rfl⟩ : ∃ k, m1 = k + 1 := ⟨m1 - 1, by omega⟩
    have cN := b242_127 oo (EE false d') m1 M1 (w : Int)
    have hS1 : STK (pend an or) (wD M1 85 0 53 (skp B n p1 : Int)) := STK_k k8 (by decide)
    have mw6 : EE false d' 227 [vr (some (85, 0)), vl 6385252] (wD M1 85 0 53 (skp B n p1 : Int)) = some (vi (bi (WRD B n 6 p1)), wD M1 85 0 53 (skp B n p1 : Int)) := by
      have := q_wordM (d := d') (j := 6) (p := skp B n p1) (by omega) hn hA (TPm_w k6.2.1 (by decide)) (by decide) (by omega) g_e
      rw [skp_sk, wD_ww, WRD_s] at this
      exact this
    have mw7 : EE false d' 227 [vr (some (85, 0)), vl 28530] (wD M1 85 0 53 (skp B n p1 : Int)) = some (vi (bi (WRD B n 7 p1)), wD M1 85 0 53 (skp B n p1 : Int)) := by
      have := q_wordM (d := d') (j := 7) (p := skp B n p1) (by omega) hn hA (TPm_w k6.2.1 (by decide)) (by decide) (by omega) g_e
      rw [skp_sk, wD_ww, WRD_s] at this
      exact this
    have qb := q_inBr0 (d := d') (by omega) hS1 (by omega) (fun q => pend_4 _ q rfl)
    have cN : run oo (EE false d') false mi_242 (m1 + 1) 127 [(0, vr (some (85, 0))), (1, vi (w : Int))] [] M1 = run oo (EE false d') false mi_242 m1 311 [(0, vr (some (85, 0))), (1, vi (w : Int))] [] (wD M1 85 0 53 (skp B n p1 : Int)) := by
      rw [cN, q_see (by omega) hn hA k6.2.1 (by omega) k6.2.2.2.1, b_I]
      by_cases cb : bt B n (skp B n p1) = 93
      · rw [if_pos cb, qb, b_I, if_pos rfl, mw6, b_I, k10, if_pos bi_f, mw7, b_I, k11, if_pos bi_f, qb, b_I, if_pos rfl]
      · rw [if_neg cb, mw6, b_I, k10, if_pos bi_f, mw7, b_I, k11, if_pos bi_f, qb, b_I, if_pos rfl]
    obtain ⟨M2, r1, r2, r3⟩ := R311 (d' := d') (by omega) hr hw (pend an or) (wD M1 85 0 53 (skp B n p1 : Int)) L1 s1 m1 (by omega) (by omega) (by rw [g_k (by decide)]; exact k6.2.2.2.2.2.2.2.2.1) hS1 (TSL_nx k7) (by omega)
    exact ⟨S1, M2, skp B n p1, F1, L1 + (pend an or).length, ext s1 L1 (pend an or), eC Sc _ k1, cM.trans (k2.trans (cN.trans r1)), k4, MFr_tr (MFr_tr y5 (MFr_nx k5)) r2.1, SYN_mov (SYN_nx k6 hs1) r2, r3, by omega⟩
end
