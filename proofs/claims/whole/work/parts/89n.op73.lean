/-! rule: a fact and a test, by induction over the tape -/
section
variable {A B : Nat → Int} {n : Nat} {th : Int}
theorem nno_app : ∀ (l t : List Int), nno (l ++ t) = nno l + nno t
  | [], t => by show nno t = 0 + nno t; omega
  | x :: l, t => by
    show (if x = -4 then 0 else 1) + nno (l ++ t) = (if x = -4 then 0 else 1) + nno l + nno t
    rw [nno_app l t]; omega
theorem nno_rep : ∀ a : Nat, nno (List.replicate a (-1)) = a
  | 0 => rfl
  | a + 1 => by
    show (if (-1 : Int) = -4 then 0 else 1) + nno (List.replicate a (-1)) = a + 1
    rw [nno_rep a, if_neg (by decide)]; omega
theorem nno_pend {an or : Bool} : nno (pend an or) = (pend an or).length := by cases an <;> cases or <;> rfl
theorem awn3 {j : Nat} (h : j < 1000000) : aw oo ((j : Int) + 3) = ((j + 3 : Nat) : Int) := by rw [aw_id (by omega)]; rfl
theorem TSL_neg {r w L a : Nat} {s : Nat → Int} {S : SD} (h : TSL r w L (a + 1) s S) : TSL r w (L + 1) a (xt s L (-1)) S := by
  obtain ⟨h1, h2, h3⟩ := h
  refine ⟨by rw [h1]; omega, fun k hk => ?_, fun i hi => ?_⟩
  · by_cases e : k = L
    · rw [e, xt_e]
      exact h3 0 (by omega)
    · rw [xt_l (by omega)]
      exact h2 k (by omega)
  · have := h3 (i + 1) (by omega)
    rw [show 200 * r + 100 * w + (L + 1) + i = 200 * r + 100 * w + L + (i + 1) by omega]
    exact this
theorem q_opens5 {d : Nat} {S : SD} {q : Nat} (hd : 2 ≤ d) (hdp : (gD S 85 0 58) = 5) (hq : q ≤ 1000) (hpl : (gD S 85 0 53) = (q : Int)) (h0 : (gD S 85 0 54) = 0) (x : Int) : EE false d 241 [vr (some (85, 0)), vi x] S = some (vi 0, wD S 85 0 54 (1 + 8 * (q : Int) + 2)) := by
  rw [E241 (by omega), b241_0, if_pos hdp, hpl, q_fails (by omega) 2 q hq (by omega) h0, b_I, if_pos (Or.inl rfl)]
/-- what waits within brackets is laid down -/
theorem R143 {d' r w : Nat} {l : List Int} (hd : 3 ≤ d') (hr : r < 20) (hw : w < 2) (hl : l.length ≤ 190) : ∀ (P : List Int) (M : SD) (L : Nat) (s : Nat → Int) (m : Nat), (∀ x, x ∈ P → x ≠ -4) → P.length ≤ 3 → P.length < m → (gD M 85 0 32) = (r : Int) → STK (P ++ (-4) :: l) M → TSL r w L 0 s M → L + P.length ≤ 100 → ∃ M2, run oo (EE false d') false mi_242 m 143 [(0, vr (some (85, 0))), (1, vi (w : Int))] [] M = run oo (EE false d') false mi_242 (m - P.length) 143 [(0, vr (some (85, 0))), (1, vi (w : Int))] [] M2 ∧ MOV r w M M2 ∧ STK ((-4) :: l) M2 ∧ TSL r w (L + P.length) 0 (ext s L P) M2
  | [], M, L, s, m, _, _, _, _, h2, h3, _ => ⟨M, rfl, MOV_rf, h2, h3⟩
  | x :: P, M, L, s, m, hx, h3l, hm, hrs, hS, hT, hL => by
    have h3l : P.length + 1 ≤ 3 := h3l
    have hm : P.length + 1 < m := hm
    have hL : L + (P.length + 1) ≤ 100 := hL
    have hS : STK (x :: (P ++ (-4) :: l)) M := hS
    have hlen : (P ++ (-4) :: l).length ≤ 200 := by
      rw [List.length_append]
      show P.length + (l.length + 1) ≤ 200
      omega
    obtain ⟨m, rfl⟩ : ∃ k, m = k + 1 := ⟨m - 1, by omega⟩
    obtain ⟨M1, j1, j2, j3, j4⟩ := R_pop (d := d') (by omega) hr hw hrs hS hlen hT (by omega)
    obtain ⟨M2, i1, i2, i3, i4⟩ := R143 hd hr hw hl P M1 (L + 1) _ m (fun y hy => hx y (List.mem_cons_of_mem _ hy)) (by omega) (by omega) ((j2.2.1 32 (by decide)).trans hrs) j3 j4 (by omega)
    refine ⟨M2, ?_, MOV_tr j2 i2, i3, ?_⟩
    · rw [b242_143, q_isOpen (by omega) hS (by show (P ++ (-4) :: l).length + 1 ≤ 210; omega), b_I, if_neg (show ¬ (x :: (P ++ (-4) :: l)).head? = some (-4) from fun q => hx x List.mem_cons_self (Option.some.inj q)), if_pos rfl, j1, b_V, i1, show m + 1 - (x :: P).length = m - P.length from by show m + 1 - (P.length + 1) = _; omega]
    · rw [show L + (x :: P).length = L + 1 + P.length from by show L + (P.length + 1) = _; omega]
      exact i4
/-- what waits at the end is laid down -/
theorem R311 {d' r w : Nat} (hd : 3 ≤ d') (hr : r < 20) (hw : w < 2) : ∀ (P : List Int) (M : SD) (L : Nat) (s : Nat → Int) (m : Nat), P.length ≤ 3 → P.length < m → (gD M 85 0 32) = (r : Int) → STK P M → TSL r w L 0 s M → L + P.length ≤ 100 → ∃ M2, run oo (EE false d') false mi_242 m 311 [(0, vr (some (85, 0))), (1, vi (w : Int))] [] M = some (vi 1, M2) ∧ MOV r w M M2 ∧ TSL r w (L + P.length) 0 (ext s L P) M2
  | [], M, L, s, m, _, hm, _, h2, h3, _ => by
    obtain ⟨m, rfl⟩ : ∃ k, m = k + 1 := ⟨m - 1, by have : 0 < m := hm; omega⟩
    refine ⟨M, ?_, MOV_rf, h3⟩
    have : (gD M 85 0 59) = 0 := h2.1
    rw [b242_311, if_neg (by omega)]
  | x :: P, M, L, s, m, h3l, hm, hrs, hS, hT, hL => by
    have h3l : P.length + 1 ≤ 3 := h3l
    have hm : P.length + 1 < m := hm
    have hL : L + (P.length + 1) ≤ 100 := hL
    obtain ⟨m, rfl⟩ : ∃ k, m = k + 1 := ⟨m - 1, by omega⟩
    obtain ⟨M1, j1, j2, j3, j4⟩ := R_pop (d := d') (by omega) hr hw hrs hS (by omega) hT (by omega)
    obtain ⟨M2, i1, i2, i4⟩ := R311 hd hr hw P M1 (L + 1) _ m (by omega) (by omega) ((j2.2.1 32 (by decide)).trans hrs) j3 j4 (by omega)
    have hz : (gD M 85 0 59) = ((P.length + 1 : Nat) : Int) := hS.1
    refine ⟨M2, ?_, MOV_tr j2 i2, ?_⟩
    · rw [b242_311, if_pos (by omega), j1, b_V, i1]
    · rw [show L + (x :: P).length = L + 1 + P.length from by show L + (P.length + 1) = _; omega]
      exact i4
theorem TSL_O {r w L a f : Nat} {s : Nat → Int} {S S' : SD} (o : ONF f r S S') (h : TSL r w L a s S) : TSL r w L a s S' := by
  have hh : ∀ g k, g = 125 ∨ g = 126 → gD S' g 0 k = gD S g 0 k := fun g k hg => o.2 g 0 k (by unfold ofm; omega)
  exact ⟨(hh _ _ (Or.inl rfl)).trans h.1, fun k hk => (hh _ _ (Or.inr rfl)).trans (h.2.1 k hk), fun i hi => (hh _ _ (Or.inr rfl)).trans (h.2.2 i hi)⟩
theorem STK_O {r f : Nat} {l : List Int} {S S' : SD} (o : ONF f r S S') (h : STK l S) : STK l S' :=
  ⟨(o.2 85 0 59 (by unfold ofm; omega)).trans h.1, stk_cg l (fun k _ => o.2 133 0 k (by unfold ofm; omega)) h.2⟩
def PFs (A B : Nat → Int) (n : Nat) (th : Int) (r base : Nat) (lo : Int) (w d' N : Nat) : Prop := ∀ (d p F L dd : Nat) (s : Nat → Int) (tau : List Int) (a dp m : Nat) (Sc Sm : SD), 2 * (n - p) < N → SYN A B n th r base lo p p F L dd s Sc Sm → TSL r w L 0 s Sm → STK (List.replicate a (-1) ++ tau) Sm → tau.head? ≠ some (-1) → (gD Sm 85 0 58) = (dp : Int) → dp ≤ 5 → a ≤ dp → 2 * (5 - dp) + 7 ≤ d → 2 * (base + L + a + nno tau) + 4 ≤ p → tau.length ≤ nno tau + dp → 20 * (n - p) + 40 ≤ m →
  FAILo r (EE false d 72 [vr (some (29, 0)), vi (dp : Int)] Sc) (run oo (EE false d') false mi_242 m 24 [(0, vr (some (85, 0))), (1, vi (w : Int))] [] Sm) Sc Sm ∨ ∃ S' M' p' F' L' s' m', EE false d 72 [vr (some (29, 0)), vi (dp : Int)] Sc = some (vi 1, S') ∧ run oo (EE false d') false mi_242 m 24 [(0, vr (some (85, 0))), (1, vi (w : Int))] [] Sm = run oo (EE false d') false mi_242 m' 127 [(0, vr (some (85, 0))), (1, vi (w : Int))] [] M' ∧ m ≤ m' + 20 * (p' - p) ∧ CFr r base Sc S' ∧ MFr r w Sm M' ∧ SYN A B n th r base lo p' p' F' L' (dd + 1) s' S' M' ∧ TSL r w L' a s' M' ∧ STK tau M' ∧ (gD M' 85 0 58) = ((dp - a : Nat) : Int) ∧ p + 2 ≤ p' ∧ 2 * (base + L' + a + nno tau) + 4 ≤ p'
def PTs (A B : Nat → Int) (n : Nat) (th : Int) (r base : Nat) (lo : Int) (w d' N : Nat) : Prop := ∀ (d p F L dd0 : Nat) (s : Nat → Int) (sg : List Int) (dp : Nat) (an or : Bool) (i mc m : Nat) (Sc Sm : SD), 2 * (n - p) + 1 < N → SYN A B n th r base lo p p F L (dd0 + (pend an or).length) s Sc Sm → TSL r w L 0 s Sm → STK (pend an or ++ sg) Sm → (sg = [] ∨ ∃ t, sg = (-4) :: t) → (gD Sm 85 0 58) = (dp : Int) → dp ≤ 5 → 2 * (5 - dp) + 7 ≤ d → 2 * (base + L + (pend an or).length + nno sg) + 4 ≤ p → sg.length ≤ nno sg + dp → 2 * i ≤ p → 1000 ≤ mc + i → 20 * (n - p) + 40 ≤ m →
  FAILo r (run oo (EE false d) false mi_71 mc 7 [(0, vr (some (29, 0))), (1, vi (dp : Int)), (2, vi (bi an)), (3, vi (bi or)), (4, vi (i : Int))] [] Sc) (run oo (EE false d') false mi_242 m 24 [(0, vr (some (85, 0))), (1, vi (w : Int))] [] Sm) Sc Sm ∨ ∃ S' M' p' F' L' s' an' or' m', run oo (EE false d) false mi_71 mc 7 [(0, vr (some (29, 0))), (1, vi (dp : Int)), (2, vi (bi an)), (3, vi (bi or)), (4, vi (i : Int))] [] Sc = some (vi 1, S') ∧ run oo (EE false d') false mi_242 m 24 [(0, vr (some (85, 0))), (1, vi (w : Int))] [] Sm = run oo (EE false d') false mi_242 m' 127 [(0, vr (some (85, 0))), (1, vi (w : Int))] [] M' ∧ m ≤ m' + 20 * (p' - p) ∧ CFr r base Sc S' ∧ MFr r w Sm M' ∧ SYN A B n th r base lo (skp B n p') p' F' (L' + (pend an' or').length) (dd0 + 1) (ext s' L' (pend an' or')) S' M' ∧ TSL r w L' 0 s' M' ∧ STK (pend an' or' ++ sg) M' ∧ (gD M' 85 0 58) = (dp : Int) ∧ WRD B n 6 p' = false ∧ WRD B n 7 p' = false ∧ p + 2 ≤ p' ∧ 2 * (base + L' + (pend an' or').length + nno sg) + 4 ≤ p'
theorem PT_step {r base w d' N : Nat} {lo : Int} (hd' : 8 ≤ d') (hn : n ≤ 200) (hA : TAB A B) (hr : r < 20) (hw : w < 2) (ihF : PFs A B n th r base lo w d' N) (ihT : PTs A B n th r base lo w d' N) : PTs A B n th r base lo w d' (N + 1) := by
  intro d p F L dd0 s sg dp an or i mc m Sc Sm hN h hT hS hsg hdp hdp5 hd hb htl hi hmc hm
  have hp : p ≤ n := h.2.2.2.2.1
  obtain ⟨mc, rfl⟩ : ∃ k, mc = k + 1 := ⟨mc - 1, by omega⟩
  have cC := b71_7 oo (EE false d) mc Sc (dp : Int) (bi an) (bi or) (i : Int)
  rw [if_pos (show (i : Int) < 200 by omega)] at cC
  have hnn : nno (pend an or ++ sg) = (pend an or).length + nno sg := by rw [nno_app, nno_pend]
  have hh : (pend an or ++ sg).head? ≠ some (-1) := by
    cases an
    · cases or
      · rcases hsg with rfl | ⟨t, rfl⟩
        · exact fun q => by cases q
        · exact fun q => absurd (Option.some.inj q) (by decide)
      · exact fun q => absurd (Option.some.inj q) (by decide)
    · exact fun q => absurd (Option.some.inj q) (by decide)
  rcases ihF d p F L (dd0 + (pend an or).length) s (pend an or ++ sg) 0 dp m Sc Sm (by omega) h hT hS hh hdp hdp5 (by omega) hd (by omega) (by rw [List.length_append]; omega) hm with f | ⟨S1, M1, p1, F1, L1, s1, m1, k1, k2, k3, k4, k5, k6, k7, k8, k9, k10, k11⟩
  · exact Or.inl (FAILo_tr f FRc_rf FRm_rf (fun S e => by rw [e, b_I, if_pos rfl] at cC; exact cC) (fun S e => e))
  · rw [k1, b_I, if_neg (by decide)] at cC
    have hp1 : p1 ≤ n := k6.2.2.2.2.1
    rcases T_step (d := d) (d' := d') (dp := dp) (m := m1) (mc := mc) (i := i) (by omega) (by omega) hn hA hr hw hsg k6 k7 k8 k9 (by omega) (by omega) (by omega) (by omega) with ⟨S2, M2, m2, p2, an2, or2, L2, s2, t1, t2, t3, t4, t5, t6, t7, t8, t9, t10, t11, t12⟩ | ⟨S2, t1, t4, t6, t7, t8⟩
    · have hp2 : p2 ≤ n := t6.2.2.2.2.1
      have cT := cC.trans t1
      rcases ihT d p2 F1 L2 dd0 s2 sg dp an2 or2 (i + 1) mc m2 S2 M2 (by omega) t6 t7 t8 hsg t9 hdp5 hd (by omega) htl (by omega) (by omega) (by omega) with f | ⟨S3, M3, p3, F3, L3, s3, an3, or3, m3, u1, u2, u3, u4, u5, u6, u7, u8, u9, u10, u11, u12, u13⟩
      · exact Or.inl (FAILo_tr f (CFr_tr k4 t4).1 (MFr_F (MFr_tr k5 t5) hw) (fun S e => cT.trans e) (fun S e => (k2.trans t2).trans e))
      · exact Or.inr ⟨S3, M3, p3, F3, L3, s3, an3, or3, m3, cT.trans u1, (k2.trans t2).trans u2, by omega, CFr_tr (CFr_tr k4 t4) u4, MFr_tr (MFr_tr k5 t5) u5, u6, u7, u8, u9, u10, u11, by omega, u13⟩
    · exact Or.inr ⟨S2, M1, p1, F1, L1, s1, an, or, m1, cC.trans t1, k2, k3, CFr_tr k4 t4, k5, t6, k7, k8, k9, t7, t8, k10, by omega⟩
end
