/-! rule: both sides at one place of the tape -/
section
variable {d : Nat} {A B : Nat → Int} {n : Nat} {th : Int}
def FCT (th : Int) (r k : Nat) (Sc Sm : SD) : Prop := (gD Sm 127 0 (16 * r + k)) = (gD Sc 48 r k) ∧ 0 ≤ (gD Sc 48 r k) ∧ (gD Sc 48 r k) ≤ 3
    ∧ (gD Sm 128 0 (16 * r + k)) = (gD Sc 49 r k) ∧ 0 ≤ (gD Sc 49 r k) ∧ (gD Sc 49 r k) < th
    ∧ (gD Sm 129 0 (16 * r + k)) = (gD Sc 50 r k) ∧ ((gD Sc 48 r k) ≠ 3 → 0 ≤ (gD Sc 50 r k) ∧ (gD Sc 50 r k) ≤ 2)
    ∧ ((gD Sc 48 r k) = 1 ∨ (gD Sc 48 r k) = 2 → (gD Sm 130 0 (16 * r + k)) = (gD Sc 51 r k) ∧ 1 ≤ (gD Sc 51 r k) ∧ (gD Sc 51 r k) ≤ 60)
    ∧ (gD Sm 131 0 (16 * r + k)) = (gD Sc 52 r k) ∧ 0 ≤ (gD Sc 52 r k) ∧ (gD Sc 52 r k) ≤ 4
    ∧ (gD Sm 132 0 (16 * r + k)) = (gD Sc 53 r k) ∧ -999999 ≤ (gD Sc 53 r k) ∧ (gD Sc 53 r k) ≤ 999999
theorem FCT_cg {r k : Nat} {Sc Sm Sc' Sm' : SD} (h1 : ∀ g, 48 ≤ g → g ≤ 53 → gD Sc' g r k = gD Sc g r k) (h2 : ∀ g, 127 ≤ g → g ≤ 132 → gD Sm' g 0 (16 * r + k) = gD Sm g 0 (16 * r + k)) (h : FCT th r k Sc Sm) : FCT th r k Sc' Sm' := by
  unfold FCT at *
  rw [h1 48 (by decide) (by decide), h1 49 (by decide) (by decide), h1 50 (by decide) (by decide), h1 51 (by decide) (by decide), h1 52 (by decide) (by decide), h1 53 (by decide) (by decide), h2 127 (by decide) (by decide), h2 128 (by decide) (by decide), h2 129 (by decide) (by decide), h2 130 (by decide) (by decide), h2 131 (by decide) (by decide), h2 132 (by decide) (by decide)]
  exact h
def SYN (A B : Nat → Int) (n : Nat) (th : Int) (r base : Nat) (lo : Int) (p q F L dd : Nat) (s : Nat → Int) (Sc Sm : SD) : Prop := TPc B n Sc ∧ TPm A n Sm ∧ (gD Sc 29 0 4) = (p : Int) ∧ (gD Sm 85 0 53) = (q : Int) ∧ p ≤ n ∧ q ≤ n ∧ (gD Sm 85 0 54) = 0 ∧ gR Sc 29 0 3 = some (47, r) ∧ (gD Sm 85 0 32) = (r : Int) ∧ (gD Sc 3 0 10) = th ∧ (gD Sm 85 0 6) = th
  ∧ (gD Sc 47 r 7) = (F : Int) ∧ F ≤ 16 ∧ (gD Sm 123 0 r) = (F : Int) ∧ (∀ k, k < F → FCT th r k Sc Sm) ∧ (gD Sc 47 r 9) = ((base + L : Nat) : Int) ∧ (∀ k : Nat, k < L → (gD Sc 54 r (base + k)) = s k) ∧ stD s lo 16 L = some (dd, F)
theorem stD_cg {s s' : Nat → Int} {lo hi : Int} : ∀ {L : Nat}, (∀ k, k < L → s' k = s k) → stD s' lo hi L = stD s lo hi L
  | 0, _ => rfl
  | L + 1, h => by
    unfold stD
    rw [stD_cg (fun k hk => h k (by omega)), h L (by omega)]
theorem stD_f {s : Nat → Int} {lo : Int} {L dd F : Nat} (h : stD s lo 16 L = some (dd, F)) (hs : s L = (F : Int)) (hF : F < 16) : stD s lo 16 (L + 1) = some (dd + 1, F + 1) := by
  unfold stD
  rw [h]
  show (if s L = (F : Int) ∧ (F : Int) < 16 then _ else _) = _
  rw [if_pos ⟨hs, by omega⟩]
theorem stD_n {s : Nat → Int} {lo : Int} {L dd F : Nat} (h : stD s lo 16 L = some (dd, F)) (hs : s L = -1) (hd : 1 ≤ dd) : stD s lo 16 (L + 1) = some (dd, F) := by
  unfold stD
  rw [h]
  show (if s L = (F : Int) ∧ (F : Int) < 16 then _ else if s L = -1 ∧ 1 ≤ dd then _ else _) = _
  rw [if_neg (by omega), if_pos ⟨hs, hd⟩]
theorem stD_b {s : Nat → Int} {lo : Int} {L dd F : Nat} (h : stD s lo 16 L = some (dd, F)) (hs : s L = -2 ∨ s L = -3) (hd : 2 ≤ dd) : stD s lo 16 (L + 1) = some (dd - 1, F) := by
  unfold stD
  rw [h]
  show (if s L = (F : Int) ∧ (F : Int) < 16 then _ else if s L = -1 ∧ 1 ≤ dd then _ else if (s L = -2 ∨ s L = -3) ∧ 2 ≤ dd then _ else _) = _
  rw [if_neg (by omega), if_neg (by omega), if_pos ⟨hs, hd⟩]
def xt (s : Nat → Int) (L : Nat) (v : Int) (k : Nat) : Int := if k = L then v else s k
theorem xt_l {s : Nat → Int} {L k : Nat} {v : Int} (h : k < L) : xt s L v k = s k := by unfold xt; rw [if_neg (by omega)]
theorem xt_e {s : Nat → Int} {L : Nat} {v : Int} : xt s L v L = v := by unfold xt; rw [if_pos rfl]
/-- the class adds a joint -/
theorem SYN_add {r base p q F L dd dd' : Nat} {lo v : Int} {s : Nat → Int} {Sc Sm : SD} (hd : 1 ≤ d) (h : SYN A B n th r base lo p q F L dd s Sc Sm) (hz : base + L < 128) (hs : stD (xt s L v) lo 16 (L + 1) = some (dd', F)) : ∃ S', EE false d 70 [vr (some (29, 0)), vi v] Sc = some (vi 0, S') ∧ CFr r base Sc S' ∧ SYN A B n th r base lo p q F (L + 1) dd' (xt s L v) S' Sm := by
  obtain ⟨h1, h2, h3, h4, h5, h6, h7, h8, h9, h10, h11, h12, h13, h14, h15, h16, h17, h18⟩ := h
  refine ⟨_, q_addStep hd h8 h16 hz v, ⟨FRc_w (FRc_w FRc_rf (Or.inr ⟨by decide, by decide, rfl⟩)) (Or.inr ⟨by decide, by decide, rfl⟩), fun k hk => ?_, fun k k7 k9 => ?_⟩, ⟨⟨?_, fun k => ?_⟩, h2, ?_, h4, h5, h6, h7, h8, h9, ?_, h11, ?_, h13, h14, fun k hk => ?_, ?_, fun k hk => ?_, hs⟩⟩
  · rw [g_f (by decide), g_i, if_neg (by omega)]
  · rw [g_k k9, g_f (by decide)]
  · rw [g_f (by decide), g_f (by decide)]; exact h1.1
  · rw [g_f (by decide), g_f (by decide)]; exact h1.2 k
  · rw [g_f (by decide), g_f (by decide)]; exact h3
  · rw [g_f (by decide), g_f (by decide)]; exact h10
  · rw [g_k (by decide), g_f (by decide)]; exact h12
  · exact FCT_cg (fun g a b => by rw [g_f (by omega), g_f (by omega)]) (fun g a b => rfl) (h15 k hk)
  · rw [g_e]; rfl
  · rw [g_f (by decide), g_i]
    unfold xt
    by_cases e : k = L
    · rw [if_pos (by omega), if_pos e]
    · rw [if_neg (by omega), if_neg e]
      exact h17 k (by omega)
/-- the class's place alone moves -/
theorem SYN_pl {r base p q p' F L dd : Nat} {lo : Int} {s : Nat → Int} {Sc Sm : SD} (h : SYN A B n th r base lo p q F L dd s Sc Sm) (hp : p' ≤ n) : SYN A B n th r base lo p' q F L dd s (wD Sc 29 0 4 (p' : Int)) Sm := by
  obtain ⟨h1, h2, h3, h4, h5, h6, h7, h8, h9, h10, h11, h12, h13, h14, h15, h16, h17, h18⟩ := h
  exact ⟨TPc_w h1 (by decide), h2, g_e, h4, hp, h6, h7, h8, h9, by rw [g_f (by decide)]; exact h10, h11, by rw [g_f (by decide)]; exact h12, h13, h14, fun k hk => FCT_cg (fun g a b => by rw [g_f (by omega)]) (fun g a b => rfl) (h15 k hk), by rw [g_f (by decide)]; exact h16, fun k hk => by rw [g_f (by decide)]; exact h17 k hk, h18⟩
theorem CFr_pl {r base : Nat} {S S1 : SD} {v : Int} (h : CFr r base S S1) : CFr r base S (wD S1 29 0 4 v) := CFr_tr h (CFr_G (C := [(29, 4)]) (EqG_wC EqG_rf (by decide)) rfl)
/-- the reference changes what SYN doesn't see -/
theorem SYN_m {r base p q q' F L dd : Nat} {lo : Int} {s : Nat → Int} {Sc Sm Sm' : SD} (h : SYN A B n th r base lo p q F L dd s Sc Sm) (hq : q' ≤ n) (hn : (gD Sm' 85 0 53) = (q' : Int)) (h1 : ∀ k, k < 58 → k ≠ 53 → gD Sm' 85 0 k = gD Sm 85 0 k) (h2 : ∀ g, g = 112 ∨ g = 123 ∨ (127 ≤ g ∧ g ≤ 132) → ∀ k, gD Sm' g 0 k = gD Sm g 0 k) : SYN A B n th r base lo p q' F L dd s Sc Sm' := by
  obtain ⟨a1, a2, a3, a4, a5, a6, a7, a8, a9, a10, a11, a12, a13, a14, a15, a16, a17, a18⟩ := h
  exact ⟨a1, ⟨(h1 31 (by decide) (by decide)).trans a2.1, fun k => (h2 112 (by omega) k).trans (a2.2 k)⟩, a3, hn, a5, hq, (h1 54 (by decide) (by decide)).trans a7, a8, (h1 32 (by decide) (by decide)).trans a9, a10, (h1 6 (by decide) (by decide)).trans a11, a12, a13, (h2 123 (by omega) r).trans a14, fun k hk => FCT_cg (fun g a b => rfl) (fun g a b => h2 g (by omega) _) (a15 k hk), a16, a17, a18⟩
theorem cok_e {F p : Nat} (h : COK B n th F p = true) : kd B n p ≠ -1 ∧ F < 16 ∧ TOK B n th (c1p B n p) = true ∧ (kd B n p = 3 ∨ FOK B n (c2p B n p) = true) ∧ ((kd B n p = 0 ∨ kd B n p = 3) ∨ NOK B n (c3p B n p) = true) ∧ SOK B n (c4p B n p) = true ∧ UOK B n (c5p B n p) = true := by
  unfold COK tlK at h
  have h1 := (Bool.and_eq_true _ _).mp h
  have h2 := of_decide_eq_true h1.1
  have h3 := (Bool.and_eq_true _ _).mp h1.2
  have h4 := (Bool.and_eq_true _ _).mp h3.2
  have h5 := (Bool.or_eq_true _ _).mp h4.1
  have h6 := (Bool.and_eq_true _ _).mp h4.2
  have h7 := (Bool.or_eq_true _ _).mp h6.1
  have h8 := (Bool.and_eq_true _ _).mp h6.2
  exact ⟨h2.1, h2.2, h3.1, h5.imp (fun q => of_decide_eq_true q) id, h7.imp (fun q => of_decide_eq_true q) id, h8.1, h8.2⟩
theorem cok_n {F p : Nat} (hp : p ≤ n) (h : COK B n th F p = true) : c6p B n p ≤ n ∧ p + 2 ≤ c6p B n p := by
  obtain ⟨h1, h2, h3, h4, h5, h6, h7⟩ := cok_e h
  obtain ⟨a1, a2⟩ := c1p_n (B := B) hp h1
  obtain ⟨b1, b2, _⟩ := tnx_n h3
  have b1 : c2p B n p ≤ n := b1
  have b2 : c1p B n p + 2 ≤ c2p B n p := b2
  have c1 : c3p B n p ≤ n ∧ c2p B n p ≤ c3p B n p := by
    unfold c3p
    by_cases e : kd B n p = 3
    · rw [if_pos e]; exact ⟨b1, Nat.le_refl _⟩
    · obtain ⟨u1, u2, _⟩ := FOK_n (h4.resolve_left e)
      rw [if_neg e]; exact ⟨u1, u2⟩
  have c2 : c4p B n p ≤ n ∧ c3p B n p ≤ c4p B n p := by
    unfold c4p
    by_cases e : kd B n p = 1 ∨ kd B n p = 2
    · obtain ⟨u1, u2, _⟩ := NOK_n c1.1 (h5.resolve_left (by omega))
      rw [if_pos e]; exact ⟨u1, u2⟩
    · rw [if_neg e]; exact ⟨c1.1, Nat.le_refl _⟩
  have c3 := snx_n c2.1 h6
  have c4 := UOK_n c3.1 h7
  have c4a : c6p B n p ≤ n := c4.1
  have c4b : c5p B n p ≤ c6p B n p := c4.2.1
  have c3b : c4p B n p < c5p B n p := c3.2
  exact ⟨c4a, by omega⟩
theorem cfl_b {F p : Nat} (hn : n ≤ 200) (hp : p ≤ n) : 1 ≤ cfl B n th F p ∧ cfl B n th F p ≤ 100000 := by
  have db : ∀ q : Nat, q ≤ 400 → 1 ≤ dfl B n q ∧ dfl B n q ≤ 5000 := fun q hq => by
    unfold dfl
    by_cases e : de B n q = q
    · rw [if_pos e]; omega
    · rw [if_neg e]; omega
  have hs := sk_n (B := B) hp
  unfold cfl
  by_cases k : kd B n p = -1
  · rw [if_pos k]; omega
  · obtain ⟨a1, a2⟩ := c1p_n (B := B) hp k
    have hs1 := sk_n (B := B) a1
    rw [if_neg k]
    by_cases f : F < 16
    · rw [if_pos f]
      cases hT : TOK B n th (c1p B n p) with
      | false =>
        rw [if_neg (by decide)]
        unfold tfl
        have := db (skp B n (c1p B n p) + 1) (by omega)
        (repeat (any_goals split)) <;> omega
      | true =>
        obtain ⟨b1, b2, _⟩ := tnx_n hT
        have b1 : c2p B n p ≤ n := b1
        rw [if_pos rfl]
        cases hF : (decide (kd B n p = 3) || FOK B n (c2p B n p)) with
        | false =>
          rw [if_neg (by decide)]
          unfold ffl
          have := db (c2p B n p + 2) (by omega)
          (repeat (any_goals split)) <;> omega
        | true =>
          rw [if_pos rfl]
          have c1 : c3p B n p ≤ n := by
            unfold c3p
            by_cases e : kd B n p = 3
            · rw [if_pos e]; exact b1
            · rw [decide_eq_false e, Bool.false_or] at hF
              rw [if_neg e]; exact (FOK_n hF).1
          have hs3 := sk_n (B := B) c1
          cases hN : (decide (kd B n p = 0 ∨ kd B n p = 3) || NOK B n (c3p B n p)) with
          | false =>
            rw [if_neg (by decide)]
            have := db (skp B n (c3p B n p)) (by omega)
            omega
          | true =>
            rw [if_pos rfl]
            have c2 : c4p B n p ≤ n := by
              unfold c4p
              by_cases e : kd B n p = 1 ∨ kd B n p = 2
              · have : ¬ (kd B n p = 0 ∨ kd B n p = 3) := by omega
                rw [decide_eq_false this, Bool.false_or] at hN
                rw [if_pos e]; exact (NOK_n c1 hN).1
              · rw [if_neg e]; exact c1
            unfold tlF
            have hs4 := sk_n (B := B) c2
            cases hS : SOK B n (c4p B n p) with
            | false => rw [if_neg (by decide)]; omega
            | true =>
              have c3 := snx_n c2 hS
              have c4 := ust_n (B := B) c3.1
              have := db (ust B n (snx B n (c4p B n p))) (by omega)
              rw [if_pos rfl]; omega
    · rw [if_neg f]; omega
/-- how both fail -/
def FAILo (r : Nat) (oC oM : Option RR) (Sc Sm : SD) : Prop := ∃ S' M' fl, oC = some (vi 0, S') ∧ oM = some (vi 0, M') ∧ FRc r Sc S' ∧ FRm r Sm M' ∧ gD S' 29 0 5 = fl ∧ gD M' 85 0 54 = fl ∧ 1 ≤ fl ∧ fl ≤ 100000
theorem FAILo_tr {r : Nat} {oC oM oC' oM' : Option RR} {Sc Sm Sc1 Sm1 : SD} (h : FAILo r oC oM Sc1 Sm1) (x1 : FRc r Sc Sc1) (x2 : FRm r Sm Sm1) (e1 : ∀ S, oC = some (vi 0, S) → oC' = some (vi 0, S)) (e2 : ∀ S, oM = some (vi 0, S) → oM' = some (vi 0, S)) : FAILo r oC' oM' Sc Sm := by
  obtain ⟨S', M', fl, h1, h2, h3, h4, h5⟩ := h
  exact ⟨S', M', fl, e1 _ h1, e2 _ h2, FRc_tr x1 h3, FRm_tr x2 h4, h5⟩
/-- a comparison, on both sides -/
theorem L_cmp {d' : Nat} {r base w p F L dd : Nat} {lo : Int} {s : Nat → Int} {Sc Sm : SD} (hd : 6 ≤ d) (hd' : 6 ≤ d') (hn : n ≤ 200) (hA : TAB A B) (hr : r < 20) (hth : 0 ≤ th) (h : SYN A B n th r base lo p p F L dd s Sc Sm) (hL : base + L < 128) : FAILo r (EE false d 74 [vr (some (29, 0))] Sc) (EE false d' 236 [vr (some (85, 0))] Sm) Sc Sm ∨ ∃ S' M' p', EE false d 74 [vr (some (29, 0))] Sc = some (vi 1, S') ∧ EE false d' 236 [vr (some (85, 0))] Sm = some (vi 1, M') ∧ CFr r base Sc S' ∧ ONF (16 * r + F) r Sm M' ∧ F < 16 ∧ SYN A B n th r base lo p' p' (F + 1) (L + 1) (dd + 1) (xt s L (F : Int)) S' M' ∧ p + 2 ≤ p' := by
  obtain ⟨h1, h2, h3, h4, h5, h6, h7, h8, h9, h10, h11, h12, h13, h14, h15, h16, h17, h18⟩ := h
  obtain ⟨S', i1, i2, i3, i4⟩ := q_cmpC (d := d) (th := th) (z := base + L) hd hn h1 h5 h3 h10 h8 h12 h16 hL
  obtain ⟨M', j1, j2, j3, j4⟩ := q_cmpM (d := d') (th := th) hd' hn hA h2 h5 h4 h11 h7 hr h9 h14 h13
  cases hC : COK B n th F p with
  | false =>
    rw [hC] at i1 j1
    obtain ⟨b1, b2⟩ := cfl_b (B := B) (th := th) (F := F) hn h5
    exact Or.inl ⟨S', M', _, i1, j1, i2, ONF_F j2 rfl (by omega), i4 hC, j4 hC, b1, b2⟩
  | true =>
    rw [hC] at i1 j1
    obtain ⟨e1, hF, e3, e4, e5, e6, e7⟩ := cok_e hC
    rw [show min F 15 = F by omega] at j2
    obtain ⟨n1, n2⟩ := cok_n h5 hC
    obtain ⟨k1, k2, k3, k4, k5, k6, k7, k8, k9, k10, k11⟩ := i3 hC
    obtain ⟨l1, l2, l3, l4, l5, l6, l7, l8, l9⟩ := j3 hC
    refine Or.inr ⟨S', M', c6p B n p, i1, j1, ⟨i2, fun k hk => ?_, fun k q7 q9 => ?_⟩, j2, hF, ⟨FRc_T i2 h1, ONF_T j2 h2, k1, l1, n1, n1, l2, (by show S'.2.1 29 0 3 = _; rw [i2.1]; exact h8), ?_, ?_, ?_, k3, by omega, l3, fun k hk => ?_, k4, fun k hk => ?_, ?_⟩, n2⟩
    · rw [k5, if_neg (by omega)]
    · exact k2.1.2 47 r k (fun q => absurd q (by decide)) (fun q => by
        simp only [CCC, List.mem_cons, List.not_mem_nil, Prod.mk.injEq, or_false] at q
        omega)
    · rw [j2.2 85 0 32 (by unfold ofm; omega)]; exact h9
    · rw [EqX_c k2.1 3 10 rfl]; exact h10
    · rw [j2.2 85 0 6 (by unfold ofm; omega)]; exact h11
    · by_cases e : k = F
      · subst e
        obtain ⟨a1, a2⟩ := c1p_n (B := B) h5 e1
        obtain ⟨t1, t2, t3, t4⟩ := tnx_n e3
        have hk := kd_r (B := B) (n := n) (p := p)
        have c3n : c3p B n p ≤ n := by
          unfold c3p
          by_cases e : kd B n p = 3
          · rw [if_pos e]; exact t1
          · rw [if_neg e]; exact (FOK_n (e4.resolve_left e)).1
        have c4n : c4p B n p ≤ n := by
          unfold c4p
          by_cases e : kd B n p = 1 ∨ kd B n p = 2
          · rw [if_pos e]; exact (NOK_n c3n (e5.resolve_left (by omega))).1
          · rw [if_neg e]; exact c3n
        have u5 := UOK_n (snx_n c4n e6).1 e7
        have sv := svl_r (B := B) (n := n) (p := c4p B n p)
        unfold FCT
        rw [k6, k7, k8, k9, k10, k11, if_pos rfl, if_pos rfl, if_pos rfl, if_pos rfl, if_pos rfl, if_pos rfl]
        refine ⟨l4, by omega, by omega, l5, t3, t4, l6, fun q => ?_, fun q => ⟨l7 q, ?_⟩, l8, sv.1, sv.2, l9, u5.2.2.1, u5.2.2.2⟩
        · have := FOK_n (e4.resolve_left q)
          unfold crf
          rw [if_neg q]
          exact ⟨this.2.2.1, this.2.2.2⟩
        · have := NOK_n c3n (e5.resolve_left (by omega))
          unfold crr
          rw [if_pos q]
          exact ⟨this.2.2.1, this.2.2.2⟩
      · refine FCT_cg (fun g a b => ?_) (fun g a b => j2.2 g 0 _ (by unfold ofm; omega)) (h15 k (by omega))
        have : g = 48 ∨ g = 49 ∨ g = 50 ∨ g = 51 ∨ g = 52 ∨ g = 53 := by omega
        rcases this with rfl | rfl | rfl | rfl | rfl | rfl
        · rw [k6, if_neg e]
        · rw [k7, if_neg e]
        · rw [k8, if_neg e]
        · rw [k9, if_neg e]
        · rw [k10, if_neg e]
        · rw [k11, if_neg e]
    · rw [k5]
      unfold xt
      by_cases e : k = L
      · rw [if_pos (by omega), if_pos e]
      · rw [if_neg (by omega), if_neg e]
        exact h17 k (by omega)
    · exact stD_f (by rw [stD_cg (fun k hk => xt_l hk)]; exact h18) xt_e hF
end
