/-! rule: a comparison, the reference (written by gencmm.py) -/
section
variable {d : Nat} {A B : Nat → Int} {n : Nat} {th : Int}
theorem TPm_A {A' C'} {S S' : SD} (x : EqG A' C' S S') (h1 : (!A'.contains 85 && !C'.contains (85, 31)) = true) (h2 : (!A'.contains 112 && C'.all (fun c => !(c.1 == 112))) = true) (h : TPm A n S) : TPm A n S' :=
  ⟨(EqX_c x.1 85 31 h1 0).trans h.1, fun k => (EqX_a x.1 112 h2 0 k).trans (h.2 k)⟩
def ofm (f r g k : Nat) : Prop := (127 ≤ g ∧ g ≤ 132 ∧ k = f) ∨ (g = 123 ∧ k = r) ∨ (g = 85 ∧ 53 ≤ k ∧ k ≤ 57)
/-- only this fact changes -/
def ONF (f r : Nat) (S S' : SD) : Prop := S'.2 = S.2 ∧ ∀ g j k, ¬ ofm f r g k → gD S' g j k = gD S g j k
theorem ONF_rf {f r : Nat} {S : SD} : ONF f r S S := ⟨rfl, fun _ _ _ _ => rfl⟩
theorem ONF_tr {f r : Nat} {S S1 S2 : SD} (h : ONF f r S S1) (h2 : ONF f r S1 S2) : ONF f r S S2 := ⟨h2.1.trans h.1, fun g j k a => (h2.2 g j k a).trans (h.2 g j k a)⟩
theorem ONF_w {f r g j k : Nat} {v : Int} {S S1 : SD} (h : ONF f r S S1) (hc : ofm f r g k) : ONF f r S (wD S1 g j k v) := ⟨h.1, fun g' j' k' a => by
  rw [← h.2 g' j' k' a]
  show (if g' = g ∧ j' = j ∧ k' = k then v else S1.1 g' j' k') = S1.1 g' j' k'
  rw [if_neg]
  rintro ⟨rfl, rfl, rfl⟩
  exact a hc⟩
theorem ONF_G {f r : Nat} {C : List (Nat × Nat)} {S S' : SD} (h : EqG [] C S S') (hc : C.all (fun c => (c.1 == 85) && Nat.ble 53 c.2 && Nat.ble c.2 57) = true) : ONF f r S S' := ⟨Prod.ext h.2 h.1.1, fun g j k a => h.1.2 g j k (fun q => by cases q) (fun q => by
  have h1 := (Bool.and_eq_true _ _).mp (List.all_eq_true.mp hc _ q)
  have h2 := (Bool.and_eq_true _ _).mp h1.1
  exact a (Or.inr (Or.inr ⟨eq_of_beq h2.1, Nat.le_of_ble_eq_true h2.2, Nat.le_of_ble_eq_true h1.2⟩)))⟩
theorem ONF_F {f r F : Nat} {S S' : SD} (h : ONF f r S S') (hf : f = 16 * r + F) (hF : F < 16) : FRm r S S' := ⟨h.1, fun g j k a => h.2 g j k (fun q => a (by unfold ofm at q; unfold own; omega))⟩
theorem tail_M {T : SD} {f p : Nat} (r : Nat) (hd : 4 ≤ d) (hn : n ≤ 200) (hA : TAB A B) (h : TPm A n T) (hp : p ≤ n) (hf : f < 320) (hpl : (gD T 85 0 53) = (p : Int)) (h0 : (gD T 85 0 54) = 0) : ∃ S', (bI (EE false d 235 [vr (some (85, 0)), vi (f : Int)] T) (fun x21 S20 =>
                       (if x21 = 0 then
                        some (vi 0, S20)
                       else
                        (bI (EE false d 231 [vr (some (85, 0))] S20) (fun x23 S22 =>
                         (if x23 = 0 then
                          some (vi 0, S22)
                         else
                           some (vi 1, wD S22 132 0 f (gD S22 85 0 57))))))) : Option RR) = some (vi (bi (tlK B n p)), S') ∧ EqG [131, 132] [(85, 53), (85, 54), (85, 57)] T S' ∧ ONF f r T S' ∧ (tlK B n p = true → (gD S' 85 0 53) = (de B n (ust B n (snx B n p)) : Int) ∧ (gD S' 85 0 54) = 0 ∧ (gD S' 131 0 f) = svl B n p ∧ (gD S' 132 0 f) = uvl B n (snx B n p)) ∧ (tlK B n p = false → (gD S' 85 0 54) = tlF B n p) := by
  obtain ⟨S1, i1, i2, i5, i3, i4⟩ := q_signM (d := d) (by omega) hn hA h hp hf hpl h0
  have o1 : ONF f r T S1 := ⟨Prod.ext i2.2 i2.1.1, fun g j k a => by
    by_cases e : g = 131
    · subst e
      exact i5 j k (fun q => a (Or.inl ⟨by decide, by decide, q⟩))
    · exact i2.1.2 g j k (fun q => e (List.mem_singleton.mp q)) (fun q => by
        simp only [List.mem_cons, List.not_mem_nil, Prod.mk.injEq, or_false] at q
        exact a (Or.inr (Or.inr (by omega))))⟩
  unfold tlK tlF
  rw [i1, b_I]
  cases hS : SOK B n p with
  | false =>
    rw [if_pos (by decide)]
    exact ⟨S1, rfl, EqG_mo i2 (by decide) (by decide), o1, fun q => absurd q Bool.false_ne_true, fun _ => by rw [i4 hS]; rfl⟩
  | true =>
    have s1 := snx_n hp hS
    obtain ⟨j1, j2, j3⟩ := i3 hS
    have h1 : TPm A n S1 := TPm_A i2 rfl rfl h
    obtain ⟨S2, k1, k2, k3, k4⟩ := q_numM (d := d) (by omega) hn hA h1 s1.1 j1 j3
    have o2 : ONF f r T S2 := ONF_tr o1 (ONF_G k2 rfl)
    rw [if_neg (by decide), k1, b_I, if_pos (show true = true from rfl), Bool.true_and]
    cases hU : UOK B n (snx B n p) with
    | false =>
      rw [if_pos (by decide)]
      exact ⟨S2, rfl, EqG_tr (EqG_mo i2 (by decide) (by decide)) (EqG_mo k2 (by decide) (by decide)), o2, fun q => absurd q Bool.false_ne_true, fun _ => by have := k4 hU; exact this⟩
    | true =>
      obtain ⟨l1, l2, l3⟩ := k3 hU
      rw [if_neg (by decide), l2]
      refine ⟨_, rfl, EqG_wA (EqG_tr (EqG_mo i2 (by decide) (by decide)) (EqG_mo k2 (by decide) (by decide))) (by decide), ONF_w o2 (Or.inl ⟨by decide, by decide, rfl⟩), fun _ => ⟨?_, ?_, ?_, ?_⟩, fun q => absurd (show true = false from q) (by decide)⟩
      · rw [g_f (by decide)]; exact l1
      · rw [g_f (by decide)]; exact l3
      · rw [g_f (by decide), EqX_a k2.1 131 rfl]; exact j2
      · rw [g_e]
def CSM (f r F : Nat) (S' : SD) (v t fd re sg nu : Int) : Prop := (gD S' 123 0 r) = ((F + 1 : Nat) : Int) ∧ (gD S' 127 0 f) = v ∧ (gD S' 128 0 f) = t ∧ (gD S' 129 0 f) = fd ∧ (v = 1 ∨ v = 2 → (gD S' 130 0 f) = re) ∧ (gD S' 131 0 f) = sg ∧ (gD S' 132 0 f) = nu
theorem cmm_fin {S T : SD} {f r F p : Nat} {v t fd re : Int} {o : Option RR} (hd : 4 ≤ d) (hn : n ≤ 200) (hA : TAB A B) (h : TPm A n T) (hp : p ≤ n) (hf : f < 320) (hpl : (gD T 85 0 53) = (p : Int)) (h0 : (gD T 85 0 54) = 0) (ox : ONF f r S T) (hF : (gD T 123 0 r) = ((F + 1 : Nat) : Int)) (hv : (gD T 127 0 f) = v) (ht : (gD T 128 0 f) = t) (hfd : (gD T 129 0 f) = fd) (hre : v = 1 ∨ v = 2 → (gD T 130 0 f) = re) (ho : o = (bI (EE false d 235 [vr (some (85, 0)), vi (f : Int)] T) (fun x21 S20 =>
                       (if x21 = 0 then
                        some (vi 0, S20)
                       else
                        (bI (EE false d 231 [vr (some (85, 0))] S20) (fun x23 S22 =>
                         (if x23 = 0 then
                          some (vi 0, S22)
                         else
                           some (vi 1, wD S22 132 0 f (gD S22 85 0 57))))))))) : ∃ S', o = some (vi (bi (tlK B n p)), S') ∧ ONF f r S S' ∧ (tlK B n p = true → (gD S' 85 0 53) = (de B n (ust B n (snx B n p)) : Int) ∧ (gD S' 85 0 54) = 0 ∧ CSM f r F S' v t fd re (svl B n p) (uvl B n (snx B n p))) ∧ (tlK B n p = false → (gD S' 85 0 54) = tlF B n p) := by
  obtain ⟨S', i1, i2, i3, i4, i5⟩ := tail_M (d := d) r hd hn hA h hp hf hpl h0
  refine ⟨S', ho.trans i1, ONF_tr ox i3, fun q => ?_, i5⟩
  obtain ⟨q1, q2, q3, q4⟩ := i4 q
  refine ⟨q1, q2, ?_, ?_, ?_, ?_, fun e => ?_, q3, q4⟩
  · rw [EqX_a i2.1 123 rfl]; exact hF
  · rw [EqX_a i2.1 127 rfl]; exact hv
  · rw [EqX_a i2.1 128 rfl]; exact ht
  · rw [EqX_a i2.1 129 rfl]; exact hfd
  · rw [EqX_a i2.1 130 rfl]; exact hre e
theorem TOK_s {p : Nat} : TOK B n th (skp B n p) = TOK B n th p ∧ tnx B n (skp B n p) = tnx B n p ∧ tvl B n (skp B n p) = tvl B n p ∧ tfl B n (skp B n p) = tfl B n p := by
  unfold TOK tnx tvl tfl
  rw [skp_sk, WRD_s]
  exact ⟨rfl, rfl, rfl, rfl⟩
theorem ONF_T {f r : Nat} {S S' : SD} (o : ONF f r S S') (h : TPm A n S) : TPm A n S' :=
  ⟨(o.2 85 0 31 (by unfold ofm; omega)).trans h.1, fun k => (o.2 112 0 k (by unfold ofm; omega)).trans (h.2 k)⟩
theorem q_cmpM {S : SD} {r F p : Nat} (hd : 6 ≤ d) (hn : n ≤ 200) (hA : TAB A B) (h : TPm A n S) (hp : p ≤ n) (hpl : (gD S 85 0 53) = (p : Int)) (ht : (gD S 85 0 6) = th) (h0 : (gD S 85 0 54) = 0) (hr : r < 20) (hrs : (gD S 85 0 32) = (r : Int)) (hF : (gD S 123 0 r) = (F : Int)) (hF16' : F ≤ 16) : ∃ S', EE false d 236 [vr (some (85, 0))] S = some (vi (bi (COK B n th F p)), S') ∧ ONF (16 * r + min F 15) r S S' ∧ (COK B n th F p = true → (gD S' 85 0 53) = (c6p B n p : Int) ∧ (gD S' 85 0 54) = 0 ∧ CSM (16 * r + F) r F S' (kd B n p) (tvl B n (c1p B n p)) (crf B n p) (crr B n p) (svl B n (c4p B n p)) (uvl B n (c5p B n p))) ∧ (COK B n th F p = false → (gD S' 85 0 54) = cfl B n th F p) := by
  have hs := sk_n (B := B) hp
  have h1 : TPm A n (wD S 85 0 53 (skp B n p : Int)) := TPm_w h (by decide)
  have h01 : gD (wD S 85 0 53 (skp B n p : Int)) 85 0 54 = 0 := by rw [g_k (by decide)]; exact h0
  have x0 : EqG [] [(85, 53), (85, 54), (85, 55), (85, 56), (85, 57)] S (wD S 85 0 53 (skp B n p : Int)) := EqG_wC EqG_rf (by decide)
  have nx : ∀ j, j < 12 → EE false (d - 1) 227 [vr (some (85, 0)), vl (wcd j)] (wD S 85 0 53 (skp B n p : Int)) = some (vi (bi (WRD B n j p)), wD S 85 0 53 (skp B n p : Int)) := fun j hj => by
    rw [q_wordM (p := skp B n p) (by omega) hn hA h1 hj (by omega) g_e, skp_sk, wD_ww, WRD_s]
  have nx2 : EE false (d - 1) 227 [vr (some (85, 0)), vl 116] (wD S 85 0 53 (skp B n p : Int)) = some (vi (bi (WRD B n 2 p)), wD S 85 0 53 (skp B n p : Int)) := nx 2 (by decide)
  have nx3 : EE false (d - 1) 227 [vr (some (85, 0)), vl 7168376] (wD S 85 0 53 (skp B n p : Int)) = some (vi (bi (WRD B n 3 p)), wD S 85 0 53 (skp B n p : Int)) := nx 3 (by decide)
  have nx4 : EE false (d - 1) 227 [vr (some (85, 0)), vl 7170414] (wD S 85 0 53 (skp B n p : Int)) = some (vi (bi (WRD B n 4 p)), wD S 85 0 53 (skp B n p : Int)) := nx 4 (by decide)
  have nx5 : EE false (d - 1) 227 [vr (some (85, 0)), vl 6383461] (wD S 85 0 53 (skp B n p : Int)) = some (vi (bi (WRD B n 5 p)), wD S 85 0 53 (skp B n p : Int)) := nx 5 (by decide)
  have c2 := (E236 (d := d) (by omega) S).trans (b236_0 oo (EE false (d - 1)) 999999 S)
  rw [q_see (by omega) hn hA h (by omega) hpl, b_I, nx2, b_I] at c2
  have b20 : (0 ≤ (r : Int) ∧ (r : Int) < 20) = True := eq_true (by omega)
  have kw := kd_w (B := B) (n := n) (p := p)
  rcases kd_r (B := B) (n := n) (p := p) with hv | hv | hv | hv | hv
  · have w5 : WRD B n 2 p = false ∧ WRD B n 3 p = false ∧ WRD B n 4 p = false ∧ WRD B n 5 p = false := by
      unfold kd at hv
      revert hv
      cases WRD B n 2 p <;> cases WRD B n 3 p <;> cases WRD B n 4 p <;> cases WRD B n 5 p <;> decide
    rw [w5.1, if_pos (by decide), nx3, b_I, w5.2.1, if_pos (by decide), nx4, b_I, w5.2.2.1, if_pos (by decide), nx5, b_I, w5.2.2.2, if_pos (by decide), g_e, q_fails (by omega) 0 _ (by omega) (by omega) h01, b_I, if_pos (Or.inl rfl), Int.add_zero] at c2
    have e1 : COK B n th F p = false := by
      unfold COK
      rw [decide_eq_false (fun q => q.1 hv)]
      rfl
    rw [e1]
    refine ⟨_, c2, ONF_G (EqG_wC x0 (by decide)) rfl, fun q => absurd q Bool.false_ne_true, fun _ => ?_⟩
    unfold cfl
    rw [g_e, if_pos hv]
  · have hK : kd B n p ≠ -1 := by rw [hv]; decide
    obtain ⟨c1n, c1l⟩ := c1p_n (B := B) hp hK
    have w5 : WRD B n 2 p = true := kw.1 hv
    rw [w5, if_neg (by decide)] at c2
    rw [g_k (by decide), hrs, if_pos (by omega), tn, g_f (by decide), hF] at c2
    by_cases hF16 : F < 16
    · rw [show min F 15 = F by omega]
      have b320 : (0 ≤ ((16 * r + F : Nat) : Int) ∧ ((16 * r + F : Nat) : Int) < 320) = True := eq_true (by omega)
      have hf320 : 16 * r + F < 320 := by omega
      have nF : ¬ ((F : Int) = 16) := by omega
      rw [if_neg nF, if_pos (by omega), if_pos (by omega), if_pos (by omega), awB ⟨hr, hF16⟩, if_pos (by omega), if_pos (by omega), awn (by omega)] at c2
      simp only [b320, if_true, tn] at c2
      have e1 : c1p B n p = skp B n p := by unfold c1p; rw [if_pos hv]
      have hkk : (kd B n p ≠ -1 ∧ F < 16) := ⟨hK, hF16⟩
      unfold COK cfl
      rw [decide_eq_true hkk, Bool.true_and, if_neg hK, if_pos hF16]
      have o0 : ONF (16 * r + F) r S (wD (wD (wD (wD S 85 0 53 (skp B n p : Int)) 123 0 r ((F + 1 : Nat) : Int)) 127 0 (16 * r + F) 0) 129 0 (16 * r + F) (-1)) := ONF_w (ONF_w (ONF_w (ONF_G x0 rfl) (Or.inr (Or.inl ⟨rfl, rfl⟩))) (Or.inl ⟨by decide, by decide, rfl⟩)) (Or.inl ⟨by decide, by decide, rfl⟩)
      generalize hS3 : wD (wD (wD (wD S 85 0 53 (skp B n p : Int)) 123 0 r ((F + 1 : Nat) : Int)) 127 0 (16 * r + F) 0) 129 0 (16 * r + F) (-1) = S3 at c2 o0
      have y1 : (gD S3 85 0 53) = (c1p B n p : Int) := by rw [← hS3, e1]; simp (disch := decide) only [g_f, g_e]
      have y2 : (gD S3 85 0 54) = 0 := by rw [← hS3]; simp (disch := decide) only [g_f, g_k]; exact h0
      have y3 : (gD S3 85 0 6) = th := by rw [← hS3]; simp (disch := decide) only [g_f, g_k]; exact ht
      have y4 : (gD S3 123 0 r) = ((F + 1 : Nat) : Int) := by rw [← hS3]; simp (disch := decide) only [g_f, g_e]
      have y5 : (gD S3 127 0 (16 * r + F)) = 0 := by rw [← hS3]; simp (disch := decide) only [g_f, g_e]
      have o3 := o0
      have h3 := ONF_T o3 h
      obtain ⟨S4, i1, i2, i3, i4⟩ := q_refM (d := d - 1) (th := th) (by omega) hn hA h3 c1n y1 y3 y2
      rw [i1, b_I] at c2
      cases hT : TOK B n th (c1p B n p) with
      | false =>
        rw [hT, Bool.false_and, if_pos (by decide)] at c2
        rw [hT, Bool.false_and] at i4
        exact ⟨S4, c2, ONF_tr o3 (ONF_G i2 rfl), fun q => absurd q Bool.false_ne_true, fun _ => i4 rfl⟩
      | true =>
        obtain ⟨t1, t2, t3, t4⟩ := tnx_n hT
        have e2 : tnx B n (c1p B n p) = c2p B n p := rfl
        rw [hT, Bool.true_and, e2] at i3 i4
        rw [hT, Bool.true_and, e2] at c2
        rw [e2] at t1 t2
        have hv3 : ¬ (0 : Int) = 3 := by decide
        rw [Bool.true_and, if_pos (show true = true from rfl), hv, decide_eq_false hv3, Bool.false_or]
        cases hf : FOK B n (c2p B n p) with
        | false =>
          rw [hf, if_pos (by decide)] at c2
          exact ⟨S4, c2, ONF_tr o3 (ONF_G i2 rfl), fun q => absurd q Bool.false_ne_true, fun _ => i4 hf⟩
        | true =>
          obtain ⟨j1, j2, j4, j3⟩ := i3 hf
          obtain ⟨u1, u2, u3, u4⟩ := FOK_n hf
          have e3' : c3p B n p = de B n (c2p B n p + 2) := by unfold c3p; rw [if_neg (by rw [hv]; decide)]
          have ef : crf B n p = dnu B n (c2p B n p + 2) := by unfold crf; rw [if_neg (by rw [hv]; decide)]
          rw [← e3'] at j1 u1 u2
          have o4 : ONF (16 * r + F) r S (wD (wD S4 128 0 (16 * r + F) (tvl B n (c1p B n p))) 129 0 (16 * r + F) (dnu B n (c2p B n p + 2))) := ONF_w (ONF_w (ONF_tr o3 (ONF_G i2 rfl)) (Or.inl ⟨by decide, by decide, rfl⟩)) (Or.inl ⟨by decide, by decide, rfl⟩)
          rw [hf, if_neg (by decide)] at c2
          rw [j2, g_f (by decide), j4] at c2
          rw [Bool.true_and, if_pos (show true = true from rfl)]
          have e4 : c4p B n p = c3p B n p := by unfold c4p; rw [if_neg (by rw [hv]; decide)]
          have er : crr B n p = 0 := by unfold crr; rw [if_neg (by rw [hv]; decide)]
          obtain ⟨S9, k1, k2, k3, k4⟩ := cmm_fin (d := d - 1) (S := S) (T := wD (wD S4 128 0 (16 * r + F) (tvl B n (c1p B n p))) 129 0 (16 * r + F) (dnu B n (c2p B n p + 2))) (f := 16 * r + F) (r := r) (F := F) (v := 0) (t := tvl B n (c1p B n p)) (fd := dnu B n (c2p B n p + 2)) (re := 0) (by omega) hn hA (ONF_T o4 h) u1 hf320 (by rw [g_f (by decide), g_f (by decide)]; exact j1) (by rw [g_f (by decide), g_f (by decide)]; exact j3) o4 (by rw [g_f (by decide), g_f (by decide), EqX_a i2.1 123 rfl]; exact y4) (by rw [g_f (by decide), g_f (by decide), EqX_a i2.1 127 rfl]; exact y5) (by rw [g_f (by decide), g_e]) g_e (fun q => absurd q (by decide)) rfl
          have c2 := c2.trans k1
          unfold c6p c5p
          rw [er, ef, e4, decide_eq_true (show (0 : Int) = 0 ∨ (0 : Int) = 3 from Or.inl rfl), Bool.true_or, Bool.true_and, if_pos (show true = true from rfl)]
          exact ⟨S9, c2, k2, k3, k4⟩
    · have yF : ((F : Int) = 16) := by omega
      rw [if_pos yF, g_e, q_fails (by omega) 3 _ (by omega) (by omega) h01, b_I, if_pos (Or.inl rfl)] at c2
      have e1 : COK B n th F p = false := by
        unfold COK
        rw [decide_eq_false (fun q => hF16 q.2)]
        rfl
      rw [e1]
      refine ⟨_, c2, ONF_G (EqG_wC x0 (by decide)) rfl, fun q => absurd q Bool.false_ne_true, fun _ => ?_⟩
      unfold cfl
      rw [g_e, if_neg hK, if_neg hF16]
  · have hK : kd B n p ≠ -1 := by rw [hv]; decide
    obtain ⟨c1n, c1l⟩ := c1p_n (B := B) hp hK
    have w5 : WRD B n 2 p = false ∧ WRD B n 3 p = true := by
      unfold kd at hv
      revert hv
      cases WRD B n 2 p <;> cases WRD B n 3 p <;> cases WRD B n 4 p <;> cases WRD B n 5 p <;> decide
    rw [w5.1, if_pos (by decide), nx3, b_I, w5.2, if_neg (by decide)] at c2
    rw [g_k (by decide), hrs, if_pos (by omega), tn, g_f (by decide), hF] at c2
    by_cases hF16 : F < 16
    · rw [show min F 15 = F by omega]
      have b320 : (0 ≤ ((16 * r + F : Nat) : Int) ∧ ((16 * r + F : Nat) : Int) < 320) = True := eq_true (by omega)
      have hf320 : 16 * r + F < 320 := by omega
      have nF : ¬ ((F : Int) = 16) := by omega
      rw [if_neg nF, if_pos (by omega), if_pos (by omega), if_pos (by omega), awB ⟨hr, hF16⟩, if_pos (by omega), if_pos (by omega), awn (by omega)] at c2
      simp only [b320, if_true, tn] at c2
      have e1 : c1p B n p = skp B n p + 3 := by unfold c1p; rw [if_neg (by rw [hv]; decide)]
      have hkk : (kd B n p ≠ -1 ∧ F < 16) := ⟨hK, hF16⟩
      unfold COK cfl
      rw [decide_eq_true hkk, Bool.true_and, if_neg hK, if_pos hF16]
      have o0 : ONF (16 * r + F) r S (wD (wD (wD (wD S 85 0 53 (skp B n p : Int)) 123 0 r ((F + 1 : Nat) : Int)) 127 0 (16 * r + F) 1) 129 0 (16 * r + F) (-1)) := ONF_w (ONF_w (ONF_w (ONF_G x0 rfl) (Or.inr (Or.inl ⟨rfl, rfl⟩))) (Or.inl ⟨by decide, by decide, rfl⟩)) (Or.inl ⟨by decide, by decide, rfl⟩)
      generalize hS2 : wD (wD (wD (wD S 85 0 53 (skp B n p : Int)) 123 0 r ((F + 1 : Nat) : Int)) 127 0 (16 * r + F) 1) 129 0 (16 * r + F) (-1) = S2 at c2 o0
      have z1 : (gD S2 85 0 53) = (skp B n p : Int) := by rw [← hS2]; simp (disch := decide) only [g_f, g_e]
      have z2 : (gD S2 85 0 54) = 0 := by rw [← hS2]; simp (disch := decide) only [g_f, g_k]; exact h0
      have z3 : (gD S2 85 0 6) = th := by rw [← hS2]; simp (disch := decide) only [g_f, g_k]; exact ht
      have z4 : (gD S2 123 0 r) = ((F + 1 : Nat) : Int) := by rw [← hS2]; simp (disch := decide) only [g_f, g_e]
      have z5 : (gD S2 127 0 (16 * r + F)) = 1 := by rw [← hS2]; simp (disch := decide) only [g_f, g_e]
      have z6 : (gD S2 129 0 (16 * r + F)) = -1 := by rw [← hS2, g_e]
      have h2 := ONF_T o0 h
      have qs := q_skips (d := d - 1) (j := 3) (S := S2) (q := skp B n p) (by omega) hn hA h2 (by decide) (by omega) w5.2 z1
      have e3 : skp B n p + (strT 3).length = c1p B n p := by rw [e1]; rfl
      rw [e3] at qs
      rw [qs, b_V, q_see (p := c1p B n p) (by omega) hn hA (TPm_w h2 (by decide)) (by omega) g_e, b_I, wD_ww] at c2
      have c1s := sk_n (B := B) c1n
      obtain ⟨ts1, ts2, ts3, ts4⟩ := TOK_s (B := B) (n := n) (th := th) (p := c1p B n p)
      have o3 : ONF (16 * r + F) r S (wD S2 85 0 53 (skp B n (c1p B n p) : Int)) := ONF_w o0 (Or.inr (Or.inr ⟨rfl, by decide, by decide⟩))
      have h3 := ONF_T o3 h
      have y4 : gD (wD S2 85 0 53 (skp B n (c1p B n p) : Int)) 123 0 r = ((F + 1 : Nat) : Int) := by rw [g_f (by decide)]; exact z4
      have y5 : gD (wD S2 85 0 53 (skp B n (c1p B n p) : Int)) 127 0 (16 * r + F) = 1 := by rw [g_f (by decide)]; exact z5
      have y6 : gD (wD S2 85 0 53 (skp B n (c1p B n p) : Int)) 129 0 (16 * r + F) = -1 := by rw [g_f (by decide)]; exact z6
      obtain ⟨S4, i1, i2, i3, i4⟩ := q_refM (d := d - 1) (th := th) (by omega) hn hA h3 c1s g_e (by rw [g_k (by decide)]; exact z3) (by rw [g_k (by decide)]; exact z2)
      rw [ts1, ts2] at i1
      rw [ts1, ts2, ts3] at i3
      rw [ts1, ts2, ts4] at i4
      rw [i1, b_I] at c2
      cases hT : TOK B n th (c1p B n p) with
      | false =>
        rw [hT, Bool.false_and, if_pos (by decide)] at c2
        rw [hT, Bool.false_and] at i4
        exact ⟨S4, c2, ONF_tr o3 (ONF_G i2 rfl), fun q => absurd q Bool.false_ne_true, fun _ => i4 rfl⟩
      | true =>
        obtain ⟨t1, t2, t3, t4⟩ := tnx_n hT
        have e2 : tnx B n (c1p B n p) = c2p B n p := rfl
        rw [hT, Bool.true_and, e2] at i3 i4
        rw [hT, Bool.true_and, e2] at c2
        rw [e2] at t1 t2
        have hv3 : ¬ (1 : Int) = 3 := by decide
        rw [Bool.true_and, if_pos (show true = true from rfl), hv, decide_eq_false hv3, Bool.false_or]
        cases hf : FOK B n (c2p B n p) with
        | false =>
          rw [hf, if_pos (by decide)] at c2
          exact ⟨S4, c2, ONF_tr o3 (ONF_G i2 rfl), fun q => absurd q Bool.false_ne_true, fun _ => i4 hf⟩
        | true =>
          obtain ⟨j1, j2, j4, j3⟩ := i3 hf
          obtain ⟨u1, u2, u3, u4⟩ := FOK_n hf
          have e3' : c3p B n p = de B n (c2p B n p + 2) := by unfold c3p; rw [if_neg (by rw [hv]; decide)]
          have ef : crf B n p = dnu B n (c2p B n p + 2) := by unfold crf; rw [if_neg (by rw [hv]; decide)]
          rw [← e3'] at j1 u1 u2
          have o4 : ONF (16 * r + F) r S (wD (wD S4 128 0 (16 * r + F) (tvl B n (c1p B n p))) 129 0 (16 * r + F) (dnu B n (c2p B n p + 2))) := ONF_w (ONF_w (ONF_tr o3 (ONF_G i2 rfl)) (Or.inl ⟨by decide, by decide, rfl⟩)) (Or.inl ⟨by decide, by decide, rfl⟩)
          rw [hf, if_neg (by decide)] at c2
          rw [j2, g_f (by decide), j4] at c2
          rw [Bool.true_and, if_pos (show true = true from rfl)]
          obtain ⟨S5, n1, n2, n3, n4⟩ := q_nM (d := d - 1) (by omega) hn hA (ONF_T o4 h) u1 (by rw [g_f (by decide), g_f (by decide)]; exact j1) (by rw [g_f (by decide), g_f (by decide)]; exact j3)
          rw [n1, b_I] at c2
          rw [decide_eq_false (show ¬ ((1 : Int) = 0 ∨ (1 : Int) = 3) by decide), Bool.false_or]
          cases hN : NOK B n (c3p B n p) with
          | false =>
            rw [hN, if_pos (by decide)] at c2
            exact ⟨S5, c2, ONF_tr o4 (ONF_G n2 rfl), fun q => absurd q Bool.false_ne_true, fun _ => n4 hN⟩
          | true =>
            obtain ⟨l1, l2, l3⟩ := n3 hN
            obtain ⟨v1, v2, v3, v4⟩ := NOK_n u1 hN
            have e4 : c4p B n p = de B n (skp B n (c3p B n p)) := by unfold c4p; rw [if_pos (by rw [hv]; decide)]
            have er : crr B n p = dnu B n (skp B n (c3p B n p)) := by unfold crr; rw [if_pos (by rw [hv]; decide)]
            rw [← e4] at l1 v1 v2
            have o5 : ONF (16 * r + F) r S (wD S5 130 0 (16 * r + F) (dnu B n (skp B n (c3p B n p)))) := ONF_w (ONF_tr o4 (ONF_G n2 rfl)) (Or.inl ⟨by decide, by decide, rfl⟩)
            rw [hN, if_neg (by decide), l2] at c2
            rw [Bool.true_and, if_pos (show true = true from rfl)]
            obtain ⟨S9, k1, k2, k3, k4⟩ := cmm_fin (d := d - 1) (S := S) (T := wD S5 130 0 (16 * r + F) (dnu B n (skp B n (c3p B n p)))) (f := 16 * r + F) (r := r) (F := F) (v := 1) (t := tvl B n (c1p B n p)) (fd := dnu B n (c2p B n p + 2)) (re := dnu B n (skp B n (c3p B n p))) (by omega) hn hA (ONF_T o5 h) v1 hf320 (by rw [g_f (by decide)]; exact l1) (by rw [g_f (by decide)]; exact l3) o5 (by rw [g_f (by decide), EqX_a n2.1 123 rfl, g_f (by decide), g_f (by decide), EqX_a i2.1 123 rfl]; exact y4) (by rw [g_f (by decide), EqX_a n2.1 127 rfl, g_f (by decide), g_f (by decide), EqX_a i2.1 127 rfl]; exact y5) (by rw [g_f (by decide), EqX_a n2.1 128 rfl, g_f (by decide), g_e]) (by rw [g_f (by decide), EqX_a n2.1 129 rfl, g_e]) (fun _ => g_e) rfl
            have c2 := c2.trans k1
            unfold c6p c5p
            rw [er, ef]
            exact ⟨S9, c2, k2, k3, k4⟩
    · have yF : ((F : Int) = 16) := by omega
      rw [if_pos yF, g_e, q_fails (by omega) 3 _ (by omega) (by omega) h01, b_I, if_pos (Or.inl rfl)] at c2
      have e1 : COK B n th F p = false := by
        unfold COK
        rw [decide_eq_false (fun q => hF16 q.2)]
        rfl
      rw [e1]
      refine ⟨_, c2, ONF_G (EqG_wC x0 (by decide)) rfl, fun q => absurd q Bool.false_ne_true, fun _ => ?_⟩
      unfold cfl
      rw [g_e, if_neg hK, if_neg hF16]
  · have hK : kd B n p ≠ -1 := by rw [hv]; decide
    obtain ⟨c1n, c1l⟩ := c1p_n (B := B) hp hK
    have w5 : WRD B n 2 p = false ∧ WRD B n 3 p = false ∧ WRD B n 4 p = true := by
      unfold kd at hv
      revert hv
      cases WRD B n 2 p <;> cases WRD B n 3 p <;> cases WRD B n 4 p <;> cases WRD B n 5 p <;> decide
    rw [w5.1, if_pos (by decide), nx3, b_I, w5.2.1, if_pos (by decide), nx4, b_I, w5.2.2, if_neg (by decide)] at c2
    rw [g_k (by decide), hrs, if_pos (by omega), tn, g_f (by decide), hF] at c2
    by_cases hF16 : F < 16
    · rw [show min F 15 = F by omega]
      have b320 : (0 ≤ ((16 * r + F : Nat) : Int) ∧ ((16 * r + F : Nat) : Int) < 320) = True := eq_true (by omega)
      have hf320 : 16 * r + F < 320 := by omega
      have nF : ¬ ((F : Int) = 16) := by omega
      rw [if_neg nF, if_pos (by omega), if_pos (by omega), if_pos (by omega), awB ⟨hr, hF16⟩, if_pos (by omega), if_pos (by omega), awn (by omega)] at c2
      simp only [b320, if_true, tn] at c2
      have e1 : c1p B n p = skp B n p + 3 := by unfold c1p; rw [if_neg (by rw [hv]; decide)]
      have hkk : (kd B n p ≠ -1 ∧ F < 16) := ⟨hK, hF16⟩
      unfold COK cfl
      rw [decide_eq_true hkk, Bool.true_and, if_neg hK, if_pos hF16]
      have o0 : ONF (16 * r + F) r S (wD (wD (wD (wD S 85 0 53 (skp B n p : Int)) 123 0 r ((F + 1 : Nat) : Int)) 127 0 (16 * r + F) 2) 129 0 (16 * r + F) (-1)) := ONF_w (ONF_w (ONF_w (ONF_G x0 rfl) (Or.inr (Or.inl ⟨rfl, rfl⟩))) (Or.inl ⟨by decide, by decide, rfl⟩)) (Or.inl ⟨by decide, by decide, rfl⟩)
      generalize hS2 : wD (wD (wD (wD S 85 0 53 (skp B n p : Int)) 123 0 r ((F + 1 : Nat) : Int)) 127 0 (16 * r + F) 2) 129 0 (16 * r + F) (-1) = S2 at c2 o0
      have z1 : (gD S2 85 0 53) = (skp B n p : Int) := by rw [← hS2]; simp (disch := decide) only [g_f, g_e]
      have z2 : (gD S2 85 0 54) = 0 := by rw [← hS2]; simp (disch := decide) only [g_f, g_k]; exact h0
      have z3 : (gD S2 85 0 6) = th := by rw [← hS2]; simp (disch := decide) only [g_f, g_k]; exact ht
      have z4 : (gD S2 123 0 r) = ((F + 1 : Nat) : Int) := by rw [← hS2]; simp (disch := decide) only [g_f, g_e]
      have z5 : (gD S2 127 0 (16 * r + F)) = 2 := by rw [← hS2]; simp (disch := decide) only [g_f, g_e]
      have z6 : (gD S2 129 0 (16 * r + F)) = -1 := by rw [← hS2, g_e]
      have h2 := ONF_T o0 h
      have qs := q_skips (d := d - 1) (j := 4) (S := S2) (q := skp B n p) (by omega) hn hA h2 (by decide) (by omega) w5.2.2 z1
      have e3 : skp B n p + (strT 4).length = c1p B n p := by rw [e1]; rfl
      rw [e3] at qs
      rw [qs, b_V, q_see (p := c1p B n p) (by omega) hn hA (TPm_w h2 (by decide)) (by omega) g_e, b_I, wD_ww] at c2
      have c1s := sk_n (B := B) c1n
      obtain ⟨ts1, ts2, ts3, ts4⟩ := TOK_s (B := B) (n := n) (th := th) (p := c1p B n p)
      have o3 : ONF (16 * r + F) r S (wD S2 85 0 53 (skp B n (c1p B n p) : Int)) := ONF_w o0 (Or.inr (Or.inr ⟨rfl, by decide, by decide⟩))
      have h3 := ONF_T o3 h
      have y4 : gD (wD S2 85 0 53 (skp B n (c1p B n p) : Int)) 123 0 r = ((F + 1 : Nat) : Int) := by rw [g_f (by decide)]; exact z4
      have y5 : gD (wD S2 85 0 53 (skp B n (c1p B n p) : Int)) 127 0 (16 * r + F) = 2 := by rw [g_f (by decide)]; exact z5
      have y6 : gD (wD S2 85 0 53 (skp B n (c1p B n p) : Int)) 129 0 (16 * r + F) = -1 := by rw [g_f (by decide)]; exact z6
      obtain ⟨S4, i1, i2, i3, i4⟩ := q_refM (d := d - 1) (th := th) (by omega) hn hA h3 c1s g_e (by rw [g_k (by decide)]; exact z3) (by rw [g_k (by decide)]; exact z2)
      rw [ts1, ts2] at i1
      rw [ts1, ts2, ts3] at i3
      rw [ts1, ts2, ts4] at i4
      rw [i1, b_I] at c2
      cases hT : TOK B n th (c1p B n p) with
      | false =>
        rw [hT, Bool.false_and, if_pos (by decide)] at c2
        rw [hT, Bool.false_and] at i4
        exact ⟨S4, c2, ONF_tr o3 (ONF_G i2 rfl), fun q => absurd q Bool.false_ne_true, fun _ => i4 rfl⟩
      | true =>
        obtain ⟨t1, t2, t3, t4⟩ := tnx_n hT
        have e2 : tnx B n (c1p B n p) = c2p B n p := rfl
        rw [hT, Bool.true_and, e2] at i3 i4
        rw [hT, Bool.true_and, e2] at c2
        rw [e2] at t1 t2
        have hv3 : ¬ (2 : Int) = 3 := by decide
        rw [Bool.true_and, if_pos (show true = true from rfl), hv, decide_eq_false hv3, Bool.false_or]
        cases hf : FOK B n (c2p B n p) with
        | false =>
          rw [hf, if_pos (by decide)] at c2
          exact ⟨S4, c2, ONF_tr o3 (ONF_G i2 rfl), fun q => absurd q Bool.false_ne_true, fun _ => i4 hf⟩
        | true =>
          obtain ⟨j1, j2, j4, j3⟩ := i3 hf
          obtain ⟨u1, u2, u3, u4⟩ := FOK_n hf
          have e3' : c3p B n p = de B n (c2p B n p + 2) := by unfold c3p; rw [if_neg (by rw [hv]; decide)]
          have ef : crf B n p = dnu B n (c2p B n p + 2) := by unfold crf; rw [if_neg (by rw [hv]; decide)]
          rw [← e3'] at j1 u1 u2
          have o4 : ONF (16 * r + F) r S (wD (wD S4 128 0 (16 * r + F) (tvl B n (c1p B n p))) 129 0 (16 * r + F) (dnu B n (c2p B n p + 2))) := ONF_w (ONF_w (ONF_tr o3 (ONF_G i2 rfl)) (Or.inl ⟨by decide, by decide, rfl⟩)) (Or.inl ⟨by decide, by decide, rfl⟩)
          rw [hf, if_neg (by decide)] at c2
          rw [j2, g_f (by decide), j4] at c2
          rw [Bool.true_and, if_pos (show true = true from rfl)]
          obtain ⟨S5, n1, n2, n3, n4⟩ := q_nM (d := d - 1) (by omega) hn hA (ONF_T o4 h) u1 (by rw [g_f (by decide), g_f (by decide)]; exact j1) (by rw [g_f (by decide), g_f (by decide)]; exact j3)
          rw [n1, b_I] at c2
          rw [decide_eq_false (show ¬ ((2 : Int) = 0 ∨ (2 : Int) = 3) by decide), Bool.false_or]
          cases hN : NOK B n (c3p B n p) with
          | false =>
            rw [hN, if_pos (by decide)] at c2
            exact ⟨S5, c2, ONF_tr o4 (ONF_G n2 rfl), fun q => absurd q Bool.false_ne_true, fun _ => n4 hN⟩
          | true =>
            obtain ⟨l1, l2, l3⟩ := n3 hN
            obtain ⟨v1, v2, v3, v4⟩ := NOK_n u1 hN
            have e4 : c4p B n p = de B n (skp B n (c3p B n p)) := by unfold c4p; rw [if_pos (by rw [hv]; decide)]
            have er : crr B n p = dnu B n (skp B n (c3p B n p)) := by unfold crr; rw [if_pos (by rw [hv]; decide)]
            rw [← e4] at l1 v1 v2
            have o5 : ONF (16 * r + F) r S (wD S5 130 0 (16 * r + F) (dnu B n (skp B n (c3p B n p)))) := ONF_w (ONF_tr o4 (ONF_G n2 rfl)) (Or.inl ⟨by decide, by decide, rfl⟩)
            rw [hN, if_neg (by decide), l2] at c2
            rw [Bool.true_and, if_pos (show true = true from rfl)]
            obtain ⟨S9, k1, k2, k3, k4⟩ := cmm_fin (d := d - 1) (S := S) (T := wD S5 130 0 (16 * r + F) (dnu B n (skp B n (c3p B n p)))) (f := 16 * r + F) (r := r) (F := F) (v := 2) (t := tvl B n (c1p B n p)) (fd := dnu B n (c2p B n p + 2)) (re := dnu B n (skp B n (c3p B n p))) (by omega) hn hA (ONF_T o5 h) v1 hf320 (by rw [g_f (by decide)]; exact l1) (by rw [g_f (by decide)]; exact l3) o5 (by rw [g_f (by decide), EqX_a n2.1 123 rfl, g_f (by decide), g_f (by decide), EqX_a i2.1 123 rfl]; exact y4) (by rw [g_f (by decide), EqX_a n2.1 127 rfl, g_f (by decide), g_f (by decide), EqX_a i2.1 127 rfl]; exact y5) (by rw [g_f (by decide), EqX_a n2.1 128 rfl, g_f (by decide), g_e]) (by rw [g_f (by decide), EqX_a n2.1 129 rfl, g_e]) (fun _ => g_e) rfl
            have c2 := c2.trans k1
            unfold c6p c5p
            rw [er, ef]
            exact ⟨S9, c2, k2, k3, k4⟩
    · have yF : ((F : Int) = 16) := by omega
      rw [if_pos yF, g_e, q_fails (by omega) 3 _ (by omega) (by omega) h01, b_I, if_pos (Or.inl rfl)] at c2
      have e1 : COK B n th F p = false := by
        unfold COK
        rw [decide_eq_false (fun q => hF16 q.2)]
        rfl
      rw [e1]
      refine ⟨_, c2, ONF_G (EqG_wC x0 (by decide)) rfl, fun q => absurd q Bool.false_ne_true, fun _ => ?_⟩
      unfold cfl
      rw [g_e, if_neg hK, if_neg hF16]
  · have hK : kd B n p ≠ -1 := by rw [hv]; decide
    obtain ⟨c1n, c1l⟩ := c1p_n (B := B) hp hK
    have w5 : WRD B n 2 p = false ∧ WRD B n 3 p = false ∧ WRD B n 4 p = false ∧ WRD B n 5 p = true := by
      unfold kd at hv
      revert hv
      cases WRD B n 2 p <;> cases WRD B n 3 p <;> cases WRD B n 4 p <;> cases WRD B n 5 p <;> decide
    rw [w5.1, if_pos (by decide), nx3, b_I, w5.2.1, if_pos (by decide), nx4, b_I, w5.2.2.1, if_pos (by decide), nx5, b_I, w5.2.2.2, if_neg (by decide)] at c2
    rw [g_k (by decide), hrs, if_pos (by omega), tn, g_f (by decide), hF] at c2
    by_cases hF16 : F < 16
    · rw [show min F 15 = F by omega]
      have b320 : (0 ≤ ((16 * r + F : Nat) : Int) ∧ ((16 * r + F : Nat) : Int) < 320) = True := eq_true (by omega)
      have hf320 : 16 * r + F < 320 := by omega
      have nF : ¬ ((F : Int) = 16) := by omega
      rw [if_neg nF, if_pos (by omega), if_pos (by omega), if_pos (by omega), awB ⟨hr, hF16⟩, if_pos (by omega), if_pos (by omega), awn (by omega)] at c2
      simp only [b320, if_true, tn] at c2
      have e1 : c1p B n p = skp B n p + 3 := by unfold c1p; rw [if_neg (by rw [hv]; decide)]
      have hkk : (kd B n p ≠ -1 ∧ F < 16) := ⟨hK, hF16⟩
      unfold COK cfl
      rw [decide_eq_true hkk, Bool.true_and, if_neg hK, if_pos hF16]
      have o0 : ONF (16 * r + F) r S (wD (wD (wD (wD S 85 0 53 (skp B n p : Int)) 123 0 r ((F + 1 : Nat) : Int)) 127 0 (16 * r + F) 3) 129 0 (16 * r + F) (-1)) := ONF_w (ONF_w (ONF_w (ONF_G x0 rfl) (Or.inr (Or.inl ⟨rfl, rfl⟩))) (Or.inl ⟨by decide, by decide, rfl⟩)) (Or.inl ⟨by decide, by decide, rfl⟩)
      generalize hS2 : wD (wD (wD (wD S 85 0 53 (skp B n p : Int)) 123 0 r ((F + 1 : Nat) : Int)) 127 0 (16 * r + F) 3) 129 0 (16 * r + F) (-1) = S2 at c2 o0
      have z1 : (gD S2 85 0 53) = (skp B n p : Int) := by rw [← hS2]; simp (disch := decide) only [g_f, g_e]
      have z2 : (gD S2 85 0 54) = 0 := by rw [← hS2]; simp (disch := decide) only [g_f, g_k]; exact h0
      have z3 : (gD S2 85 0 6) = th := by rw [← hS2]; simp (disch := decide) only [g_f, g_k]; exact ht
      have z4 : (gD S2 123 0 r) = ((F + 1 : Nat) : Int) := by rw [← hS2]; simp (disch := decide) only [g_f, g_e]
      have z5 : (gD S2 127 0 (16 * r + F)) = 3 := by rw [← hS2]; simp (disch := decide) only [g_f, g_e]
      have z6 : (gD S2 129 0 (16 * r + F)) = -1 := by rw [← hS2, g_e]
      have h2 := ONF_T o0 h
      have qs := q_skips (d := d - 1) (j := 5) (S := S2) (q := skp B n p) (by omega) hn hA h2 (by decide) (by omega) w5.2.2.2 z1
      have e3 : skp B n p + (strT 5).length = c1p B n p := by rw [e1]; rfl
      rw [e3] at qs
      rw [qs, b_V, q_see (p := c1p B n p) (by omega) hn hA (TPm_w h2 (by decide)) (by omega) g_e, b_I, wD_ww] at c2
      have c1s := sk_n (B := B) c1n
      obtain ⟨ts1, ts2, ts3, ts4⟩ := TOK_s (B := B) (n := n) (th := th) (p := c1p B n p)
      have o3 : ONF (16 * r + F) r S (wD S2 85 0 53 (skp B n (c1p B n p) : Int)) := ONF_w o0 (Or.inr (Or.inr ⟨rfl, by decide, by decide⟩))
      have h3 := ONF_T o3 h
      have y4 : gD (wD S2 85 0 53 (skp B n (c1p B n p) : Int)) 123 0 r = ((F + 1 : Nat) : Int) := by rw [g_f (by decide)]; exact z4
      have y5 : gD (wD S2 85 0 53 (skp B n (c1p B n p) : Int)) 127 0 (16 * r + F) = 3 := by rw [g_f (by decide)]; exact z5
      have y6 : gD (wD S2 85 0 53 (skp B n (c1p B n p) : Int)) 129 0 (16 * r + F) = -1 := by rw [g_f (by decide)]; exact z6
      obtain ⟨S4, i1, i2, i3, i4⟩ := q_thingM (d := d - 1) (th := th) (by omega) hn hA h3 c1s g_e (by rw [g_k (by decide)]; exact z3) (by rw [g_k (by decide)]; exact z2)
      rw [ts1] at i1
      rw [ts1, ts2, ts3] at i3
      rw [ts1, ts4] at i4
      rw [i1, b_I] at c2
      cases hT : TOK B n th (c1p B n p) with
      | false =>
        rw [hT, if_pos (by decide)] at c2
        exact ⟨S4, c2, ONF_tr o3 (ONF_G i2 rfl), fun q => absurd q Bool.false_ne_true, fun _ => i4 hT⟩
      | true =>
        obtain ⟨j1, j2, j3⟩ := i3 hT
        obtain ⟨t1, t2, t3, t4⟩ := tnx_n hT
        have e2 : tnx B n (c1p B n p) = c2p B n p := rfl
        rw [e2] at j1 t1 t2
        rw [hT, if_neg (by decide), j2] at c2
        rw [Bool.true_and, if_pos (show true = true from rfl)]
        have e3' : c3p B n p = c2p B n p := by unfold c3p; rw [if_pos hv]
        have e4 : c4p B n p = c2p B n p := by unfold c4p; rw [if_neg (by rw [hv]; decide), e3']
        have er : crr B n p = 0 := by unfold crr; rw [if_neg (by rw [hv]; decide)]
        have ef : crf B n p = -1 := by unfold crf; rw [if_pos hv]
        have o4 : ONF (16 * r + F) r S (wD S4 128 0 (16 * r + F) (tvl B n (c1p B n p))) := ONF_w (ONF_tr o3 (ONF_G i2 rfl)) (Or.inl ⟨by decide, by decide, rfl⟩)
        obtain ⟨S9, k1, k2, k3, k4⟩ := cmm_fin (d := d - 1) (S := S) (T := wD S4 128 0 (16 * r + F) (tvl B n (c1p B n p))) (f := 16 * r + F) (r := r) (F := F) (v := 3) (t := tvl B n (c1p B n p)) (fd := -1) (re := 0) (by omega) hn hA (ONF_T o4 h) t1 hf320 (by rw [g_f (by decide)]; exact j1) (by rw [g_f (by decide)]; exact j3) o4 (by rw [g_f (by decide), EqX_a i2.1 123 rfl]; exact y4) (by rw [g_f (by decide), EqX_a i2.1 127 rfl]; exact y5) g_e (by rw [g_f (by decide), EqX_a i2.1 129 rfl]; exact y6) (fun q => absurd q (by decide)) rfl
        have c2 := c2.trans k1
        unfold c6p c5p
        rw [hv, er, ef, e4, decide_eq_true (show (3 : Int) = 3 from rfl), decide_eq_true (show (3 : Int) = 0 ∨ (3 : Int) = 3 from Or.inr rfl), Bool.true_or, Bool.true_or, Bool.true_and, Bool.true_and, if_pos (show true = true from rfl), if_pos (show true = true from rfl)]
        exact ⟨S9, c2, k2, k3, k4⟩
    · have yF : ((F : Int) = 16) := by omega
      rw [if_pos yF, g_e, q_fails (by omega) 3 _ (by omega) (by omega) h01, b_I, if_pos (Or.inl rfl)] at c2
      have e1 : COK B n th F p = false := by
        unfold COK
        rw [decide_eq_false (fun q => hF16 q.2)]
        rfl
      rw [e1]
      refine ⟨_, c2, ONF_G (EqG_wC x0 (by decide)) rfl, fun q => absurd q Bool.false_ne_true, fun _ => ?_⟩
      unfold cfl
      rw [g_e, if_neg hK, if_neg hF16]
end
