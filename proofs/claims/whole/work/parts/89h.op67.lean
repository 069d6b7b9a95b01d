/-! rule: a comparison on both sides (written by gencmp.py) -/
section
variable {d : Nat} {A B : Nat → Int} {n : Nat} {th : Int}
def c1p (B : Nat → Int) (n p : Nat) : Nat := if kd B n p = 0 then skp B n p else skp B n p + 3
def c2p (B : Nat → Int) (n p : Nat) : Nat := tnx B n (c1p B n p)
def c3p (B : Nat → Int) (n p : Nat) : Nat := if kd B n p = 3 then c2p B n p else de B n (c2p B n p + 2)
def c4p (B : Nat → Int) (n p : Nat) : Nat := if kd B n p = 1 ∨ kd B n p = 2 then de B n (skp B n (c3p B n p)) else c3p B n p
def c5p (B : Nat → Int) (n p : Nat) : Nat := snx B n (c4p B n p)
def c6p (B : Nat → Int) (n p : Nat) : Nat := de B n (ust B n (c5p B n p))
def tlK (B : Nat → Int) (n p : Nat) : Bool := SOK B n p && UOK B n (snx B n p)
def tlF (B : Nat → Int) (n p : Nat) : Int := if SOK B n p then dfl B n (ust B n (snx B n p)) else 1 + 8 * (skp B n p : Int)
def COK (B : Nat → Int) (n : Nat) (th : Int) (F p : Nat) : Bool := decide (kd B n p ≠ -1 ∧ F < 16) && (TOK B n th (c1p B n p) && ((decide (kd B n p = 3) || FOK B n (c2p B n p)) && ((decide (kd B n p = 0 ∨ kd B n p = 3) || NOK B n (c3p B n p)) && tlK B n (c4p B n p))))
def cfl (B : Nat → Int) (n : Nat) (th : Int) (F p : Nat) : Int := if kd B n p = -1 then 1 + 8 * (skp B n p : Int) else if F < 16 then (if TOK B n th (c1p B n p) then (if (decide (kd B n p = 3) || FOK B n (c2p B n p)) then (if (decide (kd B n p = 0 ∨ kd B n p = 3) || NOK B n (c3p B n p)) then tlF B n (c4p B n p) else dfl B n (skp B n (c3p B n p))) else ffl B n (c2p B n p)) else tfl B n (c1p B n p)) else 1 + 8 * (skp B n p : Int) + 3
def crf (B : Nat → Int) (n p : Nat) : Int := if kd B n p = 3 then -1 else dnu B n (c2p B n p + 2)
def crr (B : Nat → Int) (n p : Nat) : Int := if kd B n p = 1 ∨ kd B n p = 2 then dnu B n (skp B n (c3p B n p)) else 0
theorem kd_r {p : Nat} : kd B n p = -1 ∨ kd B n p = 0 ∨ kd B n p = 1 ∨ kd B n p = 2 ∨ kd B n p = 3 := by
  unfold kd
  (repeat (any_goals split)) <;> decide
theorem kd_w {p : Nat} : (kd B n p = 0 → WRD B n 2 p = true) ∧ (kd B n p = 1 → WRD B n 3 p = true) ∧ (kd B n p = 2 → WRD B n 4 p = true) ∧ (kd B n p = 3 → WRD B n 5 p = true) := by
  unfold kd
  cases h2 : WRD B n 2 p <;> cases h3 : WRD B n 3 p <;> cases h4 : WRD B n 4 p <;> cases h5 : WRD B n 5 p <;> decide
theorem c1p_n {p : Nat} (hp : p ≤ n) (h : kd B n p ≠ -1) : c1p B n p ≤ n ∧ p ≤ c1p B n p := by
  have h0 := sk_n (B := B) hp
  have h1 := skp_le (B := B) (n := n) (p := p)
  obtain ⟨k0, k1, k2, k3⟩ := kd_w (B := B) (n := n) (p := p)
  unfold c1p
  rcases kd_r (B := B) (n := n) (p := p) with e | e | e | e | e
  · exact absurd e h
  · rw [if_pos e]; omega
  · have := WRD_n (j := 3) (by decide) (k1 e)
    have h9 : (strT 3).length = 3 := rfl
    rw [if_neg (by omega)]; omega
  · have := WRD_n (j := 4) (by decide) (k2 e)
    have h9 : (strT 4).length = 3 := rfl
    rw [if_neg (by omega)]; omega
  · have := WRD_n (j := 5) (by decide) (k3 e)
    have h9 : (strT 5).length = 3 := rfl
    rw [if_neg (by omega)]; omega
theorem tnx_n {p : Nat} (h : TOK B n th p = true) : tnx B n p ≤ n ∧ p + 2 ≤ tnx B n p ∧ 0 ≤ tvl B n p ∧ tvl B n p < th := by
  unfold TOK at h
  have h1 := (Bool.and_eq_true _ _).mp h
  have h2 := (Bool.and_eq_true _ _).mp h1.2
  have hs : skp B n p + 1 ≤ n := WRD_n (by decide) h1.1
  have := skp_le (B := B) (n := n) (p := p)
  have := DOK_t h2.1
  have := de_n (B := B) hs
  have := of_decide_eq_true h2.2
  exact ⟨by assumption, by show p + 2 ≤ de B n (skp B n p + 1); omega, by show 0 ≤ dnu B n (skp B n p + 1); omega, by assumption⟩
theorem FOK_n {p : Nat} (h : FOK B n p = true) : de B n (p + 2) ≤ n ∧ p ≤ de B n (p + 2) ∧ 0 ≤ dnu B n (p + 2) ∧ dnu B n (p + 2) ≤ 2 := by
  unfold FOK at h
  have h1 := (Bool.and_eq_true _ _).mp h
  have h2 := (Bool.and_eq_true _ _).mp h1.2
  have h3 := of_decide_eq_true h2.1
  have := bt_ge (B := B) (n := n) (p := p + 1) (by omega)
  have := de_n (B := B) (n := n) (p := p + 2) (by omega)
  have := DOK_t h2.2
  exact ⟨by assumption, by omega, by omega, by omega⟩
theorem NOK_n {p : Nat} (hp : p ≤ n) (h : NOK B n p = true) : de B n (skp B n p) ≤ n ∧ p ≤ de B n (skp B n p) ∧ 1 ≤ dnu B n (skp B n p) ∧ dnu B n (skp B n p) ≤ 60 := by
  have h1 := sk_n (B := B) hp
  have h2 := skp_le (B := B) (n := n) (p := p)
  have := DOK_t h
  have := de_n (B := B) h1
  exact ⟨by assumption, by omega, by omega, by omega⟩
theorem UOK_n {p : Nat} (hp : p ≤ n) (h : UOK B n p = true) : de B n (ust B n p) ≤ n ∧ p ≤ de B n (ust B n p) ∧ -999999 ≤ uvl B n p ∧ uvl B n p ≤ 999999 := by
  obtain ⟨h1, h2⟩ := ust_n (B := B) hp
  have h3 := DOK_t h
  have h4 := de_n (B := B) h1
  refine ⟨h4, by omega, ?_⟩
  unfold uvl
  by_cases e : bt B n (skp B n p) = 45
  · rw [if_pos e]; omega
  · rw [if_neg e]; omega
theorem tail_C {T : SD} {r F z p : Nat} (hd : 4 ≤ d) (hn : n ≤ 200) (h : TPc B n T) (hp : p ≤ n) (hpl : (gD T 29 0 4) = (p : Int)) (hR : gR T 29 0 3 = some (47, r)) (hF : F < 16) (hz : (gD T 47 r 9) = (z : Int)) (hz2 : z < 128) : ∃ S', (bI (EE false d 75 [vr (some (29, 0))] T) (fun x31 S30 =>
                       (if x31 = (-1) then
                        some (vi 0, S30)
                       else
                        (bI (EE false d 79 [vr (some (29, 0))] S30) (fun x33 S32 =>
                         (if x33 = 0 then
                          some (vi 0, S32)
                         else
                          (rR (gR S32 29 0 3) 47
                           none
                           (fun i34 =>
                           (if 0 ≤ (F : Int) ∧ (F : Int) < 16 then
                            (rR (gR (wD S32 52 i34 ((F : Int).toNat) x31) 29 0 3) 47
                             none
                             (fun i35 =>
                             (if 0 ≤ (F : Int) ∧ (F : Int) < 16 then
                              (rR (gR (wD (wD S32 52 i34 ((F : Int).toNat) x31) 53 i35 ((F : Int).toNat) (gD (wD S32 52 i34 ((F : Int).toNat) x31) 29 0 8)) 29 0 3) 47
                               none
                               (fun i36 =>
                               (bV (EE false d 70 [vr (some (29, 0)), vi (F : Int)] (wD (wD (wD S32 52 i34 ((F : Int).toNat) x31) 53 i35 ((F : Int).toNat) (gD (wD S32 52 i34 ((F : Int).toNat) x31) 29 0 8)) 47 i36 7 (aw oo ((F : Int) + 1)))) (fun S37 =>
                                some (vi 1, S37)))))
                             else none)))
                           else none)))))))) : Option RR) = some (vi (bi (tlK B n p)), S') ∧ FRc r T S' ∧ (tlK B n p = true → (gD S' 29 0 4) = (de B n (ust B n (snx B n p)) : Int) ∧ EqG [52, 53, 54] [(29, 4), (29, 5), (29, 8), (47, 7), (47, 9)] T S' ∧ (gD S' 47 r 7) = ((F + 1 : Nat) : Int) ∧ (gD S' 47 r 9) = ((z + 1 : Nat) : Int) ∧ (∀ k, (gD S' 54 r k) = if k = z then (F : Int) else (gD T 54 r k)) ∧ (∀ k, (gD S' 52 r k) = if k = F then svl B n p else (gD T 52 r k)) ∧ ∀ k, (gD S' 53 r k) = if k = F then uvl B n (snx B n p) else (gD T 53 r k)) ∧ (tlK B n p = false → (gD S' 29 0 5) = tlF B n p) := by
  obtain ⟨S1, i1, i2, i3, i4⟩ := q_signC (d := d) (by omega) hn h hp hpl
  unfold tlK tlF
  rw [i1, b_I]
  cases hS : SOK B n p with
  | false =>
    rw [if_pos (show (if false = true then svl B n p else -1) = -1 from rfl)]
    exact ⟨S1, rfl, FRc_G i2 rfl, fun q => absurd q Bool.false_ne_true, fun _ => by rw [i4 hS]; rfl⟩
  | true =>
    have s1 := snx_n hp hS
    have s2 := svl_r (B := B) (n := n) (p := p)
    have h1 : TPc B n S1 := TPc_G i2 rfl h
    obtain ⟨S2, j1, j2, j3, j4⟩ := q_numC (d := d) (by omega) hn h1 s1.1 (i3 hS)
    rw [if_neg (show ¬ (if true = true then svl B n p else -1) = -1 by rw [if_pos rfl]; omega), j1, b_I, if_pos (show true = true from rfl), Bool.true_and]
    cases hU : UOK B n (snx B n p) with
    | false =>
      rw [if_pos (by decide)]
      exact ⟨S2, rfl, FRc_tr (FRc_G i2 rfl) (FRc_G j2 rfl), fun q => absurd q Bool.false_ne_true, fun _ => by rw [j4 hU]; rfl⟩
    | true =>
      obtain ⟨k1, k2⟩ := j3 hU
      have x2 : EqG [] [(29, 4), (29, 5), (29, 8)] T S2 := EqG_tr (EqG_mo i2 (by decide) (by decide)) j2
      have hR2 : gR S2 29 0 3 = some (47, r) := (gR_G x2).trans hR
      have bF : (0 ≤ (F : Int) ∧ (F : Int) < 16) = True := eq_true (by omega)
      rw [if_neg (by decide)]
      simp only [gR_w, hR2, rR_s, bF, if_true, tn]
      have qa := q_addStep (d := d) (S := wD (wD (wD S2 52 r F (svl B n p)) 53 r F (uvl B n (snx B n p))) 47 r 7 ((F + 1 : Nat) : Int)) (r := r) (z := z) (by omega) hR2 (by rw [g_k (by decide), g_f (by decide), g_f (by decide), EqX_c x2.1 47 9 rfl]; exact hz) hz2 (F : Int)
      rw [g_f (by decide), k2, awn (by omega), qa, b_V]
      refine ⟨_, rfl, FRc_w (FRc_w (FRc_w (FRc_w (FRc_w (FRc_G x2 rfl) (Or.inr ⟨by decide, by decide, rfl⟩)) (Or.inr ⟨by decide, by decide, rfl⟩)) (Or.inr ⟨by decide, by decide, rfl⟩)) (Or.inr ⟨by decide, by decide, rfl⟩)) (Or.inr ⟨by decide, by decide, rfl⟩), fun _ => ⟨?_, EqG_wC (EqG_wA (EqG_wC (EqG_wA (EqG_wA (EqG_mo x2 (by decide) (by decide)) (by decide)) (by decide)) (by decide)) (by decide)) (by decide), ?_, ?_, fun k => ?_, fun k => ?_, fun k => ?_⟩, fun q => absurd (show true = false from q) (by decide)⟩
      · simp (disch := decide) only [g_f]
        exact k1
      · simp (disch := decide) only [g_f, g_k, g_e]
      · rw [g_e]
      · rw [g_f (by decide), g_i, g_f (by decide), g_f (by decide), g_f (by decide), EqX_a x2.1 54 rfl]
      · rw [g_f (by decide), g_f (by decide), g_f (by decide), g_f (by decide), g_i, EqX_a x2.1 52 rfl]
      · rw [g_f (by decide), g_f (by decide), g_f (by decide), g_i, g_f (by decide), EqX_a x2.1 53 rfl]
abbrev CCA : List Nat := [48, 49, 50, 51, 52, 53, 54]
abbrev CCC : List (Nat × Nat) := [(29, 4), (29, 5), (29, 6), (29, 7), (29, 8), (47, 7), (47, 9)]
def CSC (r F z : Nat) (S S' : SD) (v t f re sg nu : Int) : Prop := EqG CCA CCC S S' ∧ (gD S' 47 r 7) = ((F + 1 : Nat) : Int) ∧ (gD S' 47 r 9) = ((z + 1 : Nat) : Int) ∧ (∀ k, (gD S' 54 r k) = if k = z then (F : Int) else (gD S 54 r k)) ∧ (∀ k, (gD S' 48 r k) = if k = F then v else (gD S 48 r k)) ∧ (∀ k, (gD S' 49 r k) = if k = F then t else (gD S 49 r k)) ∧ (∀ k, (gD S' 50 r k) = if k = F then f else (gD S 50 r k)) ∧ (∀ k, (gD S' 51 r k) = if k = F then re else (gD S 51 r k)) ∧ (∀ k, (gD S' 52 r k) = if k = F then sg else (gD S 52 r k)) ∧ ∀ k, (gD S' 53 r k) = if k = F then nu else (gD S 53 r k)
theorem cmp_fin {S S3 : SD} {r F z p : Nat} {v t f re : Int} {o : Option RR} (x : EqG [] [(29, 4), (29, 5), (29, 6), (29, 7), (29, 8)] S S3) (h : TPc B n S) (hn : n ≤ 200) (hd : 4 ≤ d) (hp : p ≤ n) (hpl : (gD S3 29 0 4) = (p : Int)) (hR : gR S 29 0 3 = some (47, r)) (hF : F < 16) (hz : (gD S 47 r 9) = (z : Int)) (hz2 : z < 128) (ho : o = (bI (EE false d 75 [vr (some (29, 0))] (wD (wD (wD (wD S3 48 r F v) 49 r F t) 50 r F f) 51 r F re)) (fun x31 S30 =>
                       (if x31 = (-1) then
                        some (vi 0, S30)
                       else
                        (bI (EE false d 79 [vr (some (29, 0))] S30) (fun x33 S32 =>
                         (if x33 = 0 then
                          some (vi 0, S32)
                         else
                          (rR (gR S32 29 0 3) 47
                           none
                           (fun i34 =>
                           (if 0 ≤ (F : Int) ∧ (F : Int) < 16 then
                            (rR (gR (wD S32 52 i34 ((F : Int).toNat) x31) 29 0 3) 47
                             none
                             (fun i35 =>
                             (if 0 ≤ (F : Int) ∧ (F : Int) < 16 then
                              (rR (gR (wD (wD S32 52 i34 ((F : Int).toNat) x31) 53 i35 ((F : Int).toNat) (gD (wD S32 52 i34 ((F : Int).toNat) x31) 29 0 8)) 29 0 3) 47
                               none
                               (fun i36 =>
                               (bV (EE false d 70 [vr (some (29, 0)), vi (F : Int)] (wD (wD (wD S32 52 i34 ((F : Int).toNat) x31) 53 i35 ((F : Int).toNat) (gD (wD S32 52 i34 ((F : Int).toNat) x31) 29 0 8)) 47 i36 7 (aw oo ((F : Int) + 1)))) (fun S37 =>
                                some (vi 1, S37)))))
                             else none)))
                           else none)))))))))) : ∃ S', o = some (vi (bi (tlK B n p)), S') ∧ FRc r S S' ∧ (tlK B n p = true → (gD S' 29 0 4) = (de B n (ust B n (snx B n p)) : Int) ∧ CSC r F z S S' v t f re (svl B n p) (uvl B n (snx B n p))) ∧ (tlK B n p = false → (gD S' 29 0 5) = tlF B n p) := by
  have h3 : TPc B n S3 := TPc_G x rfl h
  have f4 : FRc r S (wD (wD (wD (wD S3 48 r F v) 49 r F t) 50 r F f) 51 r F re) := FRc_w (FRc_w (FRc_w (FRc_w (FRc_G x rfl) (Or.inr ⟨by decide, by decide, rfl⟩)) (Or.inr ⟨by decide, by decide, rfl⟩)) (Or.inr ⟨by decide, by decide, rfl⟩)) (Or.inr ⟨by decide, by decide, rfl⟩)
  have x4 : EqG CCA CCC S (wD (wD (wD (wD S3 48 r F v) 49 r F t) 50 r F f) 51 r F re) := EqG_wA (EqG_wA (EqG_wA (EqG_wA (EqG_mo x (by decide) (by decide)) (by decide)) (by decide)) (by decide)) (by decide)
  obtain ⟨S', i1, i2, i3, i4⟩ := tail_C (d := d) (T := wD (wD (wD (wD S3 48 r F v) 49 r F t) 50 r F f) 51 r F re) (r := r) (F := F) (z := z) hd hn ⟨by simp (disch := decide) only [g_f]; exact h3.1, fun k => by simp (disch := decide) only [g_f]; exact h3.2 k⟩ hp (by simp (disch := decide) only [g_f]; exact hpl) (by simp only [gR_w]; exact (gR_G x).trans hR) hF (by simp (disch := decide) only [g_f]; rw [EqX_c x.1 47 9 rfl]; exact hz) hz2
  refine ⟨S', ho.trans i1, FRc_tr f4 i2, fun q => ?_, i4⟩
  obtain ⟨q1, q2, q3, q4, q5, q6, q7⟩ := i3 q
  refine ⟨q1, EqG_tr x4 (EqG_mo q2 (by decide) (by decide)), q3, q4, fun k => ?_, fun k => ?_, fun k => ?_, fun k => ?_, fun k => ?_, fun k => ?_, fun k => ?_⟩
  · rw [q5]; simp (disch := decide) only [g_f]; rw [EqX_a x.1 54 rfl]
  · rw [EqX_a q2.1 48 rfl]; simp (disch := decide) only [g_f, g_i]; rw [EqX_a x.1 48 rfl]
  · rw [EqX_a q2.1 49 rfl]; simp (disch := decide) only [g_f, g_i]; rw [EqX_a x.1 49 rfl]
  · rw [EqX_a q2.1 50 rfl]; simp (disch := decide) only [g_f, g_i]; rw [EqX_a x.1 50 rfl]
  · rw [EqX_a q2.1 51 rfl]; simp (disch := decide) only [g_f, g_i]; rw [EqX_a x.1 51 rfl]
  · rw [q6]; simp (disch := decide) only [g_f]; rw [EqX_a x.1 52 rfl]
  · rw [q7]; simp (disch := decide) only [g_f]; rw [EqX_a x.1 53 rfl]
theorem q_cmpC {S : SD} {r F z p : Nat} (hd : 6 ≤ d) (hn : n ≤ 200) (h : TPc B n S) (hp : p ≤ n) (hpl : (gD S 29 0 4) = (p : Int)) (ht : (gD S 3 0 10) = th) (hR : gR S 29 0 3 = some (47, r)) (hF : (gD S 47 r 7) = (F : Int)) (hz : (gD S 47 r 9) = (z : Int)) (hz2 : z < 128) : ∃ S', EE false d 74 [vr (some (29, 0))] S = some (vi (bi (COK B n th F p)), S') ∧ FRc r S S' ∧ (COK B n th F p = true → (gD S' 29 0 4) = (c6p B n p : Int) ∧ CSC r F z S S' (kd B n p) (tvl B n (c1p B n p)) (crf B n p) (crr B n p) (svl B n (c4p B n p)) (uvl B n (c5p B n p))) ∧ (COK B n th F p = false → (gD S' 29 0 5) = cfl B n th F p) := by
  have hs := sk_n (B := B) hp
  have c2 := (E74 (d := d) (by omega) S).trans (b74_0 oo (EE false (d - 1)) 999999 S)
  rw [q_kindC (by omega) hn h hp hpl, b_I] at c2
  by_cases hK : kd B n p = -1
  · rw [if_pos hK, g_e, q_fail (by omega) _ _ (by omega) (by omega), b_I, if_pos (Or.inl rfl), Int.add_zero] at c2
    have e1 : COK B n th F p = false := by
      unfold COK
      rw [decide_eq_false (fun q => q.1 hK)]
      rfl
    rw [e1]
    refine ⟨_, c2, FRc_w (FRc_w FRc_rf (Or.inl ⟨rfl, by decide⟩)) (Or.inl ⟨rfl, by decide⟩), fun q => absurd q Bool.false_ne_true, fun _ => ?_⟩
    unfold cfl
    rw [g_e, if_pos hK]
  · rw [if_neg hK] at c2
    simp only [gR_w, hR, rR_s] at c2
    rw [g_f (by decide), hF] at c2
    by_cases hF16 : F < 16
    · rw [if_pos (by omega)] at c2
      have bF : (0 ≤ (F : Int) ∧ (F : Int) < 16) = True := eq_true (by omega)
      obtain ⟨c1n, c1l⟩ := c1p_n (B := B) hp hK
      have hkk : (kd B n p ≠ -1 ∧ F < 16) := ⟨hK, hF16⟩
      unfold COK cfl
      rw [decide_eq_true hkk, Bool.true_and, if_neg hK, if_pos hF16]
      rcases kd_r (B := B) (n := n) (p := p) with e | hv | hv | hv | hv
      · exact absurd e hK
      · have e1 : c1p B n p = skp B n p := by unfold c1p; rw [if_pos hv]
        rw [hv, if_neg (by decide), if_neg (by decide), if_pos rfl, g_e] at c2
        rw [show aw oo (((skp B n p : Nat) : Int) + 0) = ((c1p B n p : Nat) : Int) by rw [e1, aw0 (by omega)]; omega, wD_ww] at c2
        have h1 : TPc B n (wD (wD S 29 0 4 (c1p B n p : Int)) 29 0 7 (-1)) := TPc_w (TPc_w h (by decide)) (by decide)
        obtain ⟨S1, i1, i2, i3, i4⟩ := q_thingC (d := d - 1) (th := th) (by omega) hn h1 c1n (by rw [g_k (by decide), g_e]) (by rw [g_f (by decide), g_f (by decide)]; exact ht)
        have x1 : EqG [] [(29, 4), (29, 5), (29, 6), (29, 7), (29, 8)] S S1 := EqG_tr (EqG_wC (EqG_wC EqG_rf (by decide)) (by decide)) (EqG_mo i2 (by decide) (by decide))
        rw [i1, b_I] at c2
        cases hT : TOK B n th (c1p B n p) with
        | false =>
          rw [hT, if_pos (by decide)] at c2
          exact ⟨S1, c2, FRc_G x1 rfl, fun q => absurd q Bool.false_ne_true, fun _ => i4 hT⟩
        | true =>
          obtain ⟨j1, j2⟩ := i3 hT
          obtain ⟨t1, t2, t3, t4⟩ := tnx_n hT
          have e2 : tnx B n (c1p B n p) = c2p B n p := rfl
          rw [e2] at j1 t1 t2
          have h2 : TPc B n S1 := TPc_G x1 rfl h
          have f1 : (gD S1 29 0 7) = -1 := by rw [EqX_c i2.1 29 7 rfl, g_e]
          rw [hT, if_neg (by decide)] at c2
          rw [Bool.true_and, if_pos (show true = true from rfl)]
          have hv3 : ¬ (0 : Int) = 3 := by decide
          obtain ⟨S2, k1, k2, k3, k4⟩ := q_fieldC (d := d - 1) (by omega) hn h2 t1 j1
          have x2 : EqG [] [(29, 4), (29, 5), (29, 6), (29, 7), (29, 8)] S S2 := EqG_tr x1 (EqG_mo k2 (by decide) (by decide))
          rw [if_neg (by decide), k1, b_I] at c2
          rw [hv, decide_eq_false hv3, Bool.false_or]
          cases hf : FOK B n (c2p B n p) with
          | false =>
            rw [hf, if_pos (by decide)] at c2
            exact ⟨S2, c2, FRc_G x2 rfl, fun q => absurd q Bool.false_ne_true, fun _ => k4 hf⟩
          | true =>
            obtain ⟨l1, l2⟩ := k3 hf
            obtain ⟨u1, u2, u3, u4⟩ := FOK_n hf
            have e3 : c3p B n p = de B n (c2p B n p + 2) := by unfold c3p; rw [if_neg (by rw [hv]; decide)]
            have ef : crf B n p = dnu B n (c2p B n p + 2) := by unfold crf; rw [if_neg (by rw [hv]; decide)]
            rw [← e3] at l1 u1 u2
            have h3 : TPc B n S2 := TPc_G x2 rfl h
            have th2 : (gD S2 29 0 6) = tvl B n (c1p B n p) := by rw [EqX_c k2.1 29 6 rfl]; exact j2
            rw [hf, if_neg (by decide)] at c2
            rw [Bool.true_and, if_pos (show true = true from rfl)]
            have e4 : c4p B n p = c3p B n p := by unfold c4p; rw [if_neg (by rw [hv]; decide)]
            have er : crr B n p = 0 := by unfold crr; rw [if_neg (by rw [hv]; decide)]
            have hR3 : gR S2 29 0 3 = some (47, r) := (gR_G x2).trans hR
            simp (disch := decide) only [gR_w, hR3, rR_s, bF, if_true, tn, g_f, g_k, th2, l2] at c2
            obtain ⟨S9, m1, m2, m3, m4⟩ := cmp_fin (d := d - 1) (r := r) (F := F) (z := z) (v := 0) (t := tvl B n (c1p B n p)) (f := dnu B n (c2p B n p + 2)) (re := 0) x2 h hn (by omega) u1 l1 hR hF16 hz hz2 (o := _) (by simp (disch := decide) only [gR_w, bF, if_true, tn, g_f, g_k]; rfl)
            rw [m1] at c2
            unfold c6p c5p
            rw [er, ef, e4, decide_eq_true (show (0 : Int) = 0 ∨ (0 : Int) = 3 from Or.inl rfl), Bool.true_or, Bool.true_and, if_pos (show true = true from rfl)]
            exact ⟨S9, c2, m2, m3, m4⟩
      · have e1 : c1p B n p = skp B n p + 3 := by unfold c1p; rw [if_neg (by rw [hv]; decide)]
        rw [hv, if_pos rfl, if_neg (by decide), g_e] at c2
        rw [show aw oo (((skp B n p : Nat) : Int) + 3) = ((c1p B n p : Nat) : Int) by rw [e1, aw0 (by omega)]; omega, wD_ww] at c2
        have h1 : TPc B n (wD (wD S 29 0 4 (c1p B n p : Int)) 29 0 7 (-1)) := TPc_w (TPc_w h (by decide)) (by decide)
        obtain ⟨S1, i1, i2, i3, i4⟩ := q_thingC (d := d - 1) (th := th) (by omega) hn h1 c1n (by rw [g_k (by decide), g_e]) (by rw [g_f (by decide), g_f (by decide)]; exact ht)
        have x1 : EqG [] [(29, 4), (29, 5), (29, 6), (29, 7), (29, 8)] S S1 := EqG_tr (EqG_wC (EqG_wC EqG_rf (by decide)) (by decide)) (EqG_mo i2 (by decide) (by decide))
        rw [i1, b_I] at c2
        cases hT : TOK B n th (c1p B n p) with
        | false =>
          rw [hT, if_pos (by decide)] at c2
          exact ⟨S1, c2, FRc_G x1 rfl, fun q => absurd q Bool.false_ne_true, fun _ => i4 hT⟩
        | true =>
          obtain ⟨j1, j2⟩ := i3 hT
          obtain ⟨t1, t2, t3, t4⟩ := tnx_n hT
          have e2 : tnx B n (c1p B n p) = c2p B n p := rfl
          rw [e2] at j1 t1 t2
          have h2 : TPc B n S1 := TPc_G x1 rfl h
          have f1 : (gD S1 29 0 7) = -1 := by rw [EqX_c i2.1 29 7 rfl, g_e]
          rw [hT, if_neg (by decide)] at c2
          rw [Bool.true_and, if_pos (show true = true from rfl)]
          have hv3 : ¬ (1 : Int) = 3 := by decide
          obtain ⟨S2, k1, k2, k3, k4⟩ := q_fieldC (d := d - 1) (by omega) hn h2 t1 j1
          have x2 : EqG [] [(29, 4), (29, 5), (29, 6), (29, 7), (29, 8)] S S2 := EqG_tr x1 (EqG_mo k2 (by decide) (by decide))
          rw [if_neg (by decide), k1, b_I] at c2
          rw [hv, decide_eq_false hv3, Bool.false_or]
          cases hf : FOK B n (c2p B n p) with
          | false =>
            rw [hf, if_pos (by decide)] at c2
            exact ⟨S2, c2, FRc_G x2 rfl, fun q => absurd q Bool.false_ne_true, fun _ => k4 hf⟩
          | true =>
            obtain ⟨l1, l2⟩ := k3 hf
            obtain ⟨u1, u2, u3, u4⟩ := FOK_n hf
            have e3 : c3p B n p = de B n (c2p B n p + 2) := by unfold c3p; rw [if_neg (by rw [hv]; decide)]
            have ef : crf B n p = dnu B n (c2p B n p + 2) := by unfold crf; rw [if_neg (by rw [hv]; decide)]
            rw [← e3] at l1 u1 u2
            have h3 : TPc B n S2 := TPc_G x2 rfl h
            have th2 : (gD S2 29 0 6) = tvl B n (c1p B n p) := by rw [EqX_c k2.1 29 6 rfl]; exact j2
            rw [hf, if_neg (by decide)] at c2
            rw [Bool.true_and, if_pos (show true = true from rfl)]
            obtain ⟨S3, n1, n2, n3, n4⟩ := q_nC (d := d - 1) (by omega) hn h3 u1 l1
            have x3 : EqG [] [(29, 4), (29, 5), (29, 6), (29, 7), (29, 8)] S S3 := EqG_tr x2 (EqG_mo n2 (by decide) (by decide))
            rw [n1, b_I] at c2
            rw [decide_eq_false (show ¬ ((1 : Int) = 0 ∨ (1 : Int) = 3) by decide), Bool.false_or]
            cases hN : NOK B n (c3p B n p) with
            | false =>
              rw [hN, if_pos (by decide)] at c2
              exact ⟨S3, c2, FRc_G x3 rfl, fun q => absurd q Bool.false_ne_true, fun _ => n4 hN⟩
            | true =>
              obtain ⟨o1, o2⟩ := n3 hN
              obtain ⟨w1, w2, w3, w4⟩ := NOK_n u1 hN
              have e4 : c4p B n p = de B n (skp B n (c3p B n p)) := by unfold c4p; rw [if_pos (by rw [hv]; decide)]
              have er : crr B n p = dnu B n (skp B n (c3p B n p)) := by unfold crr; rw [if_pos (by rw [hv]; decide)]
              rw [← e4] at o1 w1 w2
              have th3 : (gD S3 29 0 6) = tvl B n (c1p B n p) := by rw [EqX_c n2.1 29 6 rfl]; exact th2
              have fd3 : (gD S3 29 0 7) = dnu B n (c2p B n p + 2) := by rw [EqX_c n2.1 29 7 rfl]; exact l2
              have hR3 : gR S3 29 0 3 = some (47, r) := (gR_G x3).trans hR
              rw [hN, if_neg (by decide)] at c2
              rw [Bool.true_and, if_pos (show true = true from rfl)]
              simp (disch := decide) only [gR_w, hR3, rR_s, bF, if_true, tn, g_f, g_k, th3, fd3, o2] at c2
              obtain ⟨S9, m1, m2, m3, m4⟩ := cmp_fin (d := d - 1) (r := r) (F := F) (z := z) (v := 1) (t := tvl B n (c1p B n p)) (f := dnu B n (c2p B n p + 2)) (re := dnu B n (skp B n (c3p B n p))) x3 h hn (by omega) w1 o1 hR hF16 hz hz2 (o := _) (by simp (disch := decide) only [gR_w, bF, if_true, tn, g_f, g_k]; rfl)
              rw [m1] at c2
              unfold c6p c5p
              rw [er, ef]
              exact ⟨S9, c2, m2, m3, m4⟩
      · have e1 : c1p B n p = skp B n p + 3 := by unfold c1p; rw [if_neg (by rw [hv]; decide)]
        rw [hv, if_neg (by decide), if_pos rfl, if_neg (by decide), g_e] at c2
        rw [show aw oo (((skp B n p : Nat) : Int) + 3) = ((c1p B n p : Nat) : Int) by rw [e1, aw0 (by omega)]; omega, wD_ww] at c2
        have h1 : TPc B n (wD (wD S 29 0 4 (c1p B n p : Int)) 29 0 7 (-1)) := TPc_w (TPc_w h (by decide)) (by decide)
        obtain ⟨S1, i1, i2, i3, i4⟩ := q_thingC (d := d - 1) (th := th) (by omega) hn h1 c1n (by rw [g_k (by decide), g_e]) (by rw [g_f (by decide), g_f (by decide)]; exact ht)
        have x1 : EqG [] [(29, 4), (29, 5), (29, 6), (29, 7), (29, 8)] S S1 := EqG_tr (EqG_wC (EqG_wC EqG_rf (by decide)) (by decide)) (EqG_mo i2 (by decide) (by decide))
        rw [i1, b_I] at c2
        cases hT : TOK B n th (c1p B n p) with
        | false =>
          rw [hT, if_pos (by decide)] at c2
          exact ⟨S1, c2, FRc_G x1 rfl, fun q => absurd q Bool.false_ne_true, fun _ => i4 hT⟩
        | true =>
          obtain ⟨j1, j2⟩ := i3 hT
          obtain ⟨t1, t2, t3, t4⟩ := tnx_n hT
          have e2 : tnx B n (c1p B n p) = c2p B n p := rfl
          rw [e2] at j1 t1 t2
          have h2 : TPc B n S1 := TPc_G x1 rfl h
          have f1 : (gD S1 29 0 7) = -1 := by rw [EqX_c i2.1 29 7 rfl, g_e]
          rw [hT, if_neg (by decide)] at c2
          rw [Bool.true_and, if_pos (show true = true from rfl)]
          have hv3 : ¬ (2 : Int) = 3 := by decide
          obtain ⟨S2, k1, k2, k3, k4⟩ := q_fieldC (d := d - 1) (by omega) hn h2 t1 j1
          have x2 : EqG [] [(29, 4), (29, 5), (29, 6), (29, 7), (29, 8)] S S2 := EqG_tr x1 (EqG_mo k2 (by decide) (by decide))
          rw [if_neg (by decide), k1, b_I] at c2
          rw [hv, decide_eq_false hv3, Bool.false_or]
          cases hf : FOK B n (c2p B n p) with
          | false =>
            rw [hf, if_pos (by decide)] at c2
            exact ⟨S2, c2, FRc_G x2 rfl, fun q => absurd q Bool.false_ne_true, fun _ => k4 hf⟩
          | true =>
            obtain ⟨l1, l2⟩ := k3 hf
            obtain ⟨u1, u2, u3, u4⟩ := FOK_n hf
            have e3 : c3p B n p = de B n (c2p B n p + 2) := by unfold c3p; rw [if_neg (by rw [hv]; decide)]
            have ef : crf B n p = dnu B n (c2p B n p + 2) := by unfold crf; rw [if_neg (by rw [hv]; decide)]
            rw [← e3] at l1 u1 u2
            have h3 : TPc B n S2 := TPc_G x2 rfl h
            have th2 : (gD S2 29 0 6) = tvl B n (c1p B n p) := by rw [EqX_c k2.1 29 6 rfl]; exact j2
            rw [hf, if_neg (by decide)] at c2
            rw [Bool.true_and, if_pos (show true = true from rfl)]
            obtain ⟨S3, n1, n2, n3, n4⟩ := q_nC (d := d - 1) (by omega) hn h3 u1 l1
            have x3 : EqG [] [(29, 4), (29, 5), (29, 6), (29, 7), (29, 8)] S S3 := EqG_tr x2 (EqG_mo n2 (by decide) (by decide))
            rw [n1, b_I] at c2
            rw [decide_eq_false (show ¬ ((2 : Int) = 0 ∨ (2 : Int) = 3) by decide), Bool.false_or]
            cases hN : NOK B n (c3p B n p) with
            | false =>
              rw [hN, if_pos (by decide)] at c2
              exact ⟨S3, c2, FRc_G x3 rfl, fun q => absurd q Bool.false_ne_true, fun _ => n4 hN⟩
            | true =>
              obtain ⟨o1, o2⟩ := n3 hN
              obtain ⟨w1, w2, w3, w4⟩ := NOK_n u1 hN
              have e4 : c4p B n p = de B n (skp B n (c3p B n p)) := by unfold c4p; rw [if_pos (by rw [hv]; decide)]
              have er : crr B n p = dnu B n (skp B n (c3p B n p)) := by unfold crr; rw [if_pos (by rw [hv]; decide)]
              rw [← e4] at o1 w1 w2
              have th3 : (gD S3 29 0 6) = tvl B n (c1p B n p) := by rw [EqX_c n2.1 29 6 rfl]; exact th2
              have fd3 : (gD S3 29 0 7) = dnu B n (c2p B n p + 2) := by rw [EqX_c n2.1 29 7 rfl]; exact l2
              have hR3 : gR S3 29 0 3 = some (47, r) := (gR_G x3).trans hR
              rw [hN, if_neg (by decide)] at c2
              rw [Bool.true_and, if_pos (show true = true from rfl)]
              simp (disch := decide) only [gR_w, hR3, rR_s, bF, if_true, tn, g_f, g_k, th3, fd3, o2] at c2
              obtain ⟨S9, m1, m2, m3, m4⟩ := cmp_fin (d := d - 1) (r := r) (F := F) (z := z) (v := 2) (t := tvl B n (c1p B n p)) (f := dnu B n (c2p B n p + 2)) (re := dnu B n (skp B n (c3p B n p))) x3 h hn (by omega) w1 o1 hR hF16 hz hz2 (o := _) (by simp (disch := decide) only [gR_w, bF, if_true, tn, g_f, g_k]; rfl)
              rw [m1] at c2
              unfold c6p c5p
              rw [er, ef]
              exact ⟨S9, c2, m2, m3, m4⟩
      · have e1 : c1p B n p = skp B n p + 3 := by unfold c1p; rw [if_neg (by rw [hv]; decide)]
        rw [hv, if_neg (by decide), if_neg (by decide), if_neg (by decide), g_e] at c2
        rw [show aw oo (((skp B n p : Nat) : Int) + 3) = ((c1p B n p : Nat) : Int) by rw [e1, aw0 (by omega)]; omega, wD_ww] at c2
        have h1 : TPc B n (wD (wD S 29 0 4 (c1p B n p : Int)) 29 0 7 (-1)) := TPc_w (TPc_w h (by decide)) (by decide)
        obtain ⟨S1, i1, i2, i3, i4⟩ := q_thingC (d := d - 1) (th := th) (by omega) hn h1 c1n (by rw [g_k (by decide), g_e]) (by rw [g_f (by decide), g_f (by decide)]; exact ht)
        have x1 : EqG [] [(29, 4), (29, 5), (29, 6), (29, 7), (29, 8)] S S1 := EqG_tr (EqG_wC (EqG_wC EqG_rf (by decide)) (by decide)) (EqG_mo i2 (by decide) (by decide))
        rw [i1, b_I] at c2
        cases hT : TOK B n th (c1p B n p) with
        | false =>
          rw [hT, if_pos (by decide)] at c2
          exact ⟨S1, c2, FRc_G x1 rfl, fun q => absurd q Bool.false_ne_true, fun _ => i4 hT⟩
        | true =>
          obtain ⟨j1, j2⟩ := i3 hT
          obtain ⟨t1, t2, t3, t4⟩ := tnx_n hT
          have e2 : tnx B n (c1p B n p) = c2p B n p := rfl
          rw [e2] at j1 t1 t2
          have h2 : TPc B n S1 := TPc_G x1 rfl h
          have f1 : (gD S1 29 0 7) = -1 := by rw [EqX_c i2.1 29 7 rfl, g_e]
          rw [hT, if_neg (by decide)] at c2
          rw [Bool.true_and, if_pos (show true = true from rfl)]
          have e3 : c3p B n p = c2p B n p := by unfold c3p; rw [if_pos hv]
          have e4 : c4p B n p = c2p B n p := by unfold c4p; rw [if_neg (by rw [hv]; decide), e3]
          have er : crr B n p = 0 := by unfold crr; rw [if_neg (by rw [hv]; decide)]
          have ef : crf B n p = -1 := by unfold crf; rw [if_pos hv]
          rw [if_pos rfl] at c2
          have hR3 : gR S1 29 0 3 = some (47, r) := (gR_G x1).trans hR
          simp (disch := decide) only [gR_w, hR3, rR_s, bF, if_true, tn, g_f, g_k, j2, f1] at c2
          obtain ⟨S9, k1, k2, k3, k4⟩ := cmp_fin (d := d - 1) (r := r) (F := F) (z := z) (v := 3) (t := tvl B n (c1p B n p)) (f := -1) (re := 0) x1 h hn (by omega) t1 j1 hR hF16 hz hz2 (o := _) (by simp (disch := decide) only [gR_w, bF, if_true, tn, g_f, g_k]; rfl)
          rw [k1] at c2
          unfold c5p c6p c5p
          rw [hv, er, ef, e4, decide_eq_true (show (3 : Int) = 3 from rfl), decide_eq_true (show (3 : Int) = 0 ∨ (3 : Int) = 3 from Or.inr rfl), Bool.true_or, Bool.true_or, Bool.true_and, Bool.true_and, if_pos (show true = true from rfl), if_pos (show true = true from rfl)]
          exact ⟨S9, c2, k2, k3, k4⟩
    · rw [if_neg (by omega), g_e, q_fail (by omega) _ _ (by omega) (by omega), b_I, if_pos (Or.inl rfl)] at c2
      have e1 : COK B n th F p = false := by
        unfold COK
        rw [decide_eq_false (fun q => hF16 q.2)]
        rfl
      rw [e1]
      refine ⟨_, c2, FRc_w (FRc_w FRc_rf (Or.inl ⟨rfl, by decide⟩)) (Or.inl ⟨rfl, by decide⟩), fun q => absurd q Bool.false_ne_true, fun _ => ?_⟩
      unfold cfl
      rw [g_e, if_neg hK, if_neg hF16]
end
