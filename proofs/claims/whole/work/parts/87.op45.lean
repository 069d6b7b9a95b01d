/-! all numbers of all REFS, and how many rows they make: class and reference -/
section
variable {d : Nat}
theorem XS_ex (D : DT) (lo hi : Int) (c : Nat) : ∀ J, ∃ n P, RSL (XS D lo hi c J) n P ∧ n ≤ 2 + 3 * cnt (fF D c) J := by
  intro J
  induction J with
  | zero =>
    obtain ⟨n1, P1, h1, h2⟩ := RSL_add (P := fun _ => 0) RSL_0 lo
    obtain ⟨n2, P2, h3, h4⟩ := RSL_add h1 hi
    refine ⟨n2, P2, RSL_iff h3 (fun v => ⟨fun q => ?_, fun q => ?_⟩), by show n2 ≤ 2; omega⟩
    · rcases q with (q | q) | q
      · exact q.elim
      · exact Or.inl q
      · exact Or.inr (Or.inl q)
    · rcases q with q | q | ⟨j, q, _⟩
      · exact Or.inl (Or.inr q)
      · exact Or.inr q
      · exact absurd q (by omega)
  | succ J ih =>
    obtain ⟨n, P, h1, h2⟩ := ih
    cases hF : fF D c J with
    | false => exact ⟨n, P, RSL_iff h1 (XS_sk (by omega) (fun j a b => by rw [show j = J by omega]; exact hF)), by rw [cnt_f hF]; exact h2⟩
    | true =>
      obtain ⟨n1, P1, a1, b1⟩ := RSL_ad h1 (dv D J - 1) (lo ≤ dv D J - 1 ∧ dv D J - 1 ≤ hi)
      obtain ⟨n2, P2, a2, b2⟩ := RSL_ad a1 (dv D J) (lo ≤ dv D J ∧ dv D J ≤ hi)
      obtain ⟨n3, P3, a3, b3⟩ := RSL_ad a2 (dv D J + 1) (lo ≤ dv D J + 1 ∧ dv D J + 1 ≤ hi)
      refine ⟨n3, P3, RSL_iff a3 (fun v => ?_), by rw [cnt_t hF]; omega⟩
      rw [← XS_in hF v]
      constructor
      · rintro (((q | q) | q) | q)
        · exact Or.inl q
        · exact Or.inr (by omega)
        · exact Or.inr (by omega)
        · exact Or.inr (by omega)
      · rintro (q | q)
        · exact Or.inl (Or.inl (Or.inl q))
        · by_cases c4 : v = dv D J - 1
          · exact Or.inl (Or.inl (Or.inr (by omega)))
          · by_cases c5 : v = dv D J
            · exact Or.inl (Or.inr (by omega))
            · exact Or.inr (by omega)
noncomputable def XN (D : DT) (lo hi : Int) (c : Nat) : Nat := Classical.choose (XS_ex D lo hi c 320)
noncomputable def XP (D : DT) (lo hi : Int) (c : Nat) : Nat → Int := Classical.choose (Classical.choose_spec (XS_ex D lo hi c 320))
theorem XNP {D : DT} {lo hi : Int} {c : Nat} : RSL (XS D lo hi c 320) (XN D lo hi c) (XP D lo hi c) ∧ XN D lo hi c ≤ 2 + 3 * cnt (fF D c) 320 := Classical.choose_spec (Classical.choose_spec (XS_ex D lo hi c 320))
theorem cnt_at {p : Nat → Bool} : ∀ {n s : Nat}, s < cnt p n → ∃ c, c < n ∧ p c = true ∧ cnt p c = s
  | 0, s, h => absurd h (by show ¬ s < 0; omega)
  | n + 1, s, h => by
    by_cases e : s < cnt p n
    · obtain ⟨c, h1, h2⟩ := cnt_at e
      exact ⟨c, by omega, h2⟩
    · cases hp : p n with
      | true =>
        rw [cnt_t hp] at h
        exact ⟨n, by omega, hp, by omega⟩
      | false =>
        rw [cnt_f hp] at h
        omega
noncomputable def clD (D : DT) (s : Nat) : Nat := Classical.epsilon (fun c => c < 120 ∧ hcB D c = true ∧ cnt (hcB D) c = s)
theorem clD_sp {D : DT} {s : Nat} (h : s < cnt (hcB D) 120) : clD D s < 120 ∧ hcB D (clD D s) = true ∧ cnt (hcB D) (clD D s) = s := Classical.epsilon_spec (p := fun c => c < 120 ∧ hcB D c = true ∧ cnt (hcB D) c = s) (cnt_at h)
theorem clD_cnt {D : DT} {c : Nat} (h : hcB D c = true) (hc : c < 120) : clD D (cnt (hcB D) c) = c := by
  obtain ⟨h1, h2, h3⟩ := clD_sp (D := D) (cnt_in hc h)
  by_cases e : clD D (cnt (hcB D) c) < c
  · have := cnt_in (p := hcB D) e h2
    omega
  · by_cases e2 : c < clD D (cnt (hcB D) c)
    · have := cnt_in (p := hcB D) e2 h
      omega
    · omega
theorem clD_lt {D : DT} {s s' : Nat} (h : s < s') (h2 : s' < cnt (hcB D) 120) : clD D s < clD D s' := by
  obtain ⟨a1, a2, a3⟩ := clD_sp (D := D) (show s < cnt (hcB D) 120 by omega)
  obtain ⟨b1, b2, b3⟩ := clD_sp (D := D) h2
  by_cases e : clD D s < clD D s'
  · exact e
  · have := cnt_m (p := hcB D) (show clD D s' ≤ clD D s by omega)
    omega
/-- a REF's cell is of a thing that is there -/
theorem clD_th {D : DT} {Sc Sm : SD} (hD : DAT D Sc Sm) {s : Nat} (h : s < cnt (hcB D) 120) : ((clD D s / 3 : Nat) : Int) < (gD Sc 3 0 10) := by
  obtain ⟨h1, h2, h3⟩ := clD_sp h
  unfold hcB at h2
  obtain ⟨j, j1, j2⟩ := cnt_ex (of_decide_eq_true h2)
  obtain ⟨j3, j4⟩ := fF_e j2
  obtain ⟨j5, j6⟩ := iF_bd hD j1 j3
  unfold cel at j4
  omega
noncomputable def DN (D : DT) (S : SD) (s : Nat) : Nat := XN D (lowC S (clD D s)) (higC S (clD D s)) (clD D s)
noncomputable def DP (D : DT) (S : SD) (s : Nat) : Nat → Int := XP D (lowC S (clD D s)) (higC S (clD D s)) (clD D s)
theorem DN_1 {D : DT} {S : SD} {s : Nat} : 1 ≤ DN D S s := by
  obtain ⟨i, h1, h2⟩ := (XNP (D := D) (lo := lowC S (clD D s)) (hi := higC S (clD D s)) (c := clD D s)).1.2.2 _ (Or.inl rfl)
  unfold DN
  omega
theorem DN_962 {D : DT} {S : SD} {s : Nat} : DN D S s ≤ 962 := by
  have h1 := (XNP (D := D) (lo := lowC S (clD D s)) (hi := higC S (clD D s)) (c := clD D s)).2
  have h2 := cnt_le (p := fF D (clD D s)) 320
  unfold DN
  omega
/-- numbers of a REF lie within its field's bounds -/
theorem DP_in {D : DT} {S : SD} {s i : Nat} (h : lowC S (clD D s) ≤ higC S (clD D s)) (hi : i < DN D S s) : lowC S (clD D s) ≤ DP D S s i ∧ DP D S s i ≤ higC S (clD D s) := by
  have := (XNP (D := D) (lo := lowC S (clD D s)) (hi := higC S (clD D s)) (c := clD D s)).1.2.1 i hi
  unfold XS at this
  show _ ≤ XP _ _ _ _ i ∧ XP _ _ _ _ i ≤ _
  rcases this with e | e | ⟨j, _, _, _, _, e⟩
  · rw [e]; omega
  · rw [e]; omega
  · exact e
def prN (N : Nat → Nat) : Nat → Nat
  | 0 => 1
  | s + 1 => prN N s * N s
def smN (N : Nat → Nat) : Nat → Nat
  | 0 => 0
  | s + 1 => smN N s + N s
theorem prN_m {N : Nat → Nat} (h : ∀ s, 1 ≤ N s) {s : Nat} : ∀ k, prN N s ≤ prN N (s + k)
  | 0 => Nat.le_refl _
  | k + 1 => by
    have h1 := prN_m h (s := s) k
    have h2 := Nat.le_mul_of_pos_right (prN N (s + k)) (h (s + k))
    show _ ≤ prN N (s + k) * N (s + k)
    omega
theorem prN_mo {N : Nat → Nat} (h : ∀ s, 1 ≤ N s) {s t : Nat} (hst : s ≤ t) : prN N s ≤ prN N t := by
  have := prN_m h (s := s) (t - s)
  rw [show s + (t - s) = t by omega] at this
  exact this
theorem prN_1 {N : Nat → Nat} (h : ∀ s, 1 ≤ N s) (s : Nat) : 1 ≤ prN N s := prN_mo h (Nat.zero_le s)
def wF (D : DT) (q j : Nat) : Bool := iF D j && decide (cel D j < q)
theorem wF_ad {D : DT} {c : Nat} : cnt (wF D c) 320 + cnt (fF D c) 320 ≤ cnt (wF D (c + 1)) 320 := by
  refine cnt_ad (fun k h => ?_) (fun k h => ?_) 320
  · unfold wF at h
    have := (Bool.and_eq_true _ _).mp h
    have h2 := of_decide_eq_true this.2
    refine ⟨?_, ?_⟩
    · unfold wF
      rw [this.1, decide_eq_true (by omega)]
      rfl
    · unfold fF
      rw [decide_eq_false (by omega : ¬ cel D k = c), Bool.and_false]
  · obtain ⟨h1, h2⟩ := fF_e h
    unfold wF
    rw [h1, decide_eq_true (by omega)]
    rfl
theorem wF_mo {D : DT} {q q' : Nat} (h : q ≤ q') : cnt (wF D q) 320 ≤ cnt (wF D q') 320 := cnt_mo (fun k hk => by
  unfold wF at hk ⊢
  have := (Bool.and_eq_true _ _).mp hk
  have h2 := of_decide_eq_true this.2
  rw [this.1, decide_eq_true (by omega)]
  rfl) 320
theorem smN_le {D : DT} {S : SD} : ∀ s, s ≤ cnt (hcB D) 120 → ∃ q, smN (DN D S) s ≤ 2 * s + 3 * cnt (wF D q) 320 ∧ (s < cnt (hcB D) 120 → q ≤ clD D s)
  | 0, _ => ⟨0, by show 0 ≤ _; omega, fun _ => Nat.zero_le _⟩
  | s + 1, h => by
    obtain ⟨q, h1, h2⟩ := smN_le (D := D) (S := S) s (by omega)
    have h3 := h2 (by omega)
    refine ⟨clD D s + 1, ?_, fun h4 => ?_⟩
    · have h5 := (XNP (D := D) (lo := lowC S (clD D s)) (hi := higC S (clD D s)) (c := clD D s)).2
      have h6 := wF_ad (D := D) (c := clD D s)
      have h7 := wF_mo (D := D) h3
      show smN (DN D S) s + DN D S s ≤ _
      have h8 : DN D S s ≤ 2 + 3 * cnt (fF D (clD D s)) 320 := h5
      omega
    · exact clD_lt (by omega) h4
/-- the pools never spill -/
theorem smN_bd {D : DT} {S : SD} {s : Nat} (hs : s < cnt (hcB D) 120) (h12 : cnt (hcB D) 120 ≤ 12) : smN (DN D S) s + 2 + 3 * cnt (fF D (clD D s)) 320 < 1024 := by
  obtain ⟨q, h1, h2⟩ := smN_le (D := D) (S := S) s (by omega)
  have h3 := h2 hs
  have h6 := wF_ad (D := D) (c := clD D s)
  have h7 := wF_mo (D := D) h3
  have h8 := cnt_le (p := wF D (clD D s + 1)) 320
  omega
theorem lowC_eq {A C} {S S' : SD} (x : EqX A C S S') (h1 : (!A.contains 9 && C.all (fun c => !(c.1 == 9))) = true) (h2 : (!A.contains 6 && C.all (fun c => !(c.1 == 6))) = true) (c : Nat) : lowC S' c = lowC S c := by
  unfold lowC
  rw [EqX_a x 9 h1, EqX_a x 6 h2]
theorem higC_eq {A C} {S S' : SD} (x : EqX A C S S') (h1 : (!A.contains 9 && C.all (fun c => !(c.1 == 9))) = true) (h2 : (!A.contains 7 && C.all (fun c => !(c.1 == 7))) = true) (c : Nat) : higC S' c = higC S c := by
  unfold higC
  rw [EqX_a x 9 h1, EqX_a x 7 h2]
def FNd (D : DT) (S : SD) : Prop := (gD S 62 0 7) = (cnt (hcB D) 120 : Int) ∧ (∀ c : Nat, c < 120 → (gD S 64 0 c) = if hcB D c then (cnt (hcB D) c : Int) else -1) ∧ ∀ s : Nat, s < cnt (hcB D) 120 → (gD S 63 0 s) = (clD D s : Int)
theorem FNd_of {D : DT} {S0 S : SD} (h : FNs D S0 S 120) : FNd D S := by
  obtain ⟨h1, h2, h3, h4⟩ := h
  refine ⟨h2, fun c hc => ?_, fun s hs => ?_⟩
  · rw [h3 c hc, if_pos hc]
  · obtain ⟨a1, a2, a3⟩ := clD_sp hs
    have := h4 _ a1 a2
    rw [a3] at this
    exact this
/-- the pools up to a REF -/
def GAs (D : DT) (S0 S1 S : SD) (s : Nat) : Prop := EqX [65, 66, 67] [] S1 S ∧ (∀ t : Nat, t ≤ s → (gD S 66 0 t) = (smN (DN D S0) t : Int)) ∧ (∀ t i : Nat, t < s → i < DN D S0 t → (gD S 65 0 (smN (DN D S0) t + i)) = DP D S0 t i) ∧ ∀ t : Nat, t < s → (gD S 67 0 t) = 0
theorem smN_m {N : Nat → Nat} {s : Nat} : ∀ k, smN N s ≤ smN N (s + k)
  | 0 => Nat.le_refl _
  | k + 1 => by
    have h1 := smN_m (N := N) (s := s) k
    show _ ≤ smN N (s + k) + N (s + k)
    omega
theorem smN_mo {N : Nat → Nat} {s t : Nat} (hst : s ≤ t) : smN N s ≤ smN N t := by
  have := smN_m (N := N) (s := s) (t - s)
  rw [show s + (t - s) = t by omega] at this
  exact this
theorem aw_mul {a b : Nat} (h : a * b ≤ 1000000000) : aw oo ((a : Int) * (b : Int)) = ((a * b : Nat) : Int) := by
  rw [← Int.natCast_mul]
  exact aw_id (by omega)
theorem w_gather {S0 S1 Sm : SD} {D : DT} {bits : Int} (hd : 5 ≤ d) (hT : IT S0 Sm) (hD : DAT D S0 Sm) (hb : ∀ r, r < 20 → ti bits r = dm D r) (x1 : EqX [64, 63] [(62, 7)] S0 S1) (hF : FNd D S1) (h12 : cnt (hcB D) 120 ≤ 12) : ∀ (n s : Nat) (S : SD), s ≤ cnt (hcB D) 120 → 20 - s < n → prN (DN D S0) s ≤ 20000 → GAs D S0 S1 S s → ∃ S', run oo (EE false d) false mi_85 n 15 [(0, vr (some (62, 0))), (1, vi bits), (2, vi (prN (DN D S0) s : Int)), (3, vi (s : Int))] [] S = some (vi (if prN (DN D S0) (cnt (hcB D) 120) ≤ 20000 then (prN (DN D S0) (cnt (hcB D) 120) : Int) else -2), S') ∧ EqX [65, 66, 67] [] S1 S' ∧ (gD S' 66 0 0) = 0 ∧ (prN (DN D S0) (cnt (hcB D) 120) ≤ 20000 → GAs D S0 S1 S' (cnt (hcB D) 120)) := by
  intro n
  induction n with
  | zero => intro s S z1 z2; omega
  | succ n ih =>
    intro s S z1 z2 z3 z4
    obtain ⟨q1, q2, q3, q4⟩ := z4
    have eR : (gD S 62 0 7) = (cnt (hcB D) 120 : Int) := (EqX_c q1 62 7 rfl 0).trans hF.1
    rw [b85_15, eR]
    by_cases hs : s < cnt (hcB D) 120
    · have y0 : EqX [64, 63, 65, 66, 67] [(62, 7)] S0 (wD S 66 0 (s + 1) (smN (DN D S0) s : Int)) := EqX_wA (EqX_tr (EqX_mo x1 (by decide) (by decide)) (EqX_mo q1 (by decide) (by decide))) (by decide)
      have hT2 : IT (wD S 66 0 (s + 1) (smN (DN D S0) s : Int)) Sm := IT_fr (AgX y0 rfl) AgA_rf hT
      have hD2 : DAT D (wD S 66 0 (s + 1) (smN (DN D S0) s : Int)) Sm := DAT_fr (AgX y0 rfl) AgA_rf hD
      have q2s := q2 s (Nat.le_refl s)
      have hbd := smN_bd (S := S0) hs h12
      obtain ⟨c1, c2, c3⟩ := clD_sp hs
      have hcl : gD (wD S 66 0 (s + 1) (smN (DN D S0) s : Int)) 63 0 s = (clD D s : Int) := by
        rw [g_f (by decide), EqX_a q1 63 rfl]
        exact hF.2.2 s hs
      have hth : ((clD D s / 3 : Nat) : Int) < gD (wD S 66 0 (s + 1) (smN (DN D S0) s : Int)) 3 0 10 := by
        rw [EqX_c y0 3 10 rfl 0]
        exact clD_th hD hs
      obtain ⟨S2, i1, i2⟩ := q_fill (d := d) (S0 := wD S 66 0 (s + 1) (smN (DN D S0) s : Int)) (ref := s) (B := smN (DN D S0) s) (c := clD D s) hd hT2 hD2 hb (by omega) hbd hcl hth ⟨EqX_rf, by rw [g_i, if_neg (by omega)]; exact q2s, ⟨0, fun _ => 0, Nat.le_refl 0, RSL_0, by rw [g_e]; rfl, fun i h => by omega⟩, fun j _ => rfl, fun j _ => rfl⟩
      rw [lowC_eq y0 rfl rfl, higC_eq y0 rfl rfl] at i2
      obtain ⟨j1, j2, ⟨n', P', j3, j4, j5, j6⟩, j7, j8⟩ := i2
      obtain ⟨e1, e2⟩ := RSL_un (XNP (D := D) (lo := lowC S0 (clD D s)) (hi := higC S0 (clD D s)) (c := clD D s)).1 j4
      have e1 : DN D S0 s = n' := e1
      have e2 : ∀ i, i < DN D S0 s → P' i = DP D S0 s i := e2
      subst e1
      have k962 := DN_962 (D := D) (S := S0) (s := s)
      have hmul := Nat.mul_le_mul z3 k962
      have ep : prN (DN D S0) (s + 1) = prN (DN D S0) s * DN D S0 s := rfl
      have es : smN (DN D S0) (s + 1) = smN (DN D S0) s + DN D S0 s := rfl
      have eaw : aw oo (((smN (DN D S0) s + DN D S0 s : Nat) : Int) - (smN (DN D S0) s : Int)) = (DN D S0 s : Int) := by rw [aw0 (by omega)]; omega
      rw [if_pos (by omega), if_pos (by omega), awn (by omega), if_pos (by omega), tn, tn, q2s, i1, b_V, if_pos (by omega), if_pos (by omega), if_pos (by omega)]
      rw [g_f (by decide), g_f (by decide), j5, j2, eaw, aw_mul (by omega), ← ep]
      have y3 : EqX [65, 66, 67] [] S1 (wD S2 67 0 s 0) := EqX_wA (EqX_tr (EqX_wA q1 (by decide)) (EqX_mo j1 (by decide) (by decide))) (by decide)
      have hG : GAs D S0 S1 (wD S2 67 0 s 0) (s + 1) := by
        refine ⟨y3, fun t ht => ?_, fun t i ht hi => ?_, fun t ht => ?_⟩
        · rw [g_f (by decide)]
          by_cases e : t = s + 1
          · subst e; rw [j5, es]
          · rw [j7 t e, g_i, if_neg e]
            exact q2 t (by omega)
        · rw [g_f (by decide)]
          by_cases e : t = s
          · subst e
            rw [j6 i hi]
            exact e2 i hi
          · have h8 := smN_mo (N := DN D S0) (show t + 1 ≤ s by omega)
            have h9 : smN (DN D S0) (t + 1) = smN (DN D S0) t + DN D S0 t := rfl
            rw [j8 _ (by omega), g_f (by decide)]
            exact q3 t i (by omega) hi
        · rw [g_i]
          by_cases e : t = s
          · rw [if_pos e]
          · rw [if_neg e, EqX_a j1 67 rfl, g_f (by decide)]
            exact q4 t (by omega)
      by_cases hp : 20000 < prN (DN D S0) (s + 1)
      · have := prN_mo (N := DN D S0) (fun s => DN_1) (show s + 1 ≤ cnt (hcB D) 120 by omega)
        rw [if_pos (by omega), if_neg (by omega)]
        refine ⟨_, rfl, y3, ?_, fun q => absurd q (by omega)⟩
        exact hG.2.1 0 (by omega)
      · rw [if_neg (by omega)]
        exact ih (s + 1) _ (by omega) (by omega) (by omega) hG
    · have e : s = cnt (hcB D) 120 := by omega
      rw [if_neg (by omega), ← e, if_pos z3]
      exact ⟨S, rfl, q1, q2 0 (by omega), fun _ => ⟨q1, q2, q3, q4⟩⟩
theorem q_gather {S0 Sm : SD} {D : DT} {bits : Int} (hd : 6 ≤ d) (hT : IT S0 Sm) (hD : DAT D S0 Sm) (hb : ∀ r, r < 20 → ti bits r = dm D r) (h0 : (gD S0 66 0 0) = 0) : ∃ S1 S', EE false d 85 [vr (some (62, 0)), vi bits] S0 = some (vi (if cnt (hcB D) 120 ≤ 12 then (if prN (DN D S0) (cnt (hcB D) 120) ≤ 20000 then (prN (DN D S0) (cnt (hcB D) 120) : Int) else -2) else -2), S') ∧ EqX [64, 63, 65, 66, 67] [(62, 7)] S0 S' ∧ (gD S' 66 0 0) = 0 ∧ (cnt (hcB D) 120 ≤ 12 → prN (DN D S0) (cnt (hcB D) 120) ≤ 20000 → FNd D S' ∧ GAs D S0 S1 S' (cnt (hcB D) 120)) := by
  obtain ⟨S1, i1, i2, i3⟩ := q_findRefs (d := d - 1) (by omega) hD hb
  by_cases h12 : cnt (hcB D) 120 ≤ 12
  · rw [if_pos h12] at i1
    have h1 : prN (DN D S0) 0 ≤ 20000 := by show 1 ≤ 20000; omega
    obtain ⟨S2, j1, j2, j3, j4⟩ := w_gather (d := d - 1) (by omega) hT hD hb i2 (FNd_of (i3 h12)) h12 999999 0 S1 (by omega) (by omega) h1 ⟨EqX_rf, fun t ht => by
      rw [show t = 0 by omega, EqX_a i2 66 rfl]
      exact h0, fun t i h => by omega, fun t h => by omega⟩
    refine ⟨S1, S2, ?_, EqX_tr (EqX_mo i2 (by decide) (by decide)) (EqX_mo j2 (by decide) (by decide)), j3, fun _ hp => ⟨?_, j4 hp⟩⟩
    · rw [E85 (by omega), b85_0, i1, b_I, if_neg (by decide), if_pos h12]
      exact j1
    · obtain ⟨f1, f2, f3⟩ := FNd_of (i3 h12)
      exact ⟨(EqX_c j2 62 7 rfl 0).trans f1, fun c hc => (EqX_a j2 64 rfl 0 c).trans (f2 c hc), fun s hs => (EqX_a j2 63 rfl 0 s).trans (f3 s hs)⟩
  · rw [if_neg h12] at i1
    refine ⟨S1, S1, ?_, EqX_mo i2 (by decide) (by decide), (EqX_a i2 66 rfl 0 0).trans h0, fun h => absurd h h12⟩
    rw [E85 (by omega), b85_0, i1, b_I, if_pos rfl, if_neg h12]
end
