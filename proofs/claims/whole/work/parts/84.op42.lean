/-! the numbers of a REF: class and reference fill them alike -/
section
variable {d : Nat}
theorem fF_n {D : DT} {c r k : Nat} (h : dm D r = false ∨ dn D r ≤ k) (h16 : k < 16) : fF D c (16 * r + k) = false := by
  unfold fF
  rw [iF_n h h16]
  rfl
theorem fF_r {D : DT} {c r k : Nat} (h : dm D r = false ∨ dn D r ≤ k) (j : Nat) (h1 : 16 * r + k ≤ j) (h2 : j < 16 * (r + 1)) : fF D c j = false := by
  have := fF_n (c := c) (k := j - 16 * r) (h.elim Or.inl (fun q => Or.inr (by omega))) (by omega)
  rw [show 16 * r + (j - 16 * r) = j by omega] at this
  exact this
theorem w_fill {S0 Sm : SD} {D : DT} {ref B c : Nat} {lo hi bits : Int} (hd : 4 ≤ d) (hD : DAT D S0 Sm) (hb : ∀ r, r < 20 → ti bits r = dm D r) (hr : ref < 12) (hBB : B + 2 + 3 * cnt (fF D c) 320 < 1024) : ∀ n, (∀ (r : Nat) (S : SD), r ≤ 20 → 20 * (20 - r) < n → PLs S0 S ref B (XS D lo hi c (16 * r)) (2 + 3 * cnt (fF D c) (16 * r)) → ∃ S', run oo (EE false d) false mi_87 n 54 [(0, vr (some (62, 0))), (1, vi (ref : Int)), (2, vi bits), (3, vi (c : Int)), (4, vi lo), (5, vi hi), (6, vi (r : Int))] [] S = some (vi 0, S') ∧ PLs S0 S' ref B (XS D lo hi c 320) (2 + 3 * cnt (fF D c) 320)) ∧ (∀ (r k : Nat) (S : SD), r < 20 → dm D r = true → k ≤ dn D r → 20 * (19 - r) + (18 - k) < n → PLs S0 S ref B (XS D lo hi c (16 * r + k)) (2 + 3 * cnt (fF D c) (16 * r + k)) → ∃ S', run oo (EE false d) false mi_87 n 89 [(0, vr (some (62, 0))), (1, vi (ref : Int)), (2, vi bits), (3, vi (c : Int)), (4, vi lo), (5, vi hi), (6, vi (r : Int)), (7, vr (some (47, r))), (8, vi (k : Int))] [] S = some (vi 0, S') ∧ PLs S0 S' ref B (XS D lo hi c 320) (2 + 3 * cnt (fF D c) 320)) := by
  have hD' := hD
  unfold DAT at hD'
  obtain ⟨D1, D2, D3, D4, D5, D6, D7, D8, D9⟩ := hD'
  intro n
  induction n using Nat.strongRecOn with
  | ind n ih =>
    refine ⟨fun r S h1 h2 h3 => ?_, fun r k S h1 h2 h3 h4 h5 => ?_⟩
    · obtain ⟨m, rfl⟩ : ∃ m, n = m + 1 := ⟨n - 1, by omega⟩
      rw [b87_54]
      by_cases c1 : r < 20
      · have x := h3.1
        rw [if_pos (by omega), bit32 _ _ (by omega), hb r c1]
        cases hm : dm D r with
        | true =>
          obtain ⟨g1, g2, g3, g4⟩ := D1 r c1 hm
          rw [if_pos rfl, if_pos rfl, q_ruleAt1 (by omega) r (by rw [EqX_c x 41 8 rfl]; exact g1) c1, b_R1]
          exact (ih m (by omega)).2 r 0 S c1 hm (by omega) (by omega) h3
        | false =>
          rw [if_neg (by decide)]
          obtain ⟨m', rfl⟩ : ∃ m', m = m' + 1 := ⟨m - 1, by omega⟩
          rw [b87_89, awp (show r < 1000000 by omega)]
          refine (ih m' (by omega)).1 (r + 1) S (by omega) (by omega) (PLs_mo h3 (XS_sk (by omega) (fF_r (k := 0) (Or.inl hm))) ?_)
          rw [cnt_s (by omega) (fF_r (c := c) (k := 0) (Or.inl hm))]
          exact Nat.le_refl _
      · have e : r = 20 := by omega
        subst e
        rw [if_neg (by omega)]
        exact ⟨S, rfl, h3⟩
    · obtain ⟨m, rfl⟩ : ∃ m, n = m + 1 := ⟨n - 1, by omega⟩
      have x := h5.1
      obtain ⟨g1, g2, g3, g4⟩ := D1 r h1 h2
      have ef : (gD S 47 r 7) = (dn D r : Int) := (EqX_c x 47 7 rfl r).trans g2
      rw [b87_89a]
      by_cases c1 : k < dn D r
      · obtain ⟨f1, f2, f3, f4, f5, f6, f7, f8, f9⟩ := D2 r k h1 h2 c1
        have et : (gD S 49 r k) = (dt D (16 * r + k) : Int) := (EqX_a x 49 rfl r k).trans f2
        have ee : (gD S 50 r k) = (df D (16 * r + k) : Int) := (EqX_a x 50 rfl r k).trans f4
        have ev : (gD S 53 r k) = dv D (16 * r + k) := (EqX_a x 53 rfl r k).trans f6
        have ec : ((dt D (16 * r + k) : Nat) : Int) * 3 + ((df D (16 * r + k) : Nat) : Int) = ((cel D (16 * r + k) : Nat) : Int) := by unfold cel; omega
        have hF : fF D c (16 * r + k) = decide (cel D (16 * r + k) = c) := by
          unfold fF
          rw [iF_t h2 c1 (by omega), Bool.true_and]
        rw [if_pos (by rw [ef]; omega), q_factCell (by omega) r k _ _ (by rw [ef]; omega) (by omega) et ee (by omega) f5, b_I, ec]
        by_cases c2 : cel D (16 * r + k) = c
        · rw [decide_eq_true c2] at hF
          have hc := cnt_t hF
          have hm := cnt_m (p := fF D c) (show 16 * r + k + 1 ≤ 320 by omega)
          obtain ⟨S', i1, i2⟩ := q_near (d := d) (lo := lo) (hi := hi) (by omega) hr (by omega) ⟨f7, f8⟩ h5
          rw [if_pos (by rw [c2]), q_hasFact (by omega) r k (by rw [ef]; omega) (by omega), b_I, if_neg (by decide), if_pos (by omega), tn, ev, i1, b_V, awp (show k < 1000000 by omega)]
          exact (ih m (by omega)).2 r (k + 1) S' h1 h2 (by omega) (by omega) (PLs_mo i2 (XS_in hF) (by rw [show 16 * r + (k + 1) = 16 * r + k + 1 by omega]; omega))
        · rw [decide_eq_false c2] at hF
          have hc := cnt_f hF
          rw [if_neg (fun q => c2 (by omega)), awp (show k < 1000000 by omega)]
          refine (ih m (by omega)).2 r (k + 1) S h1 h2 (by omega) (by omega) (PLs_mo h5 (XS_sk (by omega) (fun j a b => ?_)) (by rw [show 16 * r + (k + 1) = 16 * r + k + 1 by omega]; omega))
          rw [show j = 16 * r + k by omega]
          exact hF
      · rw [if_neg (by rw [ef]; omega), awp (show r < 1000000 by omega)]
        refine (ih m (by omega)).1 (r + 1) S (by omega) (by omega) (PLs_mo h5 (XS_sk (by omega) (fF_r (Or.inr (by omega)))) ?_)
        rw [cnt_s (by omega) (fF_r (c := c) (Or.inr (show dn D r ≤ k by omega)))]
        exact Nat.le_refl _
theorem dv3 {c : Nat} (h : c < 1000) : aw oo (ab oo 12 (c : Int) 3) = ((c / 3 : Nat) : Int) := by
  show aw oo (Int.tdiv (c : Int) 3) = _
  rw [Int.tdiv_eq_ediv_of_nonneg (by omega), aw_id (by omega)]
  omega
theorem md3 {c : Nat} (h : c < 1000) : aw oo ((c : Int) - ab oo 12 (c : Int) 3 * 3) = ((c % 3 : Nat) : Int) := by
  show aw oo ((c : Int) - Int.tdiv (c : Int) 3 * 3) = _
  rw [Int.tdiv_eq_ediv_of_nonneg (by omega), aw_id (by omega)]
  omega
def lowC (S : SD) (c : Nat) : Int := (gD S 6 0 (((gD S 9 0 (c / 3)) * 3 + ((c % 3 : Nat) : Int)).toNat))
def higC (S : SD) (c : Nat) : Int := (gD S 7 0 (((gD S 9 0 (c / 3)) * 3 + ((c % 3 : Nat) : Int)).toNat))
theorem q_fill {S0 Sm S : SD} {D : DT} {ref B c : Nat} {bits : Int} (hd : 5 ≤ d) (hT : IT S0 Sm) (hD : DAT D S0 Sm) (hb : ∀ r, r < 20 → ti bits r = dm D r) (hr : ref < 12) (hBB : B + 2 + 3 * cnt (fF D c) 320 < 1024) (hc : (gD S0 63 0 ref) = (c : Int)) (hc3 : ((c / 3 : Nat) : Int) < (gD S0 3 0 10)) (h : PLs S0 S ref B (fun _ => False) 0) : ∃ S', EE false d 87 [vr (some (62, 0)), vi (ref : Int), vi bits] S = some (vi 0, S') ∧ PLs S0 S' ref B (XS D (lowC S0 c) (higC S0 c) c 320) (2 + 3 * cnt (fF D c) 320) := by
  have x := h.1
  have hT' := hT
  unfold IT at hT'
  obtain ⟨t1, t2, t3, t4, t5, t6⟩ := hT'
  have t3' : (gD S0 3 0 10) ≤ 40 := t3
  have t5' : ∀ k : Nat, 0 ≤ (gD S0 9 0 k) ∧ (gD S0 9 0 k) ≤ 7 := t5
  have ek : (gD S 9 0 (c / 3)) = (gD S0 9 0 (c / 3)) := EqX_a x 9 rfl 0 _
  have es : (gD S 3 0 10) = (gD S0 3 0 10) := EqX_c x 3 10 rfl 0
  have ecl : (gD S 63 0 ref) = (c : Int) := (EqX_a x 63 rfl 0 ref).trans hc
  have el : ∀ k, (gD S 6 0 k) = (gD S0 6 0 k) := fun k => EqX_a x 6 rfl 0 k
  have em : ∀ k, (gD S 7 0 k) = (gD S0 7 0 k) := fun k => EqX_a x 7 rfl 0 k
  obtain ⟨S1, i1, i2⟩ := q_insert (d := d - 1) (by omega) (lowC S0 c) hr (by omega) h
  obtain ⟨S2, j1, j2⟩ := q_insert (d := d - 1) (by omega) (higC S0 c) hr (by omega) i2
  obtain ⟨S3, k1, k2⟩ := (w_fill (d := d - 1) (lo := lowC S0 c) (hi := higC S0 c) (c := c) (by omega) hD hb hr hBB 999999).1 0 S2 (by omega) (by omega) (PLs_mo j2 (fun v => ⟨fun q => by
    rcases q with (q | q) | q
    · exact q.elim
    · exact Or.inl q
    · exact Or.inr (Or.inl q), fun q => by
    rcases q with q | q | ⟨j, q, _⟩
    · exact Or.inl (Or.inr q)
    · exact Or.inr q
    · exact absurd q (by omega)⟩) (by omega))
  refine ⟨S3, ?_, k2⟩
  rw [E87 (by omega), b87_0, if_pos (by omega), tn, ecl, dv3 (by omega), md3 (by omega), q_least (by omega) _ _ (by rw [es]; exact hc3) (by omega) (by omega) (by rw [ek]; exact t5' _), b_I, q_most (by omega) _ _ (by rw [es]; exact hc3) (by omega) (by omega) (by rw [ek]; exact t5' _), b_I, el, em, ek]
  show bV (EE false (d - 1) 89 [vr (some (62, 0)), vi (ref : Int), vi (lowC S0 c)] S) _ = _
  rw [i1, b_V]
  show bV (EE false (d - 1) 89 [vr (some (62, 0)), vi (ref : Int), vi (higC S0 c)] S1) _ = _
  rw [j1, b_V]
  exact k1
/-- the reference -/
def Jd (D : DT) : Nat → Nat
  | 0 => 0
  | l + 1 => 16 * dk D l + 16
theorem dk_le {D : DT} {S0 Sm : SD} (hD : DAT D S0 Sm) {l m : Nat} (h : l ≤ m) (hm : m < dL D) : dk D l ≤ dk D m := by
  unfold DAT at hD
  by_cases e : l = m
  · rw [e]; exact Nat.le_refl _
  · have := hD.2.2.2.2.2.1 l m (by omega) hm
    omega
theorem Jd_sk {D : DT} {S0 Sm : SD} (hD : DAT D S0 Sm) {l : Nat} (hl : l ≤ dL D) (j : Nat) (h1 : Jd D l ≤ j) (h2 : j < 320) (h3 : l < dL D → j < 16 * dk D l) : iF D j = false := by
  cases hF : iF D j with
  | false => rfl
  | true =>
    exfalso
    obtain ⟨g1, g2⟩ := iF_e hF
    have hD' := hD
    unfold DAT at hD'
    obtain ⟨m, m1, m2⟩ := hD'.2.2.2.2.2.2.1 (j / 16) (by omega) g1
    by_cases c : m < l
    · cases l with
      | zero => omega
      | succ l =>
        have := dk_le hD (show m ≤ l by omega) (by omega)
        have h1 : 16 * dk D l + 16 ≤ j := h1
        omega
    · have := dk_le hD (show l ≤ m by omega) m1
      have := h3 (by omega)
      omega
theorem w_M_near1 {S0 S Sc : SD} {r b t f i : Nat} {X : Int → Prop} {l1 l3 num x : Int} (hd : 3 ≤ d) (hr : r < 12) (hb : b < 999) (hT : IT Sc S0) (ht : (gD S0 147 0 r) = (t : Int)) (hf : (gD S0 148 0 r) = (f : Int)) (ht4 : t < 40) (hf3 : f < 3) (hi : i < 320) (hn : (gD S0 132 0 i) = num) (hn9 : -999999 ≤ num ∧ num ≤ 999999) (hx : -1 ≤ x ∧ x ≤ 1) (h : MLs S0 S r X b) (n : Nat) : ∃ S', run oo (EE false d) false mi_276 (n + 1) 157 [(0, vr (some (85, 0))), (1, vi l1), (2, vi (r : Int)), (3, vi l3), (4, vi (i : Int)), (5, vi x)] [] S = run oo (EE false d) false mi_276 n 157 [(0, vr (some (85, 0))), (1, vi l1), (2, vi (r : Int)), (3, vi l3), (4, vi (i : Int)), (5, vi (x + 1))] [] S' ∧ MLs S0 S' r (fun v => X v ∨ (v = num + x ∧ (gD Sc 6 0 (((gD Sc 9 0 t) * 3 + (f : Int)).toNat)) ≤ num + x ∧ num + x ≤ (gD Sc 7 0 (((gD Sc 9 0 t) * 3 + (f : Int)).toNat)))) (b + 1) := by
  obtain ⟨S', i1, i2⟩ := q_starts (d := d) (by omega) (num + x) hr hb hT ht hf ht4 hf3 h
  refine ⟨S', ?_, i2⟩
  rw [b276_157, if_neg (by omega), if_pos (by omega), tn, EqX_a h.1 132 rfl, hn, aw0 (by omega), i1, b_V, aw0 (z := x + 1) (by omega)]
theorem w_rowF {Sc S0 : SD} {D : DT} {r c : Nat} {l1 : Int} (hd : 3 ≤ d) (hT : IT Sc S0) (hD : DAT D Sc S0) (hr : r < 12) (ht : (gD S0 147 0 r) = ((c / 3 : Nat) : Int)) (hf : (gD S0 148 0 r) = ((c % 3 : Nat) : Int)) (hc : c < 120) (hro : ∀ j, j < 320 → iF D j = true → (cel D j = c → (gD S0 149 0 j) = (r : Int))) : ∀ n, (∀ (l : Nat) (S : SD), l ≤ dL D → 90 * (dL D - l) < n → MLs S0 S r (XS D (lowC Sc c) (higC Sc c) c (Jd D l)) (2 + 3 * cnt (fF D c) (Jd D l)) → ∃ m S', (n ≤ m + 90 * (dL D - l) ∧ m ≤ n) ∧ run oo (EE false d) false mi_276 n 63 [(0, vr (some (85, 0))), (1, vi l1), (2, vi (r : Int)), (3, vi (l : Int))] [] S = run oo (EE false d) false mi_276 m 63 [(0, vr (some (85, 0))), (1, vi l1), (2, vi (r : Int)), (3, vi (dL D : Int))] [] S' ∧ MLs S0 S' r (XS D (lowC Sc c) (higC Sc c) c 320) (2 + 3 * cnt (fF D c) 320)) ∧ (∀ (l k : Nat) (S : SD), l < dL D → k ≤ dn D (dk D l) → 90 * (dL D - l - 1) + 5 * (16 - k) + 5 < n → MLs S0 S r (XS D (lowC Sc c) (higC Sc c) c (16 * dk D l + k)) (2 + 3 * cnt (fF D c) (16 * dk D l + k)) → ∃ m S', (n ≤ m + 90 * (dL D - l - 1) + 5 * (16 - k) + 5 ∧ m ≤ n) ∧ run oo (EE false d) false mi_276 n 82 [(0, vr (some (85, 0))), (1, vi l1), (2, vi (r : Int)), (3, vi (l : Int)), (4, vi ((16 * dk D l + k : Nat) : Int))] [] S = run oo (EE false d) false mi_276 m 63 [(0, vr (some (85, 0))), (1, vi l1), (2, vi (r : Int)), (3, vi (dL D : Int))] [] S' ∧ MLs S0 S' r (XS D (lowC Sc c) (higC Sc c) c 320) (2 + 3 * cnt (fF D c) 320)) := by
  have hD' := hD
  unfold DAT at hD'
  obtain ⟨D1, D2, D3, D4, D5, D6, D7, D8, D9⟩ := hD'
  have fn : ∀ j, iF D j = false → fF D c j = false := fun j h => by unfold fF; rw [h]; rfl
  intro n
  induction n using Nat.strongRecOn with
  | ind n ih =>
    refine ⟨fun l S h1 h2 h3 => ?_, fun l k S h1 h2 h4 h5 => ?_⟩
    · by_cases c1 : l < dL D
      · obtain ⟨m, rfl⟩ : ∃ m, n = m + 1 := ⟨n - 1, by omega⟩
        have x := h3.1
        obtain ⟨q1, q2, q3⟩ := D5 l c1
        have eL : (gD S 85 0 90) = (dL D : Int) := (EqX_c x 85 90 rfl 0).trans D3
        have ek : (gD S 156 0 l) = (dk D l : Int) := (EqX_a x 156 rfl 0 l).trans q1
        rw [b276_63, eL, if_pos (by omega), if_pos (by omega), tn, ek, aw0 (by omega)]
        have hs : ∀ j, Jd D l ≤ j → j < 16 * dk D l → fF D c j = false := fun j a b => fn j (Jd_sk hD h1 j a (by omega) (fun _ => b))
        have hJ : Jd D l ≤ 16 * dk D l := by
          cases l with
          | zero => exact Nat.zero_le _
          | succ l =>
            have := D6 l (l + 1) (by omega) c1
            show 16 * dk D l + 16 ≤ _
            omega
        obtain ⟨m', S', i1, i2, i3⟩ := (ih m (by omega)).2 l 0 S c1 (by omega) (by omega) (MLs_mo h3 (XS_sk hJ hs) (by rw [Nat.add_zero, cnt_s hJ hs]; exact Nat.le_refl _))
        refine ⟨m', S', by omega, ?_, i3⟩
        rw [← i2, show ((16 * dk D l + 0 : Nat) : Int) = 16 * ((dk D l : Nat) : Int) by omega]
      · have e : l = dL D := by omega
        subst e
        have hs : ∀ j, Jd D (dL D) ≤ j → j < 320 → fF D c j = false := fun j a b => fn j (Jd_sk hD h1 j a b (fun q => absurd q c1))
        have hJ : Jd D (dL D) ≤ 320 := by
          cases hh : dL D with
          | zero => exact Nat.zero_le _
          | succ l =>
            have := (D5 l (by omega)).2.1
            show 16 * dk D l + 16 ≤ _
            omega
        exact ⟨n, S, by omega, rfl, MLs_mo h3 (XS_sk hJ hs) (by rw [cnt_s hJ hs]; exact Nat.le_refl _)⟩
    · obtain ⟨m, rfl⟩ : ∃ m, n = m + 1 := ⟨n - 1, by omega⟩
      have x := h5.1
      obtain ⟨q1, q2, q3⟩ := D5 l h1
      obtain ⟨g1, g2, g3, g4⟩ := D1 _ q2 q3
      have ek : (gD S 156 0 l) = (dk D l : Int) := (EqX_a x 156 rfl 0 l).trans q1
      have ef : (gD S 123 0 (dk D l)) = (dn D (dk D l) : Int) := (EqX_a x 123 rfl 0 _).trans g4
      rw [b276_82, if_pos (by omega), if_pos (by omega), tn, ek, if_pos (by omega), tn, ef, aw0 (z := 16 * ((dk D l : Nat) : Int)) (by omega), aw0 (by omega)]
      by_cases c1 : k < dn D (dk D l)
      · obtain ⟨f1, f2, f3, f4, f5, f6, f7, f8, f9, f10, f11⟩ := D2 _ k q2 q3 c1
        have hk16 : k < 16 := by omega
        have hj : 16 * dk D l + k < 320 := by omega
        have hI := iF_t q3 c1 hk16
        have et : (gD S 128 0 (16 * dk D l + k)) = (dt D (16 * dk D l + k) : Int) := (EqX_a x 128 rfl 0 _).trans f9
        have ee : (gD S 129 0 (16 * dk D l + k)) = (df D (16 * dk D l + k) : Int) := (EqX_a x 129 rfl 0 _).trans f10
        have er : (gD S 149 0 (16 * dk D l + k)) = (gD S0 149 0 (16 * dk D l + k)) := EqX_a x 149 rfl 0 _
        have eT : (gD S 147 0 r) = ((c / 3 : Nat) : Int) := (EqX_a x 147 rfl 0 _).trans ht
        have eF : (gD S 148 0 r) = ((c % 3 : Nat) : Int) := (EqX_a x 148 rfl 0 _).trans hf
        have hF : fF D c (16 * dk D l + k) = decide (cel D (16 * dk D l + k) = c) := by
          unfold fF
          rw [hI, Bool.true_and]
        have e1 := awp (show 16 * dk D l + k < 1000000 by omega)
        rw [show 16 * dk D l + k + 1 = 16 * dk D l + (k + 1) by omega] at e1
        have b1 : (0 ≤ ((16 * dk D l + k : Nat) : Int) ∧ ((16 * dk D l + k : Nat) : Int) < 320) = True := eq_true (by omega)
        have b2 : (0 ≤ (r : Int) ∧ (r : Int) < 12) = True := eq_true (by omega)
        rw [if_pos (by omega)]
        simp only [b1, b2, if_true, tn, er, et, eT, ee, eF]
        have skip : fF D c (16 * dk D l + k) = false → ∃ m' S', (m + 1 ≤ m' + 90 * (dL D - l - 1) + 5 * (16 - k) + 5 ∧ m' ≤ m + 1) ∧ run oo (EE false d) false mi_276 m 82 [(0, vr (some (85, 0))), (1, vi l1), (2, vi (r : Int)), (3, vi (l : Int)), (4, vi ((16 * dk D l + (k + 1) : Nat) : Int))] [] S = run oo (EE false d) false mi_276 m' 63 [(0, vr (some (85, 0))), (1, vi l1), (2, vi (r : Int)), (3, vi (dL D : Int))] [] S' ∧ MLs S0 S' r (XS D (lowC Sc c) (higC Sc c) c 320) (2 + 3 * cnt (fF D c) 320) := fun hn => by
          have hc := cnt_f hn
          obtain ⟨m', S', i1, i2, i3⟩ := (ih m (by omega)).2 l (k + 1) S h1 (by omega) (by omega) (MLs_mo h5 (XS_sk (by omega) (fun j a b => by rw [show j = 16 * dk D l + k by omega]; exact hn)) (by rw [show 16 * dk D l + (k + 1) = 16 * dk D l + k + 1 by omega]; omega))
          exact ⟨m', S', by omega, i2, i3⟩
        by_cases c2 : cel D (16 * dk D l + k) = c
        · have hc3 : dt D (16 * dk D l + k) = c / 3 ∧ df D (16 * dk D l + k) = c % 3 := by unfold cel at c2; omega
          rw [decide_eq_true c2] at hF
          have hc := cnt_t hF
          have hm := cnt_m (p := fF D c) (show 16 * dk D l + k + 1 ≤ 320 by omega)
          have hm9 : 2 + 3 * cnt (fF D c) (16 * dk D l + k) + 3 ≤ 965 := by
            have := cnt_le (p := fF D c) 320
            omega
          rw [hro _ hj hI c2, if_pos rfl, hc3.1, if_pos rfl, hc3.2, if_pos rfl]
          obtain ⟨m1, rfl⟩ : ∃ m1, m = m1 + 1 + 1 + 1 + 1 := ⟨m - 4, by omega⟩
          obtain ⟨S1, i1, j1⟩ := w_M_near1 (l1 := l1) (l3 := (l : Int)) (i := 16 * dk D l + k) (x := -1) hd hr (by omega) hT ht hf (by omega) (by omega) hj f11 ⟨f7, f8⟩ (by omega) h5 (m1 + 1 + 1 + 1)
          obtain ⟨S2, i2, j2⟩ := w_M_near1 (l1 := l1) (l3 := (l : Int)) (i := 16 * dk D l + k) (x := -1 + 1) hd hr (by omega) hT ht hf (by omega) (by omega) hj f11 ⟨f7, f8⟩ (by omega) j1 (m1 + 1 + 1)
          obtain ⟨S3, i3, j3⟩ := w_M_near1 (l1 := l1) (l3 := (l : Int)) (i := 16 * dk D l + k) (x := -1 + 1 + 1) hd hr (by omega) hT ht hf (by omega) (by omega) hj f11 ⟨f7, f8⟩ (by omega) j2 (m1 + 1)
          have i4 : run oo (EE false d) false mi_276 (m1 + 1) 157 [(0, vr (some (85, 0))), (1, vi l1), (2, vi (r : Int)), (3, vi (l : Int)), (4, vi ((16 * dk D l + k : Nat) : Int)), (5, vi (-1 + 1 + 1 + 1))] [] S3 = run oo (EE false d) false mi_276 m1 82 [(0, vr (some (85, 0))), (1, vi l1), (2, vi (r : Int)), (3, vi (l : Int)), (4, vi ((16 * dk D l + (k + 1) : Nat) : Int))] [] S3 := by
            rw [b276_157, if_pos (by omega), e1]
          rw [i1, i2, i3, i4]
          have hX : ∀ v, ((((XS D (lowC Sc c) (higC Sc c) c (16 * dk D l + k) v) ∨ (v = dv D (16 * dk D l + k) + -1 ∧ lowC Sc c ≤ dv D (16 * dk D l + k) + -1 ∧ dv D (16 * dk D l + k) + -1 ≤ higC Sc c)) ∨ (v = dv D (16 * dk D l + k) + (-1 + 1) ∧ lowC Sc c ≤ dv D (16 * dk D l + k) + (-1 + 1) ∧ dv D (16 * dk D l + k) + (-1 + 1) ≤ higC Sc c)) ∨ (v = dv D (16 * dk D l + k) + (-1 + 1 + 1) ∧ lowC Sc c ≤ dv D (16 * dk D l + k) + (-1 + 1 + 1) ∧ dv D (16 * dk D l + k) + (-1 + 1 + 1) ≤ higC Sc c)) ↔ XS D (lowC Sc c) (higC Sc c) c (16 * dk D l + (k + 1)) v := fun v => by
            rw [show 16 * dk D l + (k + 1) = 16 * dk D l + k + 1 by omega, ← XS_in hF v]
            constructor
            · rintro (((q | q) | q) | q)
              · exact Or.inl q
              · exact Or.inr (by omega)
              · exact Or.inr (by omega)
              · exact Or.inr (by omega)
            · rintro (q | q)
              · exact Or.inl (Or.inl (Or.inl q))
              · by_cases c4 : v = dv D (16 * dk D l + k) - 1
                · exact Or.inl (Or.inl (Or.inr (by omega)))
                · by_cases c5 : v = dv D (16 * dk D l + k)
                  · exact Or.inl (Or.inr (by omega))
                  · exact Or.inr (by omega)
          obtain ⟨m', S', k1, k2, k3⟩ := (ih m1 (by omega)).2 l (k + 1) S3 h1 (by omega) (by omega) (MLs_mo j3 hX (by rw [show 16 * dk D l + (k + 1) = 16 * dk D l + k + 1 by omega]; omega))
          exact ⟨m', S', by omega, k2, k3⟩
        · rw [decide_eq_false c2] at hF
          rw [e1]
          have s1 := skip hF
          by_cases a1 : (gD S0 149 0 (16 * dk D l + k)) = (r : Int)
          · rw [if_pos a1]
            by_cases a2 : ((dt D (16 * dk D l + k) : Nat) : Int) = ((c / 3 : Nat) : Int)
            · rw [if_pos a2, if_neg (fun q => c2 (by unfold cel; omega))]
              exact s1
            · rw [if_neg a2]
              exact s1
          · rw [if_neg a1]
            exact s1
      · rw [if_neg (by omega), awp (show l < 1000000 by omega)]
        have hs : ∀ j, 16 * dk D l + k ≤ j → j < 16 * (dk D l + 1) → fF D c j = false := fF_r (Or.inr (by omega))
        obtain ⟨m', S', i1, i2, i3⟩ := (ih m (by omega)).1 (l + 1) S (by omega) (by omega) (MLs_mo h5 (XS_sk (J' := Jd D (l + 1)) (by show _ ≤ 16 * dk D l + 16; omega) (fun j a b => hs j a (by have b : j < 16 * dk D l + 16 := b; omega))) (by
          have := cnt_s (p := fF D c) (n := 16 * dk D l + k) (m := Jd D (l + 1)) (by show _ ≤ 16 * dk D l + 16; omega) (fun j a b => hs j a (by have b : j < 16 * dk D l + 16 := b; omega))
          omega))
        exact ⟨m', S', by omega, i2, i3⟩
end
