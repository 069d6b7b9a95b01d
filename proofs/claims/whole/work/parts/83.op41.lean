/-! the rules that are looked at, as data that both sides share -/
abbrev DT : Type := (Nat → Bool) × (Nat → Nat) × (Nat → Nat) × (Nat → Nat) × (Nat → Int) × Nat × (Nat → Nat)
def dm (D : DT) (r : Nat) : Bool := D.1 r
def dn (D : DT) (r : Nat) : Nat := D.2.1 r
def dt (D : DT) (j : Nat) : Nat := D.2.2.1 j
def df (D : DT) (j : Nat) : Nat := D.2.2.2.1 j
def dv (D : DT) (j : Nat) : Int := D.2.2.2.2.1 j
def dL (D : DT) : Nat := D.2.2.2.2.2.1
def dk (D : DT) (l : Nat) : Nat := D.2.2.2.2.2.2 l
def DAT (D : DT) (Sc Sm : SD) : Prop := (∀ r : Nat, r < 20 → dm D r = true → (r : Int) < (gD Sc 41 0 8) ∧ (gD Sc 47 r 7) = (dn D r : Int) ∧ dn D r ≤ 16 ∧ (gD Sm 123 0 r) = (dn D r : Int))
  ∧ (∀ r k : Nat, r < 20 → dm D r = true → k < dn D r → (gD Sc 48 r k) = 0 ∧ (gD Sc 49 r k) = (dt D (16 * r + k) : Int) ∧ (dt D (16 * r + k) : Int) < (gD Sc 3 0 10) ∧ (gD Sc 50 r k) = (df D (16 * r + k) : Int) ∧ df D (16 * r + k) < 3 ∧ (gD Sc 53 r k) = dv D (16 * r + k) ∧ -999999 ≤ dv D (16 * r + k) ∧ dv D (16 * r + k) ≤ 999999
    ∧ (gD Sm 128 0 (16 * r + k)) = (dt D (16 * r + k) : Int) ∧ (gD Sm 129 0 (16 * r + k)) = (df D (16 * r + k) : Int) ∧ (gD Sm 132 0 (16 * r + k)) = dv D (16 * r + k))
  ∧ (gD Sm 85 0 90) = (dL D : Int) ∧ dL D ≤ 20 ∧ (∀ l : Nat, l < dL D → (gD Sm 156 0 l) = (dk D l : Int) ∧ dk D l < 20 ∧ dm D (dk D l) = true)
  ∧ (∀ l m : Nat, l < m → m < dL D → dk D l < dk D m) ∧ (∀ r : Nat, r < 20 → dm D r = true → ∃ l : Nat, l < dL D ∧ dk D l = r)
  ∧ (gD Sc 3 0 10) ≤ 40 ∧ (gD Sm 85 0 6) = (gD Sc 3 0 10)
def DAT_ac : List Nat := [48, 49, 50, 53]
def DAT_cc : List (Nat × Nat) := [(3, 10), (41, 8), (47, 7)]
def DAT_am : List Nat := [123, 128, 129, 132, 156]
def DAT_cm : List (Nat × Nat) := [(85, 6), (85, 90)]
theorem DAT_fr {Sc Sc' Sm Sm' : SD} {D : DT} (h : AgA DAT_ac DAT_cc Sc Sc') (h' : AgA DAT_am DAT_cm Sm Sm') (hI : DAT D Sc Sm) : DAT D Sc' Sm' := by
  have e1 : ∀ j k, gD Sc' 48 j k = gD Sc 48 j k := h.1 48 (by decide)
  have e2 : ∀ j k, gD Sc' 49 j k = gD Sc 49 j k := h.1 49 (by decide)
  have e3 : ∀ j k, gD Sc' 50 j k = gD Sc 50 j k := h.1 50 (by decide)
  have e4 : ∀ j k, gD Sc' 53 j k = gD Sc 53 j k := h.1 53 (by decide)
  have e5 : ∀ j, gD Sc' 3 j 10 = gD Sc 3 j 10 := h.2 (3, 10) (by decide)
  have e6 : ∀ j, gD Sc' 41 j 8 = gD Sc 41 j 8 := h.2 (41, 8) (by decide)
  have e7 : ∀ j, gD Sc' 47 j 7 = gD Sc 47 j 7 := h.2 (47, 7) (by decide)
  have e8 : ∀ j k, gD Sm' 123 j k = gD Sm 123 j k := h'.1 123 (by decide)
  have e9 : ∀ j k, gD Sm' 128 j k = gD Sm 128 j k := h'.1 128 (by decide)
  have e10 : ∀ j k, gD Sm' 129 j k = gD Sm 129 j k := h'.1 129 (by decide)
  have e11 : ∀ j k, gD Sm' 132 j k = gD Sm 132 j k := h'.1 132 (by decide)
  have e12 : ∀ j k, gD Sm' 156 j k = gD Sm 156 j k := h'.1 156 (by decide)
  have e13 : ∀ j, gD Sm' 85 j 6 = gD Sm 85 j 6 := h'.2 (85, 6) (by decide)
  have e14 : ∀ j, gD Sm' 85 j 90 = gD Sm 85 j 90 := h'.2 (85, 90) (by decide)
  unfold DAT at *
  simp only [e1, e2, e3, e4, e5, e6, e7, e8, e9, e10, e11, e12, e13, e14]
  exact hI
section
variable {d : Nat}
def iF (D : DT) (j : Nat) : Bool := dm D (j / 16) && decide (j % 16 < dn D (j / 16))
def cel (D : DT) (j : Nat) : Nat := 3 * dt D j + df D j
def fF (D : DT) (c j : Nat) : Bool := iF D j && decide (cel D j = c)
theorem iF_t {D : DT} {r k : Nat} (hm : dm D r = true) (hk : k < dn D r) (h16 : k < 16) : iF D (16 * r + k) = true := by
  unfold iF
  rw [show (16 * r + k) / 16 = r by omega, show (16 * r + k) % 16 = k by omega, hm, decide_eq_true hk]
  rfl
theorem iF_n {D : DT} {r k : Nat} (h : dm D r = false ∨ dn D r ≤ k) (h16 : k < 16) : iF D (16 * r + k) = false := by
  unfold iF
  rw [show (16 * r + k) / 16 = r by omega, show (16 * r + k) % 16 = k by omega]
  rcases h with h | h
  · rw [h]; rfl
  · rw [decide_eq_false (by omega : ¬ k < dn D r), Bool.and_false]
theorem iF_e {D : DT} {j : Nat} (h : iF D j = true) : dm D (j / 16) = true ∧ j % 16 < dn D (j / 16) := by
  unfold iF at h
  have := (Bool.and_eq_true _ _).mp h
  exact ⟨this.1, of_decide_eq_true this.2⟩
theorem cnt_mk {p : Nat → Bool} {n : Nat} : ∀ k, cnt p n ≤ cnt p (n + k)
  | 0 => Nat.le_refl _
  | k + 1 => by
    have := cnt_mk (p := p) (n := n) k
    show _ ≤ cnt p (n + k) + _
    omega
theorem cnt_m {p : Nat → Bool} {n m : Nat} (h : n ≤ m) : cnt p n ≤ cnt p m := by
  have := cnt_mk (p := p) (n := n) (m - n)
  rw [show n + (m - n) = m by omega] at this
  exact this
theorem cnt_sk {p : Nat → Bool} {n : Nat} : ∀ k, (∀ j, n ≤ j → j < n + k → p j = false) → cnt p (n + k) = cnt p n
  | 0, _ => rfl
  | k + 1, h => by
    have := cnt_sk (p := p) (n := n) k (fun j h1 h2 => h j h1 (by omega))
    show cnt p (n + k) + (if p (n + k) then 1 else 0) = _
    rw [h (n + k) (by omega) (by omega), this]
    rfl
theorem cnt_s {p : Nat → Bool} {n m : Nat} (hm : n ≤ m) (h : ∀ j, n ≤ j → j < m → p j = false) : cnt p m = cnt p n := by
  have := cnt_sk (p := p) (n := n) (m - n) (fun j h1 h2 => h j h1 (by omega))
  rw [show n + (m - n) = m by omega] at this
  exact this
theorem cnt_t {p : Nat → Bool} {n : Nat} (h : p n = true) : cnt p (n + 1) = cnt p n + 1 := by
  show cnt p n + (if p n then 1 else 0) = _
  rw [h]
  rfl
theorem cnt_f {p : Nat → Bool} {n : Nat} (h : p n = false) : cnt p (n + 1) = cnt p n := by
  show cnt p n + (if p n then 1 else 0) = _
  rw [h]
  rfl
/-- two that are apart -/
theorem cnt_ad {p q r : Nat → Bool} (h : ∀ k, p k = true → r k = true ∧ q k = false) (h2 : ∀ k, q k = true → r k = true) : ∀ n, cnt p n + cnt q n ≤ cnt r n
  | 0 => Nat.le_refl _
  | n + 1 => by
    have := cnt_ad h h2 n
    simp only [cnt]
    cases hp : p n with
    | true => rw [(h n hp).1, (h n hp).2]; simp only [if_true, Bool.false_eq_true, if_false]; omega
    | false =>
      cases hq : q n with
      | true => rw [h2 n hq]; simp only [if_true, Bool.false_eq_true, if_false]; omega
      | false => simp only [Bool.false_eq_true, if_false]; omega
/-- the numbers of a REF from the facts before J -/
def XS (D : DT) (lo hi : Int) (c J : Nat) (v : Int) : Prop := v = lo ∨ v = hi ∨ ∃ j, j < J ∧ fF D c j = true ∧ dv D j - 1 ≤ v ∧ v ≤ dv D j + 1 ∧ lo ≤ v ∧ v ≤ hi
theorem XS_sk {D : DT} {lo hi : Int} {c J J' : Nat} (hJ : J ≤ J') (h : ∀ j, J ≤ j → j < J' → fF D c j = false) (v : Int) : XS D lo hi c J v ↔ XS D lo hi c J' v := by
  unfold XS
  constructor
  · rintro (h1 | h1 | ⟨j, h1, h2⟩)
    · exact Or.inl h1
    · exact Or.inr (Or.inl h1)
    · exact Or.inr (Or.inr ⟨j, by omega, h2⟩)
  · rintro (h1 | h1 | ⟨j, h1, h2, h3⟩)
    · exact Or.inl h1
    · exact Or.inr (Or.inl h1)
    · by_cases c1 : j < J
      · exact Or.inr (Or.inr ⟨j, c1, h2, h3⟩)
      · rw [h j (by omega) h1] at h2
        cases h2
theorem XS_in {D : DT} {lo hi : Int} {c J : Nat} (h : fF D c J = true) (v : Int) : (XS D lo hi c J v ∨ (dv D J - 1 ≤ v ∧ v ≤ dv D J + 1 ∧ lo ≤ v ∧ v ≤ hi)) ↔ XS D lo hi c (J + 1) v := by
  unfold XS
  constructor
  · rintro ((h1 | h1 | ⟨j, h1, h2⟩) | h1)
    · exact Or.inl h1
    · exact Or.inr (Or.inl h1)
    · exact Or.inr (Or.inr ⟨j, by omega, h2⟩)
    · exact Or.inr (Or.inr ⟨J, by omega, h, h1⟩)
  · rintro (h1 | h1 | ⟨j, h1, h2, h3⟩)
    · exact Or.inl (Or.inl h1)
    · exact Or.inl (Or.inr (Or.inl h1))
    · by_cases c1 : j < J
      · exact Or.inl (Or.inr (Or.inr ⟨j, c1, h2, h3⟩))
      · have e : j = J := by omega
        subst e
        exact Or.inr h3
/-- the three numbers next to one (the class) -/
theorem w_near1 {K : KT} {S0 S : SD} {ref B b : Nat} {X : Int → Prop} {num lo hi x : Int} (hd : 1 ≤ d) (hr : ref < 12) (hB : B + b < 1024) (hn : -999999 ≤ num ∧ num ≤ 999999) (hx : num - 1 ≤ x ∧ x ≤ num + 1) (h : PLs S0 S ref B X b) (n : Nat) : ∃ S', run oo (EE false d) false mi_88 (n + 1) 5 [(0, vr (some (62, 0))), (1, vi (ref : Int)), (2, vi num), (3, vi lo), (4, vi hi), (5, vi x)] [] S = run oo (EE false d) false mi_88 n 5 [(0, vr (some (62, 0))), (1, vi (ref : Int)), (2, vi num), (3, vi lo), (4, vi hi), (5, vi (x + 1))] [] S' ∧ PLs S0 S' ref B (fun v => X v ∨ (v = x ∧ lo ≤ x ∧ x ≤ hi)) (b + 1) := by
  have e1 : aw oo (num + 1) = num + 1 := aw0 (by omega)
  have e2 : aw oo (x + 1) = x + 1 := aw0 (by omega)
  rw [b88_5, e1, e2, if_neg (by omega)]
  by_cases c : lo ≤ x ∧ x ≤ hi
  · obtain ⟨S', i1, i2⟩ := q_insert (d := d) hd x hr hB h
    rw [q_in1 hd _ _ _ c, b_I, if_neg (by decide), i1, b_V]
    exact ⟨S', rfl, PLs_mo i2 (fun v => ⟨fun q => q.elim Or.inl (fun e => Or.inr ⟨e, c⟩), fun q => q.elim Or.inl (fun e => Or.inr e.1)⟩) (Nat.le_refl _)⟩
  · rw [q_in0 hd _ _ _ (by omega), b_I, if_pos rfl]
    exact ⟨S, rfl, PLs_mo h (fun v => ⟨Or.inl, fun q => q.elim id (fun e => absurd e.2 c)⟩) (by omega)⟩
theorem q_near {S0 S : SD} {ref B b : Nat} {X : Int → Prop} {num lo hi : Int} (hd : 2 ≤ d) (hr : ref < 12) (hB : B + b + 3 < 1024) (hn : -999999 ≤ num ∧ num ≤ 999999) (h : PLs S0 S ref B X b) : ∃ S', EE false d 88 [vr (some (62, 0)), vi (ref : Int), vi num, vi lo, vi hi] S = some (vi 0, S') ∧ PLs S0 S' ref B (fun v => X v ∨ (num - 1 ≤ v ∧ v ≤ num + 1 ∧ lo ≤ v ∧ v ≤ hi)) (b + 3) := by
  obtain ⟨S1, i1, j1⟩ := w_near1 (K := EE false (d - 1)) (d := d - 1) (lo := lo) (hi := hi) (x := num - 1) (by omega) hr (by omega) hn (by omega) h 999998
  obtain ⟨S2, i2, j2⟩ := w_near1 (K := EE false (d - 1)) (d := d - 1) (lo := lo) (hi := hi) (x := num - 1 + 1) (by omega) hr (by omega) hn (by omega) j1 999997
  obtain ⟨S3, i3, j3⟩ := w_near1 (K := EE false (d - 1)) (d := d - 1) (lo := lo) (hi := hi) (x := num - 1 + 1 + 1) (by omega) hr (by omega) hn (by omega) j2 999996
  have e0 : aw oo (num - 1) = num - 1 := aw0 (by omega)
  have e1 : aw oo (num + 1) = num + 1 := aw0 (by omega)
  have i4 : run oo (EE false (d - 1)) false mi_88 999996 5 [(0, vr (some (62, 0))), (1, vi (ref : Int)), (2, vi num), (3, vi lo), (4, vi hi), (5, vi (num - 1 + 1 + 1 + 1))] [] S3 = some (vi 0, S3) := by
    rw [show (999996 : Nat) = 999995 + 1 from rfl, b88_5, e1, if_pos (by omega)]
  refine ⟨S3, ?_, PLs_mo j3 (fun v => ⟨fun q => ?_, fun q => ?_⟩) (by omega)⟩
  · rw [E88 (by omega), b88_0, e0]
    exact i1.trans (i2.trans (i3.trans i4))
  · rcases q with ((q | q) | q) | q
    · exact Or.inl q
    · exact Or.inr (by omega)
    · exact Or.inr (by omega)
    · exact Or.inr (by omega)
  · rcases q with q | q
    · exact Or.inl (Or.inl (Or.inl q))
    · by_cases c1 : v = num - 1
      · exact Or.inl (Or.inl (Or.inr (by omega)))
      · by_cases c2 : v = num
        · exact Or.inl (Or.inr (by omega))
        · exact Or.inr (by omega)
end
