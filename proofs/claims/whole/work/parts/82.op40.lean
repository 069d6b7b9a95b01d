/-! lists of numbers: the rising list of a set; insert on both sides -/
section
variable {d : Nat}
def RSL (X : Int → Prop) (n : Nat) (P : Nat → Int) : Prop := SRT P n ∧ (∀ i, i < n → X (P i)) ∧ ∀ v, X v → ∃ i, i < n ∧ P i = v
theorem RSL_iff {X Y : Int → Prop} {n : Nat} {P : Nat → Int} (h : RSL X n P) (q : ∀ v, X v ↔ Y v) : RSL Y n P :=
  ⟨h.1, fun i hi => (q _).mp (h.2.1 i hi), fun v hv => h.2.2 v ((q v).mpr hv)⟩
theorem RSL_cg {X : Int → Prop} {n : Nat} {P Q : Nat → Int} (h : RSL X n P) (q : ∀ i, i < n → Q i = P i) : RSL X n Q :=
  ⟨fun i j a b => by rw [q i (by omega), q j b]; exact h.1 i j a b, fun i hi => by rw [q i hi]; exact h.2.1 i hi, fun v hv => by
    obtain ⟨i, h1, h2⟩ := h.2.2 v hv
    exact ⟨i, h1, (q i h1).trans h2⟩⟩
theorem RSL_le {X : Int → Prop} {n m : Nat} {P Q : Nat → Int} (h1 : RSL X n P) (h2 : RSL X m Q) : ∀ i, i < n → i < m ∧ Q i = P i := by
  intro i
  induction i using Nat.strongRecOn with
  | ind i ih =>
    intro hi
    obtain ⟨k, k1, k2⟩ := h2.2.2 _ (h1.2.1 i hi)
    have c : i ≤ k := by
      by_cases c : i ≤ k
      · exact c
      · have := (ih k (by omega) (by omega)).2
        have := h1.1 k i (by omega) hi
        omega
    obtain ⟨l, l1, l2⟩ := h1.2.2 _ (h2.2.1 i (by omega))
    have c2 : i ≤ l := by
      by_cases c2 : i ≤ l
      · exact c2
      · have := (ih l (by omega) (by omega)).2
        have := h2.1 l i (by omega) (by omega)
        omega
    have q1 : Q i ≤ Q k := by
      by_cases e : i = k
      · rw [e]; exact Int.le_refl _
      · have := h2.1 i k (by omega) k1
        omega
    have q2 : P i ≤ P l := by
      by_cases e : i = l
      · rw [e]; exact Int.le_refl _
      · have := h1.1 i l (by omega) l1
        omega
    exact ⟨by omega, by omega⟩
theorem RSL_un {X : Int → Prop} {n m : Nat} {P Q : Nat → Int} (h1 : RSL X n P) (h2 : RSL X m Q) : n = m ∧ ∀ i, i < n → Q i = P i := by
  have c1 : ¬ m < n := fun h => absurd (RSL_le h1 h2 m h).1 (by omega)
  have c2 : ¬ n < m := fun h => absurd (RSL_le h2 h1 n h).1 (by omega)
  exact ⟨by omega, fun i hi => (RSL_le h1 h2 i hi).2⟩
theorem RSL_ins {X : Int → Prop} {n a : Nat} {P : Nat → Int} {x : Int} (h : RSL X n P) (ha : PLC P n x a) (hx : ¬ (a < n ∧ P a = x)) : RSL (fun v => X v ∨ v = x) (n + 1) (INS P x a) := by
  have a1 := ha.1
  refine ⟨INS_srt h.1 ha (fun q e => hx ⟨q, e⟩), fun i hi => ?_, fun v hv => ?_⟩
  · unfold INS
    by_cases c1 : i < a
    · rw [if_pos c1]; exact Or.inl (h.2.1 i (by omega))
    · rw [if_neg c1]
      by_cases c2 : i = a
      · rw [if_pos c2]; exact Or.inr rfl
      · rw [if_neg c2]; exact Or.inl (h.2.1 (i - 1) (by omega))
  · rcases hv with hv | hv
    · obtain ⟨i, i1, i2⟩ := h.2.2 v hv
      by_cases c1 : i < a
      · exact ⟨i, by omega, by unfold INS; rw [if_pos c1]; exact i2⟩
      · exact ⟨i + 1, by omega, by unfold INS; rw [if_neg (by omega), if_neg (by omega)]; exact i2⟩
    · exact ⟨a, by omega, by unfold INS; rw [if_neg (by omega), if_pos rfl]; exact hv.symm⟩
theorem RSL_has {X : Int → Prop} {n a : Nat} {P : Nat → Int} {x : Int} (h : RSL X n P) (ha : a < n) (hx : P a = x) : RSL (fun v => X v ∨ v = x) n P :=
  ⟨h.1, fun i hi => Or.inl (h.2.1 i hi), fun v hv => hv.elim (h.2.2 v) (fun e => ⟨a, ha, hx.trans e.symm⟩)⟩
theorem RSL_add {X : Int → Prop} {n : Nat} {P : Nat → Int} (h : RSL X n P) (x : Int) : ∃ n' P', RSL (fun v => X v ∨ v = x) n' P' ∧ n' ≤ n + 1 := by
  obtain ⟨a, ha⟩ := PLC_ex (x := x) n h.1
  by_cases c : a < n ∧ P a = x
  · exact ⟨n, P, RSL_has h c.1 c.2, by omega⟩
  · exact ⟨n + 1, _, RSL_ins h ha c, Nat.le_refl _⟩
theorem RSL_0 {P : Nat → Int} : RSL (fun _ => False) 0 P := ⟨fun i j _ h => by omega, fun i h => by omega, fun v h => h.elim⟩
theorem RSL_ad {X : Int → Prop} {n : Nat} {P : Nat → Int} (h : RSL X n P) (x : Int) (p : Prop) : ∃ n' P', RSL (fun v => X v ∨ (v = x ∧ p)) n' P' ∧ n' ≤ n + 1 := by
  rcases Classical.em p with hp | hp
  · obtain ⟨n', P', h1, h2⟩ := RSL_add h x
    exact ⟨n', P', RSL_iff h1 (fun v => ⟨fun q => q.elim Or.inl (fun e => Or.inr ⟨e, hp⟩), fun q => q.elim Or.inl (fun e => Or.inr e.1)⟩), h2⟩
  · exact ⟨n, P, RSL_iff h (fun v => ⟨Or.inl, fun q => q.elim id (fun e => absurd e.2 hp)⟩), by omega⟩
/-- the pool of a REF that is being filled (the class) -/
def PLs (S0 S : SD) (ref B : Nat) (X : Int → Prop) (b : Nat) : Prop := EqX [65, 66] [] S0 S ∧ (gD S 66 0 ref) = (B : Int) ∧ (∃ n P, n ≤ b ∧ RSL X n P ∧ (gD S 66 0 (ref + 1)) = ((B + n : Nat) : Int) ∧ ∀ i, i < n → (gD S 65 0 (B + i)) = P i) ∧ (∀ j, j ≠ ref + 1 → (gD S 66 0 j) = (gD S0 66 0 j)) ∧ (∀ j, j < B → (gD S 65 0 j) = (gD S0 65 0 j))
theorem PLs_mo {S0 S : SD} {ref B b b' : Nat} {X Y : Int → Prop} (h : PLs S0 S ref B X b) (q : ∀ v, X v ↔ Y v) (hb : b ≤ b') : PLs S0 S ref B Y b' := by
  obtain ⟨h1, h2, ⟨n, P, h3, h4, h5⟩, h6⟩ := h
  exact ⟨h1, h2, ⟨n, P, by omega, RSL_iff h4 q, h5⟩, h6⟩
theorem q_insert {S0 S : SD} (hd : 1 ≤ d) {ref B b : Nat} {X : Int → Prop} (x : Int) (hr : ref < 12) (hB : B + b < 1024) (h : PLs S0 S ref B X b) : ∃ S', EE false d 89 [vr (some (62, 0)), vi (ref : Int), vi x] S = some (vi 0, S') ∧ PLs S0 S' ref B (fun v => X v ∨ v = x) (b + 1) := by
  obtain ⟨h1, h2, ⟨n0, P, h3, h4, h5, h6⟩, h7, h8⟩ := h
  obtain ⟨a, ha⟩ := PLC_ex (x := x) n0 h4.1
  have ha' := ha
  obtain ⟨a1, a2, a3⟩ := ha'
  rw [E89 hd, b89_0, if_pos (by omega), awn (by omega), if_pos (by omega), tn, tn, h2, h5]
  refine w_find (K := EE false (d - 1)) (ref := ref) (B := B) (n0 := n0) (x := x) (P := P) (a := a) (S := S) (by omega) h6 ha (G := fun S' => PLs S0 S' ref B (fun v => X v ∨ v = x) (b + 1)) (fun c1 c2 => ?_) (fun c n hn => ?_) 999999 0 (by omega) (by omega)
  · exact ⟨h1, h2, ⟨n0, P, by omega, RSL_has h4 c1 c2, h5, h6⟩, h7, h8⟩
  · obtain ⟨S', i1, i2, i3, i4⟩ := w_shift (K := EE false (d - 1)) (ref := ref) (a := B + a) (E := B + n0) (x := x) hr (by omega) (by omega) n (n0 - a) S (by omega) (by omega)
    rw [show B + a + (n0 - a) = B + n0 by omega] at i1
    refine ⟨S', i1, EqX_tr h1 i2, ?_, ⟨n0 + 1, _, by omega, RSL_ins h4 ha c, ?_, fun i hi => ?_⟩, fun j hj => ?_, fun j hj => ?_⟩
    · rw [i4, if_neg (by omega)]; exact h2
    · rw [i4, if_pos rfl, show B + (n0 + 1) = B + n0 + 1 by omega]
    · rw [i3]
      unfold INS
      by_cases c1 : i < a
      · rw [if_neg (by omega), if_neg (by omega), if_pos c1]; exact h6 i (by omega)
      · by_cases c2 : i = a
        · rw [if_pos (by omega), if_neg c1, if_pos c2]
        · rw [if_neg (by omega), if_pos (by omega), if_neg c1, if_neg c2, show B + i - 1 = B + (i - 1) by omega]
          exact h6 (i - 1) (by omega)
    · rw [i4, if_neg hj]; exact h7 j hj
    · rw [i3, if_neg (by omega), if_neg (by omega)]; exact h8 j hj
/-- the list of a REF that is being filled (the reference) -/
def MLs (S0 S : SD) (r : Nat) (X : Int → Prop) (b : Nat) : Prop := EqX [151, 150] [] S0 S ∧ (∃ n P, n ≤ b ∧ RSL X n P ∧ (gD S 150 0 r) = (n : Int) ∧ ∀ i, i < n → (gD S 151 0 (1000 * r + i)) = P i) ∧ (∀ j, j ≠ r → (gD S 150 0 j) = (gD S0 150 0 j)) ∧ (∀ j, j < 1000 * r → (gD S 151 0 j) = (gD S0 151 0 j))
theorem MLs_mo {S0 S : SD} {r b b' : Nat} {X Y : Int → Prop} (h : MLs S0 S r X b) (q : ∀ v, X v ↔ Y v) (hb : b ≤ b') : MLs S0 S r Y b' := by
  obtain ⟨h1, ⟨n, P, h3, h4, h5⟩, h6⟩ := h
  exact ⟨h1, ⟨n, P, by omega, RSL_iff h4 q, h5⟩, h6⟩
theorem q_starts {Sc S0 S : SD} (hd : 2 ≤ d) {r b t f : Nat} {X : Int → Prop} (x : Int) (hr : r < 12) (hb : b < 999) (hT : IT Sc S0) (ht : (gD S0 147 0 r) = (t : Int)) (hf : (gD S0 148 0 r) = (f : Int)) (ht4 : t < 40) (hf3 : f < 3) (h : MLs S0 S r X b) : ∃ S', EE false d 275 [vr (some (85, 0)), vi (r : Int), vi x] S = some (vi 0, S') ∧ MLs S0 S' r (fun v => X v ∨ (v = x ∧ (gD Sc 6 0 (((gD Sc 9 0 t) * 3 + (f : Int)).toNat)) ≤ x ∧ x ≤ (gD Sc 7 0 (((gD Sc 9 0 t) * 3 + (f : Int)).toNat)))) (b + 1) := by
  have hh := h
  obtain ⟨h1, ⟨n0, P, h3, h4, h5, h6⟩, h7, h8⟩ := h
  have hT1 : IT Sc S := IT_fr AgA_rf (AgX h1 rfl) hT
  have et : (gD S 147 0 r) = (t : Int) := (EqX_a h1 147 rfl 0 r).trans ht
  have ef : (gD S 148 0 r) = (f : Int) := (EqX_a h1 148 rfl 0 r).trans hf
  have m2 := (E275 (d := d) (by omega) S (r : Int) x).trans (b275_0 oo (EE false (d - 1)) 999999 S (r : Int) x)
  rw [if_pos (by omega), if_pos (by omega), tn, et, ef, q_M_least hT1 (by omega) t f ht4 hf3, b_I, if_pos (by omega), ef, q_M_most hT1 (by omega) t f ht4 hf3, b_I] at m2
  by_cases c : (gD Sc 6 0 (((gD Sc 9 0 t) * 3 + (f : Int)).toNat)) ≤ x ∧ x ≤ (gD Sc 7 0 (((gD Sc 9 0 t) * 3 + (f : Int)).toNat))
  · obtain ⟨a, ha⟩ := PLC_ex (x := x) n0 h4.1
    have ha' := ha
    obtain ⟨a1, a2, a3⟩ := ha'
    rw [q_M_in1 (by omega) _ _ _ c, b_I, if_neg (by decide), if_pos (by omega), h5] at m2
    rw [m2]
    have eX : ∀ v, (X v ∨ v = x) ↔ (X v ∨ (v = x ∧ (gD Sc 6 0 (((gD Sc 9 0 t) * 3 + (f : Int)).toNat)) ≤ x ∧ x ≤ (gD Sc 7 0 (((gD Sc 9 0 t) * 3 + (f : Int)).toNat)))) := fun v => ⟨fun q => q.elim Or.inl (fun e => Or.inr ⟨e, c⟩), fun q => q.elim Or.inl (fun e => Or.inr e.1)⟩
    refine w_M_find (K := EE false (d - 1)) (ref := r) (n0 := n0) (x := x) (P := P) (a := a) (S := S) hr (by omega) h4.1 h6 h5 ha (G := fun S' => MLs S0 S' r _ (b + 1)) (fun c1 c2 => ?_) (fun c n hn => ?_) 999999 n0 (by omega) (by omega) (by omega) (fun q => by omega)
    · exact MLs_mo ⟨h1, ⟨n0, P, Nat.le_refl n0, RSL_has h4 c1 c2, h5, h6⟩, h7, h8⟩ eX (by omega)
    · obtain ⟨S', i1, i2, i3, i4⟩ := w_M_shift (K := EE false (d - 1)) (ref := r) (a := a) (E := n0) (x := x) hr (by omega) (by omega) n (n0 - a) S (by omega) (by omega) h5
      rw [show a + (n0 - a) = n0 by omega] at i1
      refine ⟨S', i1, MLs_mo ⟨EqX_tr h1 i2, ⟨n0 + 1, _, Nat.le_refl (n0 + 1), RSL_ins h4 ha c, ?_, fun i hi => ?_⟩, fun j hj => ?_, fun j hj => ?_⟩ eX (by omega)⟩
      · rw [i4, if_pos rfl]
      · rw [i3]
        unfold INS
        by_cases c1 : i < a
        · rw [if_neg (by omega), if_neg (by omega), if_pos c1]; exact h6 i (by omega)
        · by_cases c2 : i = a
          · rw [if_pos (by omega), if_neg c1, if_pos c2]
          · rw [if_neg (by omega), if_pos (by omega), if_neg c1, if_neg c2, show 1000 * r + i - 1 = 1000 * r + (i - 1) by omega]
            exact h6 (i - 1) (by omega)
      · rw [i4, if_neg hj]; exact h7 j hj
      · rw [i3, if_neg (by omega), if_neg (by omega)]; exact h8 j hj
  · rw [q_M_in0 (by omega) _ _ _ (by omega), b_I, if_pos rfl] at m2
    exact ⟨S, m2, MLs_mo hh (fun v => ⟨Or.inl, fun q => q.elim id (fun e => absurd e.2 c)⟩) (by omega)⟩
end
