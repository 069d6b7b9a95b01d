/-! rule: the tape and its words: the reference; digits on both sides -/
section
variable {d : Nat} {A B : Nat → Int} {n : Nat}
theorem wD_cm {S : SD} {f j k f' j' k' : Nat} {a b : Int} (h : ¬ (f = f' ∧ j = j' ∧ k = k')) : wD (wD S f j k a) f' j' k' b = wD (wD S f' j' k' b) f j k a := by
  refine Prod.ext ?_ rfl
  funext x y z
  show (if x = f' ∧ y = j' ∧ z = k' then b else if x = f ∧ y = j ∧ z = k then a else S.1 x y z) = if x = f ∧ y = j ∧ z = k then a else if x = f' ∧ y = j' ∧ z = k' then b else S.1 x y z
  by_cases h1 : x = f' ∧ y = j' ∧ z = k'
  · rw [if_pos h1, if_neg (fun q => h ⟨q.1.symm.trans h1.1, q.2.1.symm.trans h1.2.1, q.2.2.symm.trans h1.2.2⟩), if_pos h1]
  · rw [if_neg h1, if_neg h1]
def TPm (A : Nat → Int) (n : Nat) (S : SD) : Prop := (gD S 85 0 31) = (n : Int) ∧ ∀ k : Nat, (gD S 112 0 k) = A k
def TAB (A B : Nat → Int) : Prop := ∀ k, B k = A k % 256 ∧ -128 ≤ A k ∧ A k < 128
theorem TPm_w {S : SD} {k : Nat} {v : Int} (h : TPm A n S) (hk : k ≠ 31) : TPm A n (wD S 85 0 k v) :=
  ⟨by rw [g_k (fun q => hk q.symm)]; exact h.1, fun i => by rw [g_f (by decide)]; exact h.2 i⟩
theorem and255N : ∀ m : Nat, m < 256 → ab oo 0 ((m : Int) - 128) 255 = ((m : Int) - 128) % 256 := by decide +kernel
theorem and255 {a : Int} (h : -128 ≤ a ∧ a < 128) : ab oo 0 a 255 = a % 256 := by
  have := and255N (a + 128).toNat (by omega)
  rw [show (((a + 128).toNat : Nat) : Int) - 128 = a by omega] at this
  exact this
theorem w_skipM {K : KT} (hn : n ≤ 200) (hA : TAB A B) : ∀ (m p : Nat) (S : SD), n - p < m → p ≤ 400 → TPm A n S → (gD S 85 0 53) = (p : Int) → run oo K false mi_225 m 0 [(0, vr (some (85, 0)))] [] S = some (vi (bt B n (skp B n p)), wD S 85 0 53 (skp B n p : Int)) := by
  intro m
  induction m with
  | zero => intro p S z; omega
  | succ m ih =>
    intro p S z hp h hpl
    obtain ⟨a1, a2, a3⟩ := hA p
    rw [b225_0, hpl, h.1]
    by_cases e : p < n
    · rw [if_pos (by omega), if_pos (by omega), tn, h.2]
      by_cases e2 : A p = 32
      · rw [if_pos e2, awn (by omega), ih (p + 1) _ (by omega) (by omega) (TPm_w h (by decide)) g_e, wD_ww, skp_t e (by omega)]
      · rw [if_neg e2, skp_f (fun q => by omega), if_pos (by omega), if_pos (by omega), and255 ⟨a2, a3⟩, wD_id hpl]
        unfold bt
        rw [if_pos e, a1]
    · rw [if_neg (by omega), if_neg (by omega), skp_f (fun q => e q.1), wD_id hpl]
      unfold bt
      rw [if_neg e]
theorem q_see {S : SD} {p : Nat} (hd : 1 ≤ d) (hn : n ≤ 200) (hA : TAB A B) (h : TPm A n S) (hp : p ≤ 400) (hpl : (gD S 85 0 53) = (p : Int)) : EE false d 225 [vr (some (85, 0))] S = some (vi (bt B n (skp B n p)), wD S 85 0 53 (skp B n p : Int)) := by
  rw [E225 hd]
  exact w_skipM hn hA 1000000 p S (by omega) hp h hpl
theorem q_digit {S : SD} (hd : 1 ≤ d) (hn : n ≤ 200) (hA : TAB A B) (h : TPm A n S) (p : Nat) : EE false d 226 [vr (some (85, 0)), vi (p : Int)] S = some (vi (bi (decide (48 ≤ bt B n p ∧ bt B n p ≤ 57))), S) := by
  obtain ⟨a1, a2, a3⟩ := hA p
  rw [E226 hd, b226_0, h.1]
  unfold bt
  by_cases e : p < n
  · rw [if_pos (by omega), if_pos (by omega), tn, h.2, if_pos e]
    by_cases e1 : A p < 48
    · rw [if_pos e1, decide_eq_false (by omega)]
      rfl
    · rw [if_neg e1, if_pos (by omega)]
      by_cases e2 : 57 < A p
      · rw [if_pos e2, decide_eq_false (by omega)]
        rfl
      · rw [if_neg e2, decide_eq_true (by omega)]
        rfl
  · rw [if_neg (by omega), if_neg e]
    rfl
/-- letters as a number -/
def ev (g : Nat → Int) : Nat → Int
  | 0 => 0
  | k + 1 => ev g k * 256 + g k
theorem ev_0 {g : Nat → Int} (hg : ∀ i, 0 ≤ g i ∧ g i < 256) : ∀ k, 0 ≤ ev g k
  | 0 => by show (0 : Int) ≤ 0; omega
  | k + 1 => by
    have := ev_0 hg k
    have := hg k
    show 0 ≤ ev g k * 256 + g k
    omega
theorem ev_6 {g : Nat → Int} {k : Nat} (hg : ∀ i, i < k → 0 ≤ g i ∧ g i < 256) (hk : k ≤ 6) : 0 ≤ ev g k ∧ ev g k < 281474976710656 := by
  have h : k = 0 ∨ k = 1 ∨ k = 2 ∨ k = 3 ∨ k = 4 ∨ k = 5 ∨ k = 6 := by omega
  rcases h with rfl | rfl | rfl | rfl | rfl | rfl | rfl
  · simp only [ev]; omega
  · have a0 := hg 0 (by omega)
    simp only [ev]; omega
  · have a0 := hg 0 (by omega)
    have a1 := hg 1 (by omega)
    simp only [ev]; omega
  · have a0 := hg 0 (by omega)
    have a1 := hg 1 (by omega)
    have a2 := hg 2 (by omega)
    simp only [ev]; omega
  · have a0 := hg 0 (by omega)
    have a1 := hg 1 (by omega)
    have a2 := hg 2 (by omega)
    have a3 := hg 3 (by omega)
    simp only [ev]; omega
  · have a0 := hg 0 (by omega)
    have a1 := hg 1 (by omega)
    have a2 := hg 2 (by omega)
    have a3 := hg 3 (by omega)
    have a4 := hg 4 (by omega)
    simp only [ev]; omega
  · have a0 := hg 0 (by omega)
    have a1 := hg 1 (by omega)
    have a2 := hg 2 (by omega)
    have a3 := hg 3 (by omega)
    have a4 := hg 4 (by omega)
    have a5 := hg 5 (by omega)
    simp only [ev]; omega
theorem ev_in {g h : Nat → Int} : ∀ {k m : Nat}, (∀ i, i < k → 97 ≤ g i ∧ g i ≤ 122) → (∀ i, i < m → 97 ≤ h i ∧ h i ≤ 122) → ev g k = ev h m → k = m ∧ ∀ i, i < k → g i = h i := by
  have hpos : ∀ {g : Nat → Int} {k : Nat}, (∀ i, i < k → 97 ≤ g i ∧ g i ≤ 122) → 0 ≤ ev g k ∧ (0 < k → 97 ≤ ev g k) := by
    intro g k
    induction k with
    | zero => intro _; exact ⟨by show (0 : Int) ≤ 0; omega, fun q => absurd q (by omega)⟩
    | succ k ih =>
      intro hg
      have h1 := ih (fun i hi => hg i (by omega))
      have h2 := hg k (by omega)
      have e : ev g (k + 1) = ev g k * 256 + g k := rfl
      exact ⟨by omega, fun _ => by omega⟩
  intro k
  induction k with
  | zero =>
    intro m hg hh e
    cases m with
    | zero => exact ⟨rfl, fun i hi => by omega⟩
    | succ m =>
      have h1 := (hpos hh).2 (by omega)
      have e : (0 : Int) = ev h (m + 1) := e
      omega
  | succ k ih =>
    intro m hg hh e
    cases m with
    | zero =>
      have h1 := (hpos hg).2 (by omega)
      have e : ev g (k + 1) = (0 : Int) := e
      omega
    | succ m =>
      have e : ev g k * 256 + g k = ev h m * 256 + h m := e
      have a1 := hg k (by omega)
      have a2 := hh m (by omega)
      obtain ⟨b1, b2⟩ := ih (m := m) (fun i hi => hg i (by omega)) (fun i hi => hh i (by omega)) (by omega)
      subst b1
      refine ⟨rfl, fun i hi => ?_⟩
      by_cases c : i = k
      · subst c; omega
      · exact b2 i (by omega)
theorem ev_cg {g h : Nat → Int} : ∀ {k : Nat}, (∀ i, i < k → g i = h i) → ev g k = ev h k
  | 0, _ => rfl
  | k + 1, q => by
    show ev g k * 256 + g k = ev h k * 256 + h k
    rw [ev_cg (fun i hi => q i (by omega)), q k (by omega)]
theorem mtc_i : ∀ (cs : List Int) (q : Nat), mtc B n cs q = true ↔ ((∀ i, i < cs.length → bt B n (q + i) = cs.getD i 0) ∧ ¬ (97 ≤ bt B n (q + cs.length) ∧ bt B n (q + cs.length) ≤ 122)) := by
  intro cs
  induction cs with
  | nil =>
    intro q
    show (!(decide (97 ≤ bt B n q ∧ bt B n q ≤ 122))) = true ↔ _
    by_cases e : 97 ≤ bt B n q ∧ bt B n q ≤ 122
    · rw [decide_eq_true e]
      exact ⟨fun h => (by cases h), fun h => absurd e h.2⟩
    · rw [decide_eq_false e]
      exact ⟨fun _ => ⟨fun i hi => absurd hi (by show ¬ i < 0; omega), e⟩, fun _ => rfl⟩
  | cons c t ih =>
    intro q
    show (decide (bt B n q = c) && mtc B n t (q + 1)) = true ↔ _
    rw [Bool.and_eq_true, ih (q + 1)]
    constructor
    · rintro ⟨h1, h2, h3⟩
      refine ⟨fun i hi => ?_, ?_⟩
      · cases i with
        | zero => exact of_decide_eq_true h1
        | succ i =>
          have hi : i + 1 < t.length + 1 := hi
          have := h2 i (by omega)
          rw [show q + 1 + i = q + (i + 1) by omega] at this
          rw [this]
          rfl
      · rw [show q + 1 + t.length = q + (c :: t).length by rw [List.length_cons]; omega] at h3
        exact h3
    · rintro ⟨h1, h2⟩
      refine ⟨decide_eq_true (h1 0 (Nat.succ_pos _)), fun i hi => ?_, ?_⟩
      · have := h1 (i + 1) (Nat.succ_lt_succ hi)
        rw [show q + (i + 1) = q + 1 + i by omega] at this
        rw [this]
        rfl
      · rw [show q + 1 + t.length = q + (c :: t).length by rw [List.length_cons]; omega]
        exact h2
theorem i64_lt {x : Nat} (h : x < 9223372036854775808) : (Int64.ofInt (x : Int)).toBitVec = BitVec.ofNat 64 x ∧ (BitVec.ofNat 64 x).toInt = (x : Int) := by
  refine ⟨rfl, ?_⟩
  rw [BitVec.toInt_eq_toNat_of_lt]
  · rw [BitVec.toNat_ofNat, Nat.mod_eq_of_lt (by omega)]
  · rw [BitVec.toNat_ofNat, Nat.mod_eq_of_lt (by omega)]
    omega
end
