/-! layer 2: ask (2) -/
section
variable {d : Nat}
def CTi (S : SD) (i : Nat) : Int := (gD S 5 0 (((gD S 9 0 (((gD S 72 0 i)).toNat))).toNat))
theorem w_cost {Tc Sm : SD} {n0 : Nat} (hT : IT Tc Sm) (hn : (gD Tc 68 0 8) = (n0 : Int)) (hn12 : n0 ≤ 12) (hnm : ∀ i, i < n0 → 0 ≤ (gD Tc 72 0 i) ∧ (gD Tc 72 0 i) < (gD Tc 3 0 10)) (hd : 3 ≤ d) (k : Int) : ∀ (n i : Nat), i ≤ n0 → n0 - i < n → run oo (EE false d) false mi_43 n 4 [(0, vr (some (68, 0))), (1, vi k), (2, vi (sB (ti k) (CTi Tc) i)), (3, vi (i : Int))] [] Tc = some (vi (sB (ti k) (CTi Tc) n0), Tc) := by
  have uIT := hT; unfold IT at uIT; obtain ⟨t1, t2, t3, t4, t5, t6, t7, t8, t9, t10, t11, t12, t13, t14, t15, t16⟩ := uIT
  have hb : ∀ i, 0 ≤ CTi Tc i ∧ CTi Tc i ≤ 9999 := fun i => t16 _
  intro n
  induction n with
  | zero => intro i h1 h2; omega
  | succ n ih =>
    intro i h1 h2
    rw [b43_4, hn]
    by_cases hi : i < n0
    · have e1 := awp (show i < 1000000 by omega)
      have i1 := ih (i + 1) (by omega) (by omega)
      have sb := sB_b (b := ti k) (V := CTi Tc) (B := 9999) (n := i) (by decide) (fun u _ => hb u)
      have hbi := hb i
      rw [if_pos (by omega), if_pos (by omega), bit32 k i (by omega)]
      cases hbit : ti k i with
      | true =>
        obtain ⟨t, ht⟩ := Int.eq_ofNat_of_zero_le (hnm i hi).1
        have ht2 := (hnm i hi).2
        have hk := t5 t
        have c1 : EE false d 100 [vr (some (3, 0)), vi (t : Int)] Tc = some (vi (CTi Tc i), Tc) := by
          rw [E100 (by omega), b100_0, E97 (by omega), b97_0, q_thas1 (by omega) t (by omega), b_I, if_neg (by decide), bnd (by omega), tn, b_I, bnd (by omega)]
          unfold CTi
          rw [ht, tn]
        have e2 : aw oo (sB (ti k) (CTi Tc) i + CTi Tc i) = sB (ti k) (CTi Tc) (i + 1) := by
          rw [aw_id (by omega)]
          simp only [sB, hbit, if_true]
        rw [if_pos rfl, if_pos rfl, bnd (by omega), tn, ht, c1, b_I, e2, e1]
        exact i1
      | false =>
        have e2 : sB (ti k) (CTi Tc) (i + 1) = sB (ti k) (CTi Tc) i := by simp [sB, hbit]
        rw [e2] at i1
        rw [if_neg (show ¬ (if (false = true) then (1 : Int) else 0) = 1 by decide), e1]
        exact i1
    · have e : i = n0 := by omega
      subst e
      rw [if_neg (by omega)]
def bF (named : Nat → Int) (k : Int) : Nat → Int
  | 0 => 0
  | i + 1 => if ti k i then ab oo 6 (bF named k i) (ab oo 7 1 (named i)) else bF named k i
theorem w_bits {S : SD} {n0 : Nat} (hn : (gD S 68 0 8) = (n0 : Int)) (hn12 : n0 ≤ 12) (k : Int) {K : KT} : ∀ (n i : Nat), i ≤ n0 → n0 - i < n → run oo K false mi_45 n 5 [(0, vr (some (68, 0))), (1, vi k), (2, vl (bF (fun i => (gD S 72 0 i)) k i)), (4, vi (i : Int))] [] S = some (vl (bF (fun i => (gD S 72 0 i)) k n0), S) := by
  intro n
  induction n with
  | zero => intro i h1 h2; omega
  | succ n ih =>
    intro i h1 h2
    rw [b45_5, hn]
    by_cases hi : i < n0
    · have i1 := ih (i + 1) (by omega) (by omega)
      rw [if_pos (by omega), if_pos (by omega), bit32 k i (by omega), awp (by omega)]
      cases hbit : ti k i with
      | true =>
        simp only [bF, hbit, if_true] at i1
        rw [if_pos rfl, if_pos rfl, bnd (by omega), tn]
        exact i1
      | false =>
        simp only [bF, hbit, Bool.false_eq_true, if_false] at i1
        rw [if_neg (show ¬ (if (false = true) then (1 : Int) else 0) = 1 by decide)]
        exact i1
    · have e : i = n0 := by omega
      subst e
      rw [if_neg (by omega)]
theorem bF_tb {named : Nat → Int} {k : Int} {t : Nat} (ht : t < 40) : ∀ {n : Nat}, (∀ i, i < n → 0 ≤ named i ∧ named i < 40) → (tb (bF named k n) t = true ↔ ∃ i, i < n ∧ ti k i = true ∧ named i = (t : Int))
  | 0, _ => by simp [bF, tb_0]
  | n + 1, h => by
    have ih := bF_tb (k := k) ht (n := n) (fun i hi => h i (by omega))
    obtain ⟨m, hm⟩ := Int.eq_ofNat_of_zero_le (h n (by omega)).1
    have hm2 := (h n (by omega)).2
    simp only [bF]
    cases hbit : ti k n with
    | true =>
      rw [if_pos rfl, tb_lor, hm, tb_shl m (by omega) t ht, Bool.or_eq_true, ih, decide_eq_true_eq]
      constructor
      · rintro (⟨i, h1, h2, h3⟩ | h1)
        · exact ⟨i, by omega, h2, h3⟩
        · exact ⟨n, by omega, hbit, by omega⟩
      · rintro ⟨i, h1, h2, h3⟩
        by_cases e : i = n
        · subst e; exact Or.inr (by omega)
        · exact Or.inl ⟨i, by omega, h2, h3⟩
    | false =>
      rw [if_neg (by decide), ih]
      constructor
      · rintro ⟨i, h1, h2, h3⟩
        exact ⟨i, by omega, h2, h3⟩
      · rintro ⟨i, h1, h2, h3⟩
        by_cases e : i = n
        · subst e; rw [hbit] at h2; cases h2
        · exact ⟨i, by omega, h2, h3⟩
/-- which sets answer: the class's sums -/
def SVi (S : SD) (q i : Nat) : Int := (gD S 74 0 (12 * q + i))
def okA (S : SD) (Q n0 : Nat) (k : Int) (q : Nat) : Prop := ∀ p, p < q → p < Q → (gD S 73 0 p) - sB (ti k) (SVi S p) n0 ≤ 0
theorem aw12 {q i : Nat} (h : q < 8 ∧ i < 12) : aw oo (aw oo ((q : Int) * 12) + (i : Int)) = ((12 * q + i : Nat) : Int) := by
  rw [aw_id (z := (q : Int) * 12) (by omega), aw_id (by omega)]
  omega
theorem w_ans {S : SD} {Q n0 : Nat} (hQ : (gD S 68 0 9) = (Q : Int)) (hQ8 : Q ≤ 8) (hn : (gD S 68 0 8) = (n0 : Int)) (hn12 : n0 ≤ 12) (hs : ∀ q i, q < Q → i < n0 → 0 ≤ SVi S q i ∧ SVi S q i ≤ 200000) (he : ∀ q, q < Q → -1000000000 ≤ (gD S 73 0 q) ∧ (gD S 73 0 q) ≤ 8000000) (k : Int) {K : KT} : ∀ (n q : Nat), q ≤ Q → 20 * (Q - q) + 1 < n → okA S Q n0 k q → ∃ b, run oo K false mi_44 n 2 [(0, vr (some (68, 0))), (1, vi k), (2, vi (q : Int))] [] S = some (vi b, S) ∧ ((b = 1 ∧ okA S Q n0 k Q) ∨ (b = 0 ∧ ¬ okA S Q n0 k Q)) := by
  have inner : ∀ (q : Nat), q < Q → ∀ (n i : Nat), i ≤ n0 → n0 - i < n → ∃ n', n' ≤ n ∧ n ≤ n' + (n0 - i) + 1 ∧ run oo K false mi_44 n 26 [(0, vr (some (68, 0))), (1, vi k), (2, vi (q : Int)), (3, vi ((gD S 73 0 q) - sB (ti k) (SVi S q) i)), (4, vi (i : Int))] [] S = (if 0 < (gD S 73 0 q) - sB (ti k) (SVi S q) n0 then some (vi 0, S) else run oo K false mi_44 n' 2 [(0, vr (some (68, 0))), (1, vi k), (2, vi ((q + 1 : Nat) : Int))] [] S) := by
    intro q hq n
    induction n with
    | zero => intro i h1 h2; omega
    | succ n ih =>
      intro i h1 h2
      rw [b44_26, hn]
      by_cases hi : i < n0
      · obtain ⟨n', h9, h3, h4⟩ := ih (i + 1) (by omega) (by omega)
        have sb := sB_b (b := ti k) (V := SVi S q) (B := 200000) (n := i) (by decide) (fun u hu => hs q u hq (by omega))
        have hsi := hs q i hq hi
        have hei := he q hq
        refine ⟨n', by omega, by omega, ?_⟩
        rw [if_pos (by omega), if_pos (by omega), bit32 k i (by omega), awp (by omega)]
        cases hbit : ti k i with
        | true =>
          have e2 : vi (aw oo ((gD S 73 0 q) - sB (ti k) (SVi S q) i - SVi S q i)) = vi ((gD S 73 0 q) - sB (ti k) (SVi S q) (i + 1)) := congrArg vi (by
            rw [aw_id (by omega)]
            simp only [sB, hbit, if_true]
            omega)
          rw [if_pos rfl, if_pos rfl, aw12 (by omega), bnd (by omega), tn]
          refine Eq.trans ?_ h4
          rw [← e2]
          rfl
        | false =>
          have e2 : vi (aw oo ((gD S 73 0 q) - sB (ti k) (SVi S q) i - 0)) = vi ((gD S 73 0 q) - sB (ti k) (SVi S q) (i + 1)) := congrArg vi (by
            rw [aw_id (by omega)]
            simp only [sB, hbit, Bool.false_eq_true, if_false]
            omega)
          rw [if_neg (show ¬ (if (false = true) then (1 : Int) else 0) = 1 by decide), e2]
          exact h4
      · have e : i = n0 := by omega
        subst e
        exact ⟨n, by omega, by omega, by rw [if_neg (by omega), awp (by omega)]⟩
  intro n
  induction n using Nat.strongRecOn with
  | ind n ih =>
    intro q h1 h2 hok
    obtain ⟨n, rfl⟩ : ∃ m, n = m + 1 := ⟨n - 1, by omega⟩
    rw [b44_2, hQ]
    by_cases hq : q < Q
    · obtain ⟨n', h9, h3, h4⟩ := inner q hq n 0 (by omega) (by omega)
      rw [if_pos (by omega), if_pos (by omega), bnd (by omega), tn]
      have e0 : (gD S 73 0 q) - sB (ti k) (SVi S q) 0 = (gD S 73 0 q) := by simp [sB]
      rw [e0] at h4
      have h4 : run oo K false mi_44 n 26 [(0, vr (some (68, 0))), (1, vi k), (2, vi (q : Int)), (3, vi (gD S 73 0 q)), (4, vi 0)] [] S = _ := h4
      rw [h4]
      by_cases hg : 0 < (gD S 73 0 q) - sB (ti k) (SVi S q) n0
      · exact ⟨0, by rw [if_pos hg], Or.inr ⟨rfl, fun z => by have := z q hq hq; omega⟩⟩
      · rw [if_neg hg]
        exact ih n' (by omega) (q + 1) (by omega) (by omega) (fun p hp hp2 => by
          by_cases e : p = q
          · subst e; omega
          · exact hok p (by omega) hp2)
    · have e : q = Q := by omega
      subst e
      exact ⟨1, by rw [if_neg (by omega)], Or.inl ⟨rfl, hok⟩⟩
/-- the two ways of summing agree -/
theorem sum_same {s b : Nat → Bool} {c : Nat → Nat} {kb : Nat → Bool} {V A : Nat → Int} {sv : Nat → Int} (all : Nat → Bool) (hc : ∀ t, c t = cnt all t) {T : Nat} (h1 : ∀ t, t < T → s t = true → all t = true) (h2 : ∀ t, t < T → all t = true → sv (c t) = if s t then V t - A t else 0) (h3 : ∀ t, t < T → all t = true → b t = kb (c t)) : ∀ t, t ≤ T → sB s (fun u => if b u then A u else V u) t = sB s V t - sB kb sv (c t)
  | 0, _ => by
    rw [hc]
    simp [sB, cnt]
  | t + 1, ht => by
    have ih := sum_same all hc h1 h2 h3 t (by omega)
    simp only [sB, ih]
    cases hall : all t with
    | true =>
      rw [hc (t + 1), cntT hall, ← hc t]
      simp only [sB]
      rw [h2 t (by omega) hall, h3 t (by omega) hall]
      cases s t <;> cases kb (c t) <;> simp <;> omega
    | false =>
      rw [hc (t + 1), cntF hall, ← hc t]
      have hs : s t = false := by
        cases h : s t with
        | true => rw [h1 t (by omega) h] at hall; cases hall
        | false => rfl
      rw [hs]
      simp
end
