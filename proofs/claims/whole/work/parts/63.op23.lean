/-! the tests of a rule: a stack of truths, on both sides -/
section
variable {d : Nat}
theorem ti_iand (x y : Int) (i : Nat) : ti (ab oo 0 x y) i = (ti x i && ti y i) := by
  show (Int32.ofInt (Int32.ofInt x &&& Int32.ofInt y).toInt).toBitVec.getLsbD i = _
  rw [Int32.ofInt_toInt, Int32.toBitVec_and, BitVec.getLsbD_and]
  rfl
theorem ti_ixor (x y : Int) (i : Nat) : ti (ab oo 2 x y) i = (ti x i ^^ ti y i) := by
  show (Int32.ofInt (Int32.ofInt x ^^^ Int32.ofInt y).toInt).toBitVec.getLsbD i = _
  rw [Int32.ofInt_toInt, Int32.toBitVec_xor, BitVec.getLsbD_xor]
  rfl
theorem ti_ishl (x : Int) (i : Nat) (h : i < 32) : ti (ab oo 3 x 1) i = (decide (1 ≤ i) && ti x (i - 1)) := by
  show (Int32.ofInt (Int32.ofInt x <<< (Int32.ofInt 1 &&& 31)).toInt).toBitVec.getLsbD i = _
  rw [Int32.ofInt_toInt, show (Int32.ofInt 1 &&& 31) = Int32.ofNat 1 by decide, Int32.toBitVec_shiftLeft]
  have e2 : ((Int32.ofNat 1).toBitVec.smod 32).toNat = 1 := sm32 1 (by omega)
  show ((Int32.ofInt x).toBitVec <<< ((Int32.ofNat 1).toBitVec.smod 32).toNat).getLsbD i = _
  rw [e2, BitVec.getLsbD_shiftLeft]
  by_cases h1 : 1 ≤ i
  · have h2 : ¬ i < 1 := by omega
    simp [h, h1, h2, ti]
  · have h2 : i < 1 := by omega
    simp [h1, h2]
theorem ti_1 : ∀ i : Nat, i < 32 → ti 1 i = decide (i = 0) := by decide
theorem ti_m2 : ∀ i : Nat, i < 32 → ti (-2) i = decide (1 ≤ i) := by decide
theorem and15 : ∀ n : Nat, n < 16 → ab oo 0 (n : Int) 15 = (n : Int) := by decide
def evS (s : Nat → Int) (F : Nat → Bool) : Nat → Nat → Bool
  | 0 => fun _ => false
  | n + 1 => if 0 ≤ s n then fun i => if i = 0 then F (s n).toNat else evS s F n (i - 1) else if s n = -1 then fun i => if i = 0 then !(evS s F n 0) else evS s F n i else if s n = -2 then fun i => if i = 0 then (evS s F n 0 && evS s F n 1) else evS s F n (i + 1) else fun i => if i = 0 then (evS s F n 0 || evS s F n 1) else evS s F n (i + 1)
theorem evS_f {s : Nat → Int} {F : Nat → Bool} {n g : Nat} (h : s n = (g : Int)) (i : Nat) : evS s F (n + 1) i = if i = 0 then F g else evS s F n (i - 1) := by
  show (if 0 ≤ s n then _ else _ : Nat → Bool) i = _
  rw [h, if_pos (by omega), Int.toNat_natCast]
theorem evS_n {s : Nat → Int} {F : Nat → Bool} {n : Nat} (h : s n = -1) (i : Nat) : evS s F (n + 1) i = if i = 0 then !(evS s F n 0) else evS s F n i := by
  show (if 0 ≤ s n then _ else _ : Nat → Bool) i = _
  rw [h, if_neg (by decide), if_pos (by decide)]
theorem evS_a {s : Nat → Int} {F : Nat → Bool} {n : Nat} (h : s n = -2) (i : Nat) : evS s F (n + 1) i = if i = 0 then (evS s F n 0 && evS s F n 1) else evS s F n (i + 1) := by
  show (if 0 ≤ s n then _ else _ : Nat → Bool) i = _
  rw [h, if_neg (by decide), if_neg (by decide), if_pos (by decide)]
theorem evS_o {s : Nat → Int} {F : Nat → Bool} {n : Nat} (h : s n = -3) (i : Nat) : evS s F (n + 1) i = if i = 0 then (evS s F n 0 || evS s F n 1) else evS s F n (i + 1) := by
  show (if 0 ≤ s n then _ else _ : Nat → Bool) i = _
  rw [h, if_neg (by decide), if_neg (by decide), if_neg (by decide)]
theorem stD_st {s : Nat → Int} {lo hi : Int} {n d' g' : Nat} (h : stD s lo hi (n + 1) = some (d', g')) : ∃ d g, stD s lo hi n = some (d, g) ∧ ((s n = (g : Int) ∧ (g : Int) < hi ∧ d' = d + 1 ∧ g' = g + 1) ∨ (s n = -1 ∧ 1 ≤ d ∧ d' = d ∧ g' = g) ∨ ((s n = -2 ∨ s n = -3) ∧ 2 ≤ d ∧ d' = d - 1 ∧ g' = g)) := by
  unfold stD at h
  cases hq : stD s lo hi n with
  | none => rw [hq] at h; cases h
  | some x =>
    obtain ⟨d, g⟩ := x
    rw [hq] at h
    simp only at h
    refine ⟨d, g, rfl, ?_⟩
    by_cases c1 : s n = (g : Int) ∧ (g : Int) < hi
    · rw [if_pos c1] at h
      cases h
      exact Or.inl ⟨c1.1, c1.2, rfl, rfl⟩
    · rw [if_neg c1] at h
      by_cases c2 : s n = -1 ∧ 1 ≤ d
      · rw [if_pos c2] at h
        cases h
        exact Or.inr (Or.inl ⟨c2.1, c2.2, rfl, rfl⟩)
      · rw [if_neg c2] at h
        by_cases c3 : (s n = -2 ∨ s n = -3) ∧ 2 ≤ d
        · rw [if_pos c3] at h
          cases h
          exact Or.inr (Or.inr ⟨c3.1, c3.2, rfl, rfl⟩)
        · rw [if_neg c3] at h
          cases h
theorem stD_le {s : Nat → Int} {lo hi : Int} (h0 : 0 ≤ lo) (h1 : lo ≤ hi) : ∀ (n d g : Nat), stD s lo hi n = some (d, g) → (d : Int) + lo ≤ (g : Int) ∧ (g : Int) ≤ hi := by
  intro n
  induction n with
  | zero => intro d g h; cases h; omega
  | succ n ih =>
    intro d g h
    obtain ⟨d1, g1, z1, z2⟩ := stD_st h
    have := ih d1 g1 z1
    omega
theorem stD_pre {s : Nat → Int} {lo hi : Int} {N : Nat} {x : Nat × Nat} (h : stD s lo hi N = some x) : ∀ n, n ≤ N → ∃ d g, stD s lo hi n = some (d, g) := by
  induction N generalizing x with
  | zero => intro n hn; have : n = 0 := by omega
            subst this; exact ⟨_, _, h⟩
  | succ N ih =>
    intro n hn
    by_cases e : n = N + 1
    · subst e; exact ⟨_, _, h⟩
    · obtain ⟨d1, g1, z1, _⟩ := stD_st (d' := x.1) (g' := x.2) h
      exact ih z1 n (by omega)
theorem w_isT {Sc : SD} {r P L D G : Nat} {lo hi bits : Int} {F : Nat → Bool} {K : KT} (h0 : 0 ≤ lo) (h1 : lo ≤ hi) (h2 : hi ≤ 16) (hL : P + L ≤ 100) (hs : stD (fun k => (gD Sc 54 r (P + k))) lo hi L = some (D + 1, G)) (hb : ∀ k : Nat, lo ≤ (k : Int) → (k : Int) < hi → ti bits k = F k) : ∀ (n p : Nat) (op : Int) (dp g : Nat), p ≤ L → L - p < n → stD (fun k => (gD Sc 54 r (P + k))) lo hi p = some (dp, g) → (∀ i, i < dp → ti op i = evS (fun k => (gD Sc 54 r (P + k))) F p i) → run oo K false mi_55 n 39 [(0, vr (some (47, r))), (2, vi bits), (3, vi ((P + L : Nat) : Int)), (4, vi op), (5, vi ((P + p : Nat) : Int))] [] Sc = some (vi (if evS (fun k => (gD Sc 54 r (P + k))) F L 0 then 1 else 0), Sc) := by
  intro n
  induction n with
  | zero => intro p op dp g z1 z2; omega
  | succ n ih =>
    intro p op dp g z1 z2 z3 z4
    rw [b55_39]
    by_cases hp : p < L
    · obtain ⟨d', g', z5⟩ := stD_pre hs (p + 1) (by omega)
      obtain ⟨d1, g1, z6, z7⟩ := stD_st z5
      have e0 : d1 = dp ∧ g1 = g := by rw [z6] at z3; cases z3; exact ⟨rfl, rfl⟩
      obtain ⟨rfl, rfl⟩ := e0
      have q1 := stD_le h0 h1 _ _ _ z5
      have q2 := stD_le h0 h1 _ _ _ z6
      have ihp := fun op' => ih (p + 1) op' d' g' (by omega) (by omega) z5
      have e1 := awp (show P + p < 1000000 by omega)
      rw [show P + p + 1 = P + (p + 1) by omega] at e1
      rw [if_pos (by omega), bnd (by omega), tn]
      simp only [e1]
      rcases z7 with ⟨c1, c2, rfl, rfl⟩ | ⟨c1, c2, rfl, rfl⟩ | ⟨c1, c2, rfl, rfl⟩
      · rw [c1, if_neg (by omega)]
        refine ihp _ (fun i hj => ?_)
        rw [and15 g1 (by omega), bit32 _ _ (by omega), ti_ior, ti_ishl _ _ (by omega), hb g1 (by omega) c2]
        rw [evS_f (s := fun k => (gD Sc 54 r (P + k))) (F := F) c1 i]
        by_cases i0 : i = 0
        · subst i0
          rw [if_pos rfl]
          cases F g1 <;> simp [ti_0, ti_1]
        · rw [if_neg i0, z4 (i - 1) (by omega)]
          have : decide (1 ≤ i) = true := decide_eq_true (by omega)
          rw [this]
          cases F g1
          · simp [ti_0]
          · simp [ti_1 i (by omega), i0]
      · rw [c1, if_pos (by decide), if_pos rfl]
        refine ihp _ (fun i hj => ?_)
        rw [ti_ixor, ti_1 i (by omega), z4 i hj]
        rw [evS_n (s := fun k => (gD Sc 54 r (P + k))) (F := F) c1 i]
        by_cases i0 : i = 0
        · subst i0; simp
        · simp [i0]
      · rcases c1 with c1 | c1
        · rw [c1, if_pos (by decide), if_neg (by decide), if_pos rfl]
          refine ihp _ (fun i hj => ?_)
          rw [ti_iand, ti_ior, show (1 : Int) = ((1 : Nat) : Int) from rfl, ti_ishr (by omega), ti_m2 i (by omega), z4 (1 + i) (by omega), z4 i (by omega)]
          rw [evS_a (s := fun k => (gD Sc 54 r (P + k))) (F := F) c1 i]
          by_cases i0 : i = 0
          · subst i0; simp [Bool.and_comm]
          · have : decide (1 ≤ i) = true := decide_eq_true (by omega)
            rw [if_neg i0, this, Nat.add_comm 1 i]; simp
        · rw [c1, if_pos (by decide), if_neg (by decide), if_neg (by decide)]
          refine ihp _ (fun i hj => ?_)
          rw [ti_ior, ti_iand, ti_1 i (by omega), show (1 : Int) = ((1 : Nat) : Int) from rfl, ti_ishr (by omega), z4 (1 + i) (by omega), z4 i (by omega)]
          rw [evS_o (s := fun k => (gD Sc 54 r (P + k))) (F := F) c1 i]
          by_cases i0 : i = 0
          · subst i0; simp [Bool.or_comm]
          · rw [if_neg i0, Nat.add_comm 1 i]; simp [i0]
    · have e : p = L := by omega
      subst e
      rw [z3] at hs
      cases hs
      rw [if_neg (by omega), iand_1, z4 0 (by omega)]
      cases evS (fun k => (gD Sc 54 r (P + k))) F p 0 <;> rfl
end
