/-! the invariants at the start -/
theorem eD_mem {f j k : Nat} {w : Int} : ∀ l : EW, (f, j, k, w) ∈ l → ∃ v, eD l f j k = some v ∧ (f, j, k, v) ∈ l := by
  intro l
  induction l with
  | nil => intro h; cases h
  | cons x t ih =>
    obtain ⟨a, b, c, v⟩ := x
    intro h
    show ∃ v', (bif Nat.beq a f && (Nat.beq b j && Nat.beq c k) then some v else eD t f j k) = some v' ∧ _
    cases hb : (Nat.beq a f && (Nat.beq b j && Nat.beq c k)) with
    | true =>
      rw [Bool.and_eq_true, Bool.and_eq_true] at hb
      refine ⟨v, rfl, ?_⟩
      rw [← Nat.eq_of_beq_eq_true hb.1, ← Nat.eq_of_beq_eq_true hb.2.1, ← Nat.eq_of_beq_eq_true hb.2.2]
      exact List.mem_cons_self
    | false =>
      rcases List.mem_cons.mp h with e | e
      · cases e
        rw [Nat.beq_refl, Nat.beq_refl, Nat.beq_refl] at hb
        cases hb
      · obtain ⟨v', i1, i2⟩ := ih e
        exact ⟨v', i1, List.mem_cons_of_mem _ i2⟩
theorem A1_w {S : SD} (hR : Rel A1 S) (n k : Nat) (h : k ≤ n) (hn : n ≤ 40) : gD S 84 0 (41 * n + k) = chs n k := by
  have e := eq_of_beq kyW1
  have m1 : 41 * n + k ∈ kyW.reverse := by
    rw [List.mem_reverse]
    exact List.mem_flatMap.mpr ⟨n, List.mem_range.mpr (by omega), List.mem_map.mpr ⟨k, List.mem_range.mpr (by omega), rfl⟩⟩
  rw [← e] at m1
  obtain ⟨x, m2, m3⟩ := List.mem_map.mp m1
  obtain ⟨m4, m5⟩ := List.mem_filter.mp m2
  have ck := List.all_eq_true.mp ckWs17 x m4
  obtain ⟨a, b, c, w⟩ := x
  have a8 : a = 84 := Nat.eq_of_beq_eq_true m5
  subst a8
  have c8 : c = 41 * n + k := m3
  subst c8
  have b0 : b = 0 := by
    have ck : ((!(Nat.beq 84 84)) || (Nat.beq b 0 && w == chs ((41 * n + k) / 41) ((41 * n + k) % 41))) = true := ck
    rw [Nat.beq_refl, Bool.not_true, Bool.false_or, Bool.and_eq_true] at ck
    exact Nat.eq_of_beq_eq_true ck.1
  subst b0
  obtain ⟨v, v1, v2⟩ := eD_mem _ m4
  have ck := List.all_eq_true.mp ckWs17 _ v2
  have ck : ((!(Nat.beq 84 84)) || (Nat.beq 0 0 && v == chs ((41 * n + k) / 41) ((41 * n + k) % 41))) = true := ck
  rw [Nat.beq_refl, Bool.not_true, Bool.false_or, Nat.beq_refl, Bool.true_and] at ck
  have ck := eq_of_beq ck
  rw [show (41 * n + k) / 41 = n by omega, show (41 * n + k) % 41 = k by omega] at ck
  have e2 : gD S 84 0 (41 * n + k) = v := hR.1 84 0 (41 * n + k) v v1
  rw [e2, ck]
theorem A1_b {S : SD} (hR : Rel A1 S) {f k n : Nat} (hf : f ≠ 0) (hk : n ≤ k) (h : ∀ v : Int, nzC (f, 0, k, v) = false) : gD S f 0 k = 0 := by
  rcases A1_v hR f 0 k hf with q | q
  · exact q
  · have := List.all_eq_true.mp nzC_ok _ q
    rw [h] at this
    cases this
theorem eqT_u {S : SD} (hR : Rel A1 S) {f g n : Nat} (h : eqT f g n = true) (k : Nat) (hk : k < n) : gD S f 0 k = gD S g 0 k := by
  unfold eqT at h
  rw [Nat.all_eq_finRange_all, List.all_eq_true] at h
  have h := h ⟨k, hk⟩ (List.mem_finRange _)
  dsimp only at h
  split at h
  · rename_i a b e1 e2
    have q1 : gD S f 0 k = a := hR.1 f 0 k a e1
    have q2 : gD S g 0 k = b := hR.1 g 0 k b e2
    rw [q1, q2]
    exact eq_of_beq h
  · cases h
theorem eqV_u {S : SD} (hR : Rel A1 S) {f n : Nat} {v : Int} (h : eqV f n v = true) (k : Nat) (hk : k < n) : gD S f 0 k = v := by
  unfold eqV at h
  rw [Nat.all_eq_finRange_all, List.all_eq_true] at h
  have h := h ⟨k, hk⟩ (List.mem_finRange _)
  dsimp only at h
  split at h
  · rename_i a e1
    have q1 : gD S f 0 k = a := hR.1 f 0 k a e1
    rw [q1]
    exact eq_of_beq h
  · cases h
theorem A1_rk {S : SD} (hR : Rel A1 S) (f : Nat) (hf : f = 139 ∨ f = 32) (k : Nat) : (64 ≤ k → gD S f 0 k = 0) ∧ 0 ≤ gD S f 0 k ∧ gD S f 0 k ≤ 9 := by
  rcases A1_v hR f 0 k (by omega) with q | q
  · rw [q]; omega
  · have := List.all_eq_true.mp nzC_ok _ q
    unfold nzC at this
    rcases hf with rfl | rfl <;> simp [nzF] at this <;> refine ⟨fun h => ?_, ?_, ?_⟩ <;> omega
theorem A1_od {S : SD} (hR : Rel A1 S) (f : Nat) (hf : f = 82 ∨ f = 83 ∨ f = 169 ∨ f = 170) (k : Nat) (hk : 8 ≤ k) : gD S f 0 k = 0 := by
  rcases A1_v hR f 0 k (by omega) with q | q
  · exact q
  · have := List.all_eq_true.mp nzC_ok _ q
    unfold nzC at this
    rcases hf with rfl | rfl | rfl | rfl <;> simp [nzF] at this <;> omega
theorem CI2_0 {S : SD} (hR : Rel A1 S) : CI2 0 S S := by
  have z := fun f j k => @A1_0 S hR f j k
  have zc := fun f j k => @A1_c0 S hR f j k
  have r1 : ∀ k, gD S 139 0 k = gD S 32 0 k := fun k => by
    by_cases h : k < 64
    · exact eqT_u hR eqT1 k h
    · rw [(A1_rk hR 139 (Or.inl rfl) k).1 (by omega), (A1_rk hR 32 (Or.inr rfl) k).1 (by omega)]
  have r2 : ∀ k, 0 ≤ gD S 32 0 k ∧ gD S 32 0 k ≤ 9 := fun k => (A1_rk hR 32 (Or.inr rfl) k).2
  have o1 : ∀ k, gD S 169 0 k = gD S 82 0 k := fun k => by
    by_cases h : k < 8
    · exact eqT_u hR eqT2 k h
    · rw [A1_od hR 169 (by omega) k (by omega), A1_od hR 82 (by omega) k (by omega)]
  have o2 : ∀ k, gD S 170 0 k = gD S 83 0 k := fun k => by
    by_cases h : k < 8
    · exact eqT_u hR eqT3 k h
    · rw [A1_od hR 170 (by omega) k (by omega), A1_od hR 83 (by omega) k (by omega)]
  have v1 := eqV_u hR eqV1
  have v2 := eqV_u hR eqV2
  have v3 := eqV_u hR eqV3
  have v4 := eqV_u hR eqV4
  have q1 : gD S 68 0 10 = -1 := hR.1 68 0 10 _ eD68
  have q2 : gD S 85 0 104 = -1 := hR.1 85 0 104 _ eD85
  have nn : ∀ k : Nat, ¬ (k : Int) < 0 := fun k => by omega
  refine ⟨?_, ?_, ?_, ?_, ?_, ?_, ?_, ?_, ?_, ?_, ?_, ?_, ?_, ?_⟩
  · unfold IN; simp (disch := decide) only [A1_0 hR, A1_c0 hR]; first | omega | simp | decide
  · unfold IT; simp (disch := decide) only [A1_0 hR, A1_c0 hR]; simp
  · unfold IS; simp (disch := decide) only [A1_0 hR, A1_c0 hR]; simp
  · unfold IW; simp (disch := decide) only [A1_0 hR, A1_c0 hR]; simp [nn]
  · unfold IC; simp (disch := decide) only [A1_0 hR, A1_c0 hR]
    refine ⟨fun t ht => Or.inl ⟨v1 t ht, by first | trivial | rfl, fun k hk => absurd hk (nn k)⟩, fun w hw => absurd hw (nn w), fun t ht => Or.inl ⟨v2 t ht, fun k hk => absurd hk (nn k)⟩, fun w hw => absurd hw (nn w)⟩
  · unfold IO; simp (disch := decide) only [A1_0 hR, A1_c0 hR]; simp
  · unfold IX; simp (disch := decide) only [A1_0 hR, A1_c0 hR]; simp [r1, r2]
  · unfold IP; simp (disch := decide) only [A1_0 hR, A1_c0 hR]; simp
  · unfold IR; simp (disch := decide) only [A1_0 hR, A1_c0 hR]; simp [nn]
  · unfold IF; simp (disch := decide) only [A1_0 hR, A1_c0 hR]; simp [nn]
  · unfold IA; simp (disch := decide) only [A1_0 hR, A1_c0 hR]; simp [nn]
  · unfold IH; simp (disch := decide) only [A1_0 hR, A1_c0 hR]; simp [nn]
  · unfold IQ; simp (disch := decide) only [A1_0 hR, A1_c0 hR, q1, q2, tb_0]; simp
  · unfold IG; simp (disch := decide) only [A1_0 hR, A1_c0 hR, o1, o2]
    refine ⟨fun t ht => absurd ht (nn t), fun t _ ht => ⟨v3 t ht, v4 t ht⟩, fun t ht => by rw [v3 t ht, v4 t ht]; decide, fun k => by first | trivial | rfl, fun k => by first | trivial | rfl, fun k => by first | trivial | rfl, fun k => by first | trivial | decide | simp, fun k => by first | trivial | rfl, fun k => by first | trivial | exact Or.inl rfl | simp, fun k => by first | trivial | rfl, fun k => by first | trivial | rfl, fun n k h hn => A1_w hR n k h hn⟩
