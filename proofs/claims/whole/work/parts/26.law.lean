/-! the law, from its entry to its loop, and its end -/
theorem blt_F' {a b : Nat} (h : b ≤ a) : Nat.blt a b = false := blt_F h
theorem beq_F {a b : Nat} (h : b < a) : Nat.beq a b = false := by rw [nbq]; simpa using (by omega : ¬ a = b)
theorem tR_hb {n a : Nat} (hn : 128 ≤ n) (h : a ≤ 128) : Nat.blt n a = false := blt_F (by omega)
theorem tR_hq {n a : Nat} (hn : 128 ≤ n) (h : a < 128) : Nat.beq n a = false := beq_F (by omega)
theorem tRb_2 {n : Nat} (hn : 128 ≤ n) : tR_2 n = none := by
  unfold tR_2
  simp only [tR_hb hn, tR_hq hn, Nat.reduceLeDiff, Nat.reduceLT, cond_false]
theorem tRb_3 {n : Nat} (hn : 128 ≤ n) : tR_3 n = none := by
  unfold tR_3
  simp only [tR_hb hn, tR_hq hn, Nat.reduceLeDiff, Nat.reduceLT, cond_false]
theorem tRb_13 {n : Nat} (hn : 128 ≤ n) : tR_13 n = none := by
  unfold tR_13
  simp only [tR_hb hn, tR_hq hn, Nat.reduceLeDiff, Nat.reduceLT, cond_false]
theorem tRb_29 {n : Nat} (hn : 128 ≤ n) : tR_29 n = none := by
  unfold tR_29
  simp only [tR_hb hn, tR_hq hn, Nat.reduceLeDiff, Nat.reduceLT, cond_false]
theorem tRb_31 {n : Nat} (hn : 128 ≤ n) : tR_31 n = none := by
  unfold tR_31
  simp only [tR_hb hn, tR_hq hn, Nat.reduceLeDiff, Nat.reduceLT, cond_false]
theorem tRb_35 {n : Nat} (hn : 128 ≤ n) : tR_35 n = none := by
  unfold tR_35
  simp only [tR_hb hn, tR_hq hn, Nat.reduceLeDiff, Nat.reduceLT, cond_false]
theorem tRb_41 {n : Nat} (hn : 128 ≤ n) : tR_41 n = none := by
  unfold tR_41
  simp only [tR_hb hn, tR_hq hn, Nat.reduceLeDiff, Nat.reduceLT, cond_false]
theorem tRb_55 {n : Nat} (hn : 128 ≤ n) : tR_55 n = none := by
  unfold tR_55
  simp only [tR_hb hn, tR_hq hn, Nat.reduceLeDiff, Nat.reduceLT, cond_false]
theorem tRb_62 {n : Nat} (hn : 128 ≤ n) : tR_62 n = none := by
  unfold tR_62
  simp only [tR_hb hn, tR_hq hn, Nat.reduceLeDiff, Nat.reduceLT, cond_false]
theorem tRb_68 {n : Nat} (hn : 128 ≤ n) : tR_68 n = none := by
  unfold tR_68
  simp only [tR_hb hn, tR_hq hn, Nat.reduceLeDiff, Nat.reduceLT, cond_false]
theorem tRb_75 {n : Nat} (hn : 128 ≤ n) : tR_75 n = none := by
  unfold tR_75
  simp only [tR_hb hn, tR_hq hn, Nat.reduceLeDiff, Nat.reduceLT, cond_false]
theorem tRb_85 {n : Nat} (hn : 128 ≤ n) : tR_85 n = none := by
  unfold tR_85
  simp only [tR_hb hn, tR_hq hn, Nat.reduceLeDiff, Nat.reduceLT, cond_false]
theorem tRb_r {j n : Nat} (hn : 128 ≤ n) : tR_r j n = none := by
  unfold tR_r
  simp only [tR_hb hn, tR_hq hn, Nat.reduceLeDiff, Nat.reduceLT, cond_false]
theorem tR_big {f j n : Nat} (hn : 128 ≤ n) (hw : f ≠ 42) : tR f j n = none := by
  unfold tR
  exact (bs (P := fun x => x = none) (fun _ => (bs (P := fun x => x = none) (fun _ => (bs (P := fun x => x = none) (fun _ => (bs (P := fun x => x = none) (fun q => tRb_2 hn) (fun q => rfl))) (fun _ => (bs (P := fun x => x = none) (fun _ => (bs (P := fun x => x = none) (fun q => tRb_3 hn) (fun q => rfl))) (fun _ => (bs (P := fun x => x = none) (fun q => tRb_13 hn) (fun q => rfl))))))) (fun _ => (bs (P := fun x => x = none) (fun _ => (bs (P := fun x => x = none) (fun _ => (bs (P := fun x => x = none) (fun q => tRb_29 hn) (fun q => rfl))) (fun _ => (bs (P := fun x => x = none) (fun q => tRb_31 hn) (fun q => rfl))))) (fun _ => (bs (P := fun x => x = none) (fun _ => (bs (P := fun x => x = none) (fun q => tRb_35 hn) (fun q => rfl))) (fun _ => (bs (P := fun x => x = none) (fun q => tRb_41 hn) (fun q => rfl))))))))) (fun _ => (bs (P := fun x => x = none) (fun _ => (bs (P := fun x => x = none) (fun _ => (bs (P := fun x => x = none) (fun q => absurd (Nat.eq_of_beq_eq_true q) hw) (fun q => rfl))) (fun _ => (bs (P := fun x => x = none) (fun _ => (bs (P := fun x => x = none) (fun q => tRb_r hn) (fun q => rfl))) (fun _ => (bs (P := fun x => x = none) (fun q => tRb_55 hn) (fun q => rfl))))))) (fun _ => (bs (P := fun x => x = none) (fun _ => (bs (P := fun x => x = none) (fun _ => (bs (P := fun x => x = none) (fun q => tRb_62 hn) (fun q => rfl))) (fun _ => (bs (P := fun x => x = none) (fun q => tRb_68 hn) (fun q => rfl))))) (fun _ => (bs (P := fun x => x = none) (fun _ => (bs (P := fun x => x = none) (fun q => tRb_75 hn) (fun q => rfl))) (fun _ => (bs (P := fun x => x = none) (fun q => tRb_85 hn) (fun q => rfl))))))))))
def eqA1 : Option ER → Bool
  | some (.inr (.inr none), A) => eqE A A1
  | _ => false
theorem A1_c : eqA1 A1o = true := by decide +kernel
theorem A1_o : A1o = some (vr none, A1) := by
  have h := A1_c
  cases e : A1o with
  | none => rw [e] at h; cases h
  | some q =>
    rw [e] at h
    unfold eqA1 at h
    split at h
    · next A e2 => rw [e2, eqE_eq h]
    · cases h
def tchk (n : Nat) : Bool := Nat.all 128 (fun k _ => match tR (ordN n).1 (ordN n).2 k with
  | none => true
  | some p => (Nat.beq (ordN n).1 42 && Nat.ble 20 k) || eqO (eR A1.2.1 (ordN n).1 (ordN n).2 k) p)
theorem A1_t : Nat.all 321 (fun n _ => tchk n) = true := by decide +kernel
theorem A1_n : A1.2.2 = (321, 87280) := rfl
theorem A1_T {S : SD} (hR : Rel A1 S) {f j k : Nat} {p : Option (Nat × Nat)} (hp : tR f j k = some p) (hl : live S (f, j)) (hk : f = 42 → k < 20) : S.2.1 f j k = p := by
  rw [hR.2.1]
  have hn : numF f j < 321 := by
    have := hl.2.1
    rw [hR.2.2.1, A1_n] at this
    exact this
  have h1 := A1_t
  rw [Nat.all_eq_finRange_all, List.all_eq_true] at h1
  have h2 := h1 ⟨numF f j, hn⟩ (List.mem_finRange _)
  have h3 : tchk (numF f j) = true := h2
  unfold tchk at h3
  have hk2 : k < 128 := by
    by_cases hw : f = 42
    · have := hk hw; omega
    · apply Nat.lt_of_not_le
      intro q
      rw [tR_big q hw] at hp
      cases hp
  rw [Nat.all_eq_finRange_all, List.all_eq_true] at h3
  have h4 := h3 ⟨k, hk2⟩ (List.mem_finRange _)
  have e : ordN (numF f j) = (f, j) := hl.2.2
  simp only [e, hp] at h4
  rcases (Bool.or_eq_true _ _).mp h4 with h5 | h5
  · obtain ⟨h6, h7⟩ := ko h5
    have h6 := Nat.eq_of_beq_eq_true h6
    have h7 := Nat.le_of_ble_eq_true h7
    have := hk h6
    omega
  · exact eqO_eq h5
def S0 (L : Nat) (xs : Nat → Int32) : SD := (fun f j k => if f = 0 ∧ j = 0 ∧ k < L then (xs k).toInt else if f = 0 ∧ j = 1 ∧ k = 0 then (L : Int) else 0, fun _ _ _ => none, 0, 0)
theorem DI_0 {L : Nat} {xs : Nat → Int32} (hL : L ≤ 3584) : DI true L xs (S0 L xs) := by
  have hr : ∀ f j k, r32 ((S0 L xs).1 f j k) := fun f j k => by
    show r32 (if f = 0 ∧ j = 0 ∧ k < L then (xs k).toInt else if f = 0 ∧ j = 1 ∧ k = 0 then (L : Int) else 0)
    split
    · have h1 := Int32.le_toInt (xs k)
      have h2 := Int32.toInt_lt (xs k)
      exact ⟨h1, h2⟩
    · split
      · unfold r32; omega
      · unfold r32; omega
  refine ⟨fun f j k => ⟨fun _ => r32_64 (hr f j k), fun _ => hr f j k⟩, fun f j k g h => (by cases h), fun f j hf hl k => ⟨?_, rfl⟩, Nat.zero_le _, ⟨fun k hk => ?_, ?_⟩, fun q => by cases q⟩
  · show (if f = 0 ∧ j = 0 ∧ k < L then (xs k).toInt else if f = 0 ∧ j = 1 ∧ k = 0 then (L : Int) else 0) = 0
    rw [if_neg (by omega), if_neg (by omega)]
  · show (if 0 = 0 ∧ 0 = 0 ∧ k < L then (xs k).toInt else _) = _
    rw [if_pos ⟨rfl, rfl, hk⟩]
  · show (if 0 = 0 ∧ 1 = 0 ∧ 0 < L then (xs 0).toInt else if 0 = 0 ∧ 1 = 1 ∧ 0 = 0 then (L : Int) else 0) = _
    rw [if_neg (by omega), if_pos ⟨rfl, rfl, rfl⟩]
theorem Rel_0 {L : Nat} {xs : Nat → Int32} : Rel ([], [], 0, 0) (S0 L xs) := by
  refine ⟨fun f j k v h => ?_, fun _ _ _ => rfl, rfl, rfl⟩
  have h : (bif Nat.beq f 0 then none else some 0) = some v := h
  by_cases hf : f = 0
  · subst hf; cases h
  · rw [show Nat.beq f 0 = false by rw [nbq]; simpa using hf] at h
    cases h
    show (if f = 0 ∧ j = 0 ∧ k < L then (xs k).toInt else if f = 0 ∧ j = 1 ∧ k = 0 then (L : Int) else 0) = 0
    rw [if_neg (by omega), if_neg (by omega)]
def blkL : Nat → Lc → List V → SD → Option RR := fun pc l st S => bif Nat.beq pc 18 && (eqL l LH && st.isEmpty) then some (vr none, S) else none
theorem SK_ok (lc : Launch) (G : GE) (L : Nat) (xs : Nat → Int32) (md : Bool) (d : Nat) : SK lc G L xs md (EE md d) d := SK_all HAC_ok PF_all (fun _ _ _ _ _ _ _ _ _ _ _ _ _ _ hC hE h9 h10 => STRH_ok hC hE h9 h10) d
theorem whole_of {p : Program} {e : Env} {s : State} {m : MethodId} {below : List Frame} {meth : Method} {c : Code} (l : Launch) {b L : Nat} {xs : Nat → Int32} (hL : L ≤ 3584) (C0 : lw_At p s m meth c b L xs)
    (LAW : ∀ S1 : SD, Rel A1 S1 → DI false L xs S1 → ∃ (n d : Nat) (S2 : SD), run oo (EE false d) false mi_307 n 18 LH [] S1 = some (vi 1, S2) ∧ S2.2.2.2 ≤ 7302250 ∧ d ≤ 1300) :
    W p l e room_1 s m #[Value.ref b] below meth c s.heap [] 0 0 (lw_Z below #[Value.ref b] s) (entryFrame m ([Value.ref b] : List Value).toArray 4) := by
  obtain ⟨G, g1, g2, hEX⟩ := start_EX C0
  obtain ⟨hx, hb, hr, hml, hown, hts, hX, hbl, hlocks, hgv⟩ := C0
  obtain ⟨S1, hS1, hR1⟩ := ebk_sim (EV_sim 6) (bk := ebkL) (bk' := blkL) (fun pc l st A S hA h => by
    unfold ebkL at h
    obtain ⟨h1, h⟩ := bifA h
    cases h
    exact ⟨S, by unfold blkL; rw [h1]; rfl, hA⟩) 800 0 [(0, vr (some (0, 0)))] [] ([], [], 0, 0) (S0 L xs) Rel_0 A1_o
  have hn := hR1.2.2.1
  have hu := hR1.2.2.2
  rw [A1_n] at hn hu
  have hn : S1.2.2.1 = 321 := hn
  have hu : S1.2.2.2 = 87280 := hu
  obtain ⟨P1, P2, P3, P4, P5, P6⟩ := PF_all 307 mi_307 rfl
  have hlP : live S1 (2, 0) := ⟨by decide, by rw [hn]; decide, by decide⟩
  have hlM : live S1 (85, 0) := ⟨by decide, by rw [hn]; decide, by decide⟩
  have hLH : ∀ q ∈ LH, vok S1 q.2 := by
    intro q hq
    simp only [LH, List.mem_cons, List.not_mem_nil, or_false] at hq
    rcases hq with rfl | rfl | rfl | rfl
    · exact Or.inl rfl
    · exact Or.inr (Or.inr hlP)
    · exact Or.inr (Or.inr hlM)
    · show r32 0
      unfold r32; omega
  have hC : Cx p room_1 s m #[Value.ref b] c G L xs 0 4 13 (byt 307) := ⟨hx, hb, hml, hown, fun w hw => hts w (TBL_sub w hw), hEX.1, hEX.2.1, hEX.2.2.1, hEX.2.2.2.1, g1.symm⟩
  have hst0 : ∀ w ∈ ([] : List V), vok (S0 L xs) w := fun w hw => by cases hw
  have hl0 : ∀ q ∈ ([(0, vr (some (0, 0)))] : Lc), vok (S0 L xs) q.2 := fun q hq => by
    rw [List.mem_singleton.mp hq]; exact Or.inl rfl
  have hSTR : STRH p l e room_1 s m #[Value.ref b] below meth c (lw_Z below #[Value.ref b] s) G 4 13 (byt 307) := STRH_ok hC hEX (by decide) (by decide)
  have hA : ∀ (rv : RR) (md : Bool) (d : Nat), d ≤ 1300 → (True → rv.2.2.2.1 - 0 ≤ room_1.cells ∧ rv.2.2.2.2 - 0 ≤ room_1.slots) → (True → RT p l e room_1 s m #[Value.ref b] below meth c (lw_Z below #[Value.ref b] s) G L xs md 0 0 rv (byt 307) mi_307.2.2.2.1) → AX True p l e room_1 s m #[Value.ref b] below meth c (lw_Z below #[Value.ref b] s) G L xs md 0 0 4 rv (byt 307) 13 d (EE md d) mi_307 := fun rv md d hd hR hT =>
    ⟨fun _ => hC, fun _ => hEX, hR, fun _ => ⟨by show d + 9 ≤ 2048; omega, by show 64 * d + 664 ≤ 84000; omega⟩, SK_ok l G L xs md d, P2, fun _ => hSTR, (fun _ q => by cases q), rfl, rfl, hT⟩
  -- first: what the constructors leave
  have h1 := s_blk (rv := (vr none, S1)) HAC_ok (hA (vr none, S1) true 6 (by decide) (fun _ => ⟨by show S1.2.2.1 - 0 ≤ 600000; omega, by show S1.2.2.2 - 0 ≤ 7302250; omega⟩) (fun _ H locs ls pc q1 q2 q3 q4 => ⟨(fun x q => by cases q), (fun x q => by cases q), (fun x _ q => by cases q), (fun q => by cases q)⟩)) P1 (back := blkL) (fun pc l2 st S h => ?_) 800 0 [(0, vr (some (0, 0)))] [] (S0 L xs) hS1
  · have h2 := h1.2 (DI_0 hL) hl0 hst0
    have hls := lv_entry [Value.ref b] (n := 4) (by simp [lg_sl, Value.category])
    rw [lg_entry_eq]
    have hP0 : va_P G.2.2.2.1 vwCl (wl G (S0 L xs)) s.heap := fun k q h => by cases h
    exact h2.2 trivial (Nat.le_refl _) (Nat.le_refl _) s.heap [] _ hP0 va_S.rf (by
      have e0 : ad G (0, 0) = b := g2
      show lv_has _ 4 [(0, Value.ref (ad G (0, 0)))]
      rw [e0]
      exact hls)
  · unfold blkL at h
    obtain ⟨h3, h⟩ := bifA h
    obtain ⟨h4, h5⟩ := ko h3
    obtain ⟨h6, h7⟩ := ko h5
    have h4 := Nat.eq_of_beq_eq_true h4
    have h6 := eqL_eq _ _ h6
    have h7 : st = [] := List.isEmpty_iff.mp h7
    cases h
    subst h4 h6 h7
    refine ⟨⟨Nat.le_refl _, Nat.le_refl _⟩, fun hdi hl hs => ⟨⟨hdi, trivial⟩, fun _ _ _ H locs ls q1 q2 q3 => ?_⟩⟩
    have hdf : DI false L xs S1 := ⟨hdi.1, hdi.2.1, hdi.2.2.1, hdi.2.2.2.1, hdi.2.2.2.2.1, fun _ f j k p hp hlv hk => A1_T hR1 hp hlv hk⟩
    obtain ⟨n, d, S2, r1, r2, r3⟩ := LAW S1 hR1 hdf
    have hmo : S1.2.2.1 ≤ S2.2.2.1 ∧ S1.2.2.2 ≤ S2.2.2.2 ∧ DI false L xs S2 := by
      have h9 := s_run (CT := False) (p := .bare "" "" "") (lc := l) (e := { classPath := fun _ => none }) (R := {}) (s := default) (m := default) (args := #[]) (below := []) (meth := default) (c := { maxStack := 0, maxLocals := 0, code := ByteArray.empty, exceptionTable := #[], attributes := #[] }) (Q := fun _ => True) (G := G) (L := L) (xs := xs) (md := false) (N0 := 0) (U0 := 0) (nL := mi_307.2.2.2.2.2.2) (rv := (vi 1, S2)) (cc := byt 307) (own := mi_307.2.2.2.2.1) (d0 := d) (K := EE false d) (mi := mi_307) HAC_ok ⟨fun q => q.elim, fun q => q.elim, fun q => q.elim, fun q => q.elim, SK_ok l G L xs false d, P2, fun q => q.elim, fun q => q.elim, rfl, rfl, fun q => q.elim⟩ P1 _ _ _ _ _ r1
      exact ⟨h9.1.1, h9.1.2, (h9.2 hdf hLH (fun w hw => by cases hw)).1.1⟩
    have hn2 : S2.2.2.1 ≤ 321 := hmo.2.2.2.2.2.1
    have h10 := s_run (rv := (vi 1, S2)) HAC_ok (hA (vi 1, S2) false d r3 (fun _ => ⟨by show S2.2.2.1 - 0 ≤ 600000; omega, by show S2.2.2.2 - 0 ≤ 7302250; omega⟩) (fun _ H locs ls pc q1 q2 q3 q4 => ⟨(fun x e1 e2 e3 => ?_), (fun x q => by cases q), (fun x q => by cases q), (fun q => by cases q)⟩)) P1 n 18 LH [] S1 r1
    · exact (h10.2 hdf hLH (fun w hw => by cases hw)).2 trivial (Nat.zero_le _) (Nat.zero_le _) H locs ls q1 q2 q3
    · refine va_forget (fun q hq => by rw [← g1]; exact q4.2.2 q hq) (W.widen (k := 600000) (n := 7302250) (by show S2.2.2.1 - 0 ≤ _; omega) (by show S2.2.2.2 - 0 ≤ _; omega) ?_)
      exact lw_ret hx hb hr hlocks e3
