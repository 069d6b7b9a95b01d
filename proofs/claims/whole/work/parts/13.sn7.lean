section
variable {CT : Prop} {p : Program} {lc : Launch} {e : Env} {R : Room} {s : State} {m : MethodId} {args : Array Value} {below : List Frame} {meth : Method} {c : Code} {Q : State → Prop} {G : GE} {L : Nat} {xs : Nat → Int32} {md : Bool} {N0 U0 nL d0 : Nat} {rv : RR} {cc : ByteArray} {pc pc' len own : Nat} {l l' : Lc} {st st' : List V} {S S' : SD} {K : KT} {mi : MI} {k : Nat → Lc → List V → SD → Option RR}

theorem strT_out {j : Nat} (h : ¬ j < 12) : (strT j).length ≤ 6 ∧ ∀ x ∈ strT j, r32 x := by
  have hb : ∀ n, n ≤ 12 → Nat.blt j n = false := fun n hn => by
    cases hh : Nat.blt j n
    · rfl
    · have := Nat.le_of_ble_eq_true hh
      omega
  unfold strT
  simp only [hb, Nat.reduceLeDiff, cond_false]
  exact ⟨by decide, fun x hx => by revert x; unfold r32; decide⟩
theorem strT_in : ∀ j, j < 12 → (strT j).length ≤ 6 ∧ ∀ x ∈ strT j, (-2147483648 ≤ x ∧ x < 2147483648) := by decide +kernel
theorem strT_len (j : Nat) : (strT j).length ≤ 6 := by
  by_cases h : j < 12
  · exact (strT_in j h).1
  · exact (strT_out h).1
theorem strT_r (j : Nat) : ∀ x ∈ strT j, r32 x := by
  by_cases h : j < 12
  · exact (strT_in j h).2
  · exact (strT_out h).2
theorem strL_r (j : Nat) : r32 (strL j) := by
  have := strT_len j
  unfold strL r32
  omega
theorem strC_r (j i : Nat) : r32 (strC j i) := by
  unfold strC
  rw [List.getD_eq_getElem?_getD]
  cases h : (strT j)[i]? with
  | none => simp [r32]
  | some x => exact strT_r j x (List.mem_of_getElem? h)

/-- the two String methods, as rows (proved apart) -/
def STRH (p : Program) (lc : Launch) (e : Env) (R : Room) (s : State) (m : MethodId) (args : Array Value) (below : List Frame) (meth : Method) (c : Code) (Q : State → Prop) (G : GE) (nL own : Nat) (cc : ByteArray) : Prop :=
  ∀ (n pc j a b : Nat) (H : Heap) (locs : List Loc) (ls : Array Slot) (rest : List Value), j < 12 → va_S (fun q => G.1 ≤ q) s.heap H locs → ls.size = nL → a ≤ R.cells → b ≤ R.slots → (rest.map fun v => v.category).sum ≤ 8 → decode cc pc = .ok (.invokevirtual n, 3) →
    ((Cond.methodLink (cnm own) n ⟨"java/lang/String", "length", "()I"⟩) ∈ TBL → W p lc e R s m args below meth c H locs a b Q (F0 m (pc + 3) ls (.int (Int32.ofInt (strL j)) :: rest)) → W p lc e R s m args below meth c H locs a b Q (F0 m pc ls (.ref (ad G (1, j)) :: rest))) ∧
    ((Cond.methodLink (cnm own) n ⟨"java/lang/String", "charAt", "(I)C"⟩) ∈ TBL → ∀ i : Int, 0 ≤ i ∧ i < strL j → r32 i → W p lc e R s m args below meth c H locs a b Q (F0 m (pc + 3) ls (.int (Int32.ofInt (strC j i.toNat)) :: rest)) → W p lc e R s m args below meth c H locs a b Q (F0 m pc ls (.int (Int32.ofInt i) :: .ref (ad G (1, j)) :: rest)))
/-- what the entries of the pool need beside 'pwd' and 'cwd' -/
def swd (c idx : Nat) : PE → Prop
  | (2, 4, _, _, _, _) => (Cond.methodLink (cnm c) idx ⟨"java/lang/String", "length", "()I"⟩) ∈ TBL
  | (2, 5, _, _, _, _) => (Cond.methodLink (cnm c) idx ⟨"java/lang/String", "charAt", "(I)C"⟩) ∈ TBL
  | (6, j, _, _, _, _) => j < 12 ∧ (strO j).1 = cnm c ∧ (strO j).2.1 = idx
  | _ => True
theorem fins {α : Type} (x : α) (l : List α) (n : Nat) (w : α) (r : List α) (h : l.drop n = w :: r) : l = l.take n ++ w :: r ∧ (l.take n).length = n := by
  refine ⟨by rw [← h, List.take_append_drop], ?_⟩
  have : n < l.length := by
    apply Nat.lt_of_not_le
    intro hn
    rw [List.drop_eq_nil_of_le hn] at h
    cases h
  rw [List.length_take]
  omega
theorem take_rev (G : GE) (t : List V) : (t.reverse.map (tv G)).reverse = t.map (tv G) := by rw [List.map_reverse, List.reverse_reverse]
theorem csum8 {G : GE} {r : List V} (h : Nat.ble (csum r) 8 = true) : ((r.map (tv G)).map fun v => v.category).sum ≤ 8 := by
  rw [csum_tv]
  exact Nat.le_of_ble_eq_true h
theorem s_invokevirtual {n : Nat} (C0 : CT → Cx p R s m args c G L xs N0 nL own cc) (CX : CT → EX2 G L xs s s.heap) (hR : CT → rv.2.2.2.1 - N0 ≤ R.cells ∧ rv.2.2.2.2 - U0 ≤ R.slots) (hrm : CT → d0 + 9 ≤ R.frames ∧ 64 * d0 + 664 ≤ R.locals) (hSK : SK lc G L xs md K d0) (hw : ∀ q, mi.2.1 n = some q → cwd own n q ∧ swd own n q) (hstr : CT → STRH p lc e R s m args below meth c Q G nL own cc)
    (hd : decode cc pc = .ok (.invokevirtual n, len)) (ho : okI pc (.invokevirtual n) len = true) (h : stp oo K md mi (.invokevirtual n) len pc l st S k = some rv) (hk : ∀ (pc : Nat) (l : Lc) (st : List V) (S : SD), k pc l st S = some rv → SM CT p lc e R s m args below meth c Q G L xs md N0 U0 nL rv pc l st S) : SM CT p lc e R s m args below meth c Q G L xs md N0 U0 nL rv pc l st S := by
  cases len_of (n := 3) ho
  simp only [stp] at h
  split at h
  · next z ac ci rk zz e1 =>
    obtain ⟨hck, w1, w2, w3⟩ := (hw _ e1).1
    obtain ⟨f, j, r, hst, h⟩ := pR_spec h
    obtain ⟨hst1, hst2⟩ := fins (.inl 0) st ac _ r hst
    obtain ⟨hq, h⟩ := bif_spec h
    obtain ⟨hob, hcs⟩ := ko hq
    obtain ⟨o1, o2⟩ := isObj_spec hob
    obtain ⟨v, S', hK1, hkk⟩ := cal_spec h
    have hn : ∃ v', ((rk = 0 ∧ v' = []) ∨ (rk ≠ 0 ∧ v' = [v])) ∧ SM CT p lc e R s m args below meth c Q G L xs md N0 U0 nL rv (pc + 3) l (v' ++ r) S' := by
      rcases hkk with ⟨g1, g2⟩ | ⟨g1, g2⟩
      · exact ⟨[], Or.inl ⟨g1, rfl⟩, hk _ _ _ _ g2⟩
      · exact ⟨[v], Or.inr ⟨g1, rfl⟩, hk _ _ _ _ g2⟩
    obtain ⟨v', hv', hn⟩ := hn
    refine SM_call hSK C0 CX hck hK1 hv' hn hR (fun w hw => ?_) (fun ct hdi hs H locs ls n0 u0 hP hS h6 hM hPc g1 g2 => ?_)
    · rw [hst1]
      rcases hw with hw | hw
      · rcases List.mem_cons.mp hw with rfl | hw
        · simp
        · exact List.mem_append_left _ (List.mem_reverse.mp hw)
      · simp [hw]
    · obtain ⟨hx, hb, hml, hown, hts, hK, hX, hbl, hbg, hs0⟩ := C0 ct
      obtain ⟨c1, c2, c3, c4, c5, c6, c7, c8, c9⟩ := hck
      have hrm := hrm ct
      have hlv : live S (f, j) := live_of (hs _ (by rw [hst1]; simp)) (by rw [o1]; decide) (by rw [o1]; decide)
      have he := wl_at (G := G) hlv
      rw [en_obj o1, o2] at he
      have hg : GoodIn TBL (wsV (cnm own) n (cnm ci) (nm z) (wsz z)) := tblGood _ (fun w hw => by
        unfold wsV wsz at hw
        simp only [List.mem_append, List.mem_cons, List.not_mem_nil, or_false] at hw
        rcases hw with (rfl | rfl | rfl | rfl) | rfl | hw
        · exact w1
        · exact w2
        · exact w3
        · exact c6
        · exact c5
        · exact hw)
      exact va_runV (As := (st.take ac).reverse.map (tv G)) (b := ad G (f, j)) ⟨hx, hb, hml, hown, hts⟩ hM (cwV ac hts hg rfl rfl rfl ⟨c1, c2, c3, c4⟩ ⟨by show d0 + 8 + 1 ≤ R.frames; omega, by show 8 + (mxl z + 11) + (64 * d0 + 600) ≤ R.locals; omega⟩) ⟨PZ_blind, va_recv hK hP (cl_at _ c9) he, hPc⟩ rfl (by rw [List.length_map, List.length_reverse]; exact hst2) h6.1 (by rw [take_rev, hst1]; simp [tv, hst2]) (lv_room (csum8 hcs)) hd ⟨g1, g2⟩
  · next z1 z2 z3 z4 e1 =>
    have w1 : (Cond.methodLink (cnm own) n ⟨"java/lang/String", "length", "()I"⟩) ∈ TBL := (hw _ e1).2
    obtain ⟨f, j, r, hst, h9⟩ := pR_spec h
    subst hst
    obtain ⟨hq, h8⟩ := bif_spec h9
    obtain ⟨hf, hcs⟩ := ko hq
    have hf := Nat.eq_of_beq_eq_true hf
    subst hf
    have hj : (∀ v ∈ (.inr (.inr (some (1, j))) :: r : List V), vok S v) → j < 12 := by
      intro hs
      rcases (oks hs).1 with q | q | q
      · cases q
      · exact q.2
      · exact absurd rfl (ord_kind q).2
    refine SM_heapR (hk _ _ _ _ h8) hR ⟨rfl, rfl⟩ (fun hdi hl hs => ⟨hdi, hl, okc (v := vi (strL j)) (strL_r j) (oks hs).2⟩) (fun ct hdi hl hs H locs ls a b g1 g2 hP hS h6 kk => ?_)
    exact (hstr ct n pc j a b H locs ls _ (hj hs) hS h6.1 g1 g2 (csum8 hcs) hd).1 w1 (kk H locs ls hP hS h6)
  · next z1 z2 z3 z4 e1 =>
    have w1 : (Cond.methodLink (cnm own) n ⟨"java/lang/String", "charAt", "(I)C"⟩) ∈ TBL := (hw _ e1).2
    obtain ⟨i, r, hst, h9⟩ := p1_spec h
    subst hst
    obtain ⟨f, j, r, hst, h8⟩ := pR_spec h9
    subst hst
    obtain ⟨hq, h7⟩ := bif_spec h8
    obtain ⟨hf, hcs⟩ := ko hq
    obtain ⟨hin, h6⟩ := if_spec h7
    have hf := Nat.eq_of_beq_eq_true hf
    subst hf
    have hj : (∀ v ∈ (.inl i :: .inr (.inr (some (1, j))) :: r : List V), vok S v) → j < 12 := by
      intro hs
      rcases (oks (oks hs).2).1 with q | q | q
      · cases q
      · exact q.2
      · exact absurd rfl (ord_kind q).2
    refine SM_heapR (hk _ _ _ _ h6) hR ⟨rfl, rfl⟩ (fun hdi hl hs => ⟨hdi, hl, okc (v := vi (strC j i.toNat)) (strC_r j _) (oks (oks hs).2).2⟩) (fun ct hdi hl hs H locs ls a b g1 g2 hP hS h6 kk => ?_)
    exact (hstr ct n pc j a b H locs ls _ (hj hs) hS h6.1 g1 g2 (csum8 hcs) hd).2 w1 i hin (oks hs).1 (kk H locs ls hP hS h6)
  · cases h

theorem s_invokestatic {n : Nat} (C0 : CT → Cx p R s m args c G L xs N0 nL own cc) (CX : CT → EX2 G L xs s s.heap) (hR : CT → rv.2.2.2.1 - N0 ≤ R.cells ∧ rv.2.2.2.2 - U0 ≤ R.slots) (hrm : CT → d0 + 9 ≤ R.frames ∧ 64 * d0 + 664 ≤ R.locals) (hSK : SK lc G L xs md K d0) (hp : ∀ q, mi.2.1 n = some q → pwd own n q) (hw : ∀ q, mi.2.1 n = some q → cwd own n q ∧ swd own n q)
    (hd : decode cc pc = .ok (.invokestatic n, len)) (ho : okI pc (.invokestatic n) len = true) (h : stp oo K md mi (.invokestatic n) len pc l st S k = some rv) (hk : ∀ (pc : Nat) (l : Lc) (st : List V) (S : SD), k pc l st S = some rv → SM CT p lc e R s m args below meth c Q G L xs md N0 U0 nL rv pc l st S) : SM CT p lc e R s m args below meth c Q G L xs md N0 U0 nL rv pc l st S := by
  cases len_of (n := 3) ho
  simp only [stp] at h
  split at h
  · next z ac ci rk zz e1 =>
    obtain ⟨hck, hwn, w1, w2⟩ := (hw _ e1).1
    obtain ⟨hq, h⟩ := bif_spec h
    obtain ⟨hlen, hcs⟩ := ko hq
    have hlen := Nat.eq_of_beq_eq_true hlen
    obtain ⟨v, S', hK1, hkk⟩ := cal_spec h
    have hn : ∃ v', ((rk = 0 ∧ v' = []) ∨ (rk ≠ 0 ∧ v' = [v])) ∧ SM CT p lc e R s m args below meth c Q G L xs md N0 U0 nL rv (pc + 3) l (v' ++ st.drop ac) S' := by
      rcases hkk with ⟨g1, g2⟩ | ⟨g1, g2⟩
      · exact ⟨[], Or.inl ⟨g1, rfl⟩, hk _ _ _ _ g2⟩
      · exact ⟨[v], Or.inr ⟨g1, rfl⟩, hk _ _ _ _ g2⟩
    obtain ⟨v', hv', hn⟩ := hn
    refine SM_call hSK C0 CX hck hK1 hv' hn hR (fun w hw => ?_) (fun ct hdi hs H locs ls n0 u0 hP hS h6 hM hPc g1 g2 => ?_)
    · rcases hw with hw | hw
      · exact List.mem_of_mem_take (List.mem_reverse.mp hw)
      · exact List.mem_of_mem_drop hw
    · obtain ⟨hx, hb, hml, hown, hts, hK, hX, hbl, hbg, hs0⟩ := C0 ct
      obtain ⟨c1, c2, c3, c4, c5, c6, c7, c8, c9⟩ := hck
      have hrm := hrm ct
      have hg : GoodIn TBL (wsS (cnm own) n (nm z) (wsz z)) := tblGood _ (fun w hw => by
        unfold wsS wsz at hw
        simp only [List.mem_append, List.mem_cons, List.not_mem_nil, or_false] at hw
        rcases hw with (rfl | rfl | rfl) | rfl | hw
        · exact w1
        · exact w2
        · rw [← hwn]; exact c6
        · exact c5
        · exact hw)
      exact va_runS (As := (st.take ac).reverse.map (tv G)) ⟨hx, hb, hml, hown, hts⟩ hM (cwS ac hts hg rfl rfl rfl ⟨by rw [c1, hwn], c2, c3, c4⟩ ⟨by show d0 + 8 + 1 ≤ R.frames; omega, by show 8 + (mxl z + 11) + (64 * d0 + 600) ≤ R.locals; omega⟩) ⟨PZ_blind, hPc⟩ rfl (by rw [List.length_map, List.length_reverse]; exact hlen) h6.1 (by rw [take_rev, ← List.map_append, List.take_append_drop]) (lv_room (csum8 hcs)) hd ⟨g1, g2⟩
  · next z ac ci rk zz e1 =>
    obtain ⟨hck, ⟨host, w1⟩, w2⟩ := (hw _ e1).1
    obtain ⟨hq, h⟩ := bif_spec h
    obtain ⟨hlen, hcs⟩ := ko hq
    have hlen := Nat.eq_of_beq_eq_true hlen
    obtain ⟨v, S', hK1, hkk⟩ := cal_spec h
    have hn : ∃ v', ((rk = 0 ∧ v' = []) ∨ (rk ≠ 0 ∧ v' = [v])) ∧ SM CT p lc e R s m args below meth c Q G L xs md N0 U0 nL rv (pc + 3) l (v' ++ st.drop ac) S' := by
      rcases hkk with ⟨g1, g2⟩ | ⟨g1, g2⟩
      · exact ⟨[], Or.inl ⟨g1, rfl⟩, hk _ _ _ _ g2⟩
      · exact ⟨[v], Or.inr ⟨g1, rfl⟩, hk _ _ _ _ g2⟩
    obtain ⟨v', hv', hn⟩ := hn
    refine SM_call hSK C0 CX hck hK1 hv' hn hR (fun w hw => ?_) (fun ct hdi hs H locs ls n0 u0 hP hS h6 hM hPc g1 g2 => ?_)
    · rcases hw with hw | hw
      · exact List.mem_of_mem_take (List.mem_reverse.mp hw)
      · exact List.mem_of_mem_drop hw
    · obtain ⟨hx, hb, hml, hown, hts, hK, hX, hbl, hbg, hs0⟩ := C0 ct
      obtain ⟨c1, c2, c3, c4, c5, c6, c7, c8, c9⟩ := hck
      have hrm := hrm ct
      have hg : GoodIn TBL (wsz z) := tblGood _ (fun w hw => by
        rcases List.mem_cons.mp hw with rfl | hw
        · exact c5
        · exact hw)
      exact va_runSN (As := (st.take ac).reverse.map (tv G)) ⟨hx, hb, hml, hown, hts⟩ hM ⟨va_cnB ac hts hg rfl rfl rfl ((CX ct).2.2.2.2.1 _ w1) (by rw [c1]; exact hts _ c6) ⟨c2, c3, c4⟩ ⟨by show d0 + 8 + 1 ≤ R.frames; omega, by show 8 + (mxl z + 11) + (64 * d0 + 600) ≤ R.locals; omega⟩, hts _ w2, trivial⟩ ⟨PZ_blind, hPc⟩ rfl (by rw [List.length_map, List.length_reverse]; exact hlen) h6.1 (by rw [take_rev, ← List.map_append, List.take_append_drop]) (lv_room (csum8 hcs)) hd ⟨g1, g2⟩
  · next z1 z2 z3 z4 e1 =>
    obtain ⟨w1, w2, w3, w4⟩ := (hp _ e1)
    obtain ⟨x, y, r, hst, h9⟩ := p2_spec h
    subst hst
    obtain ⟨hcs, h8⟩ := bif_spec h9
    have h8 : k (pc + 3) l (vi (max x y) :: r) S = some rv := h8
    refine SM_heapR (hk _ _ _ _ h8) hR ⟨rfl, rfl⟩ (fun hdi hl hs => ⟨hdi, hl, okc (r32_max (oks (oks hs).2).1 (oks hs).1) (oks (oks hs).2).2⟩) (fun ct hdi hl hs H locs ls a b g1 g2 hP hS h6 kk => ?_)
    have hrm := hrm ct
    obtain ⟨hx, hb, hml, hown, hts, hK, hX, hbl, hbg, hs0⟩ := C0 ct
    refine va_mmax hx hb (by rw [hml]; exact h6.1.symm) hown (hts _ w1) (hts _ w2) (hts _ w3) (hts _ w4) (by omega) (by have := csum8 (G := G) hcs; omega) g1 g2 hd ?_
    rw [← a_max (oks (oks hs).2).1 (oks hs).1]
    exact kk H locs ls hP hS h6
  · next z1 z2 z3 z4 e1 =>
    obtain ⟨w1, w2, w3, w4⟩ := (hp _ e1)
    obtain ⟨x, y, r, hst, h9⟩ := p2_spec h
    subst hst
    obtain ⟨hcs, h8⟩ := bif_spec h9
    have h8 : k (pc + 3) l (vi (min x y) :: r) S = some rv := h8
    refine SM_heapR (hk _ _ _ _ h8) hR ⟨rfl, rfl⟩ (fun hdi hl hs => ⟨hdi, hl, okc (r32_min (oks (oks hs).2).1 (oks hs).1) (oks (oks hs).2).2⟩) (fun ct hdi hl hs H locs ls a b g1 g2 hP hS h6 kk => ?_)
    have hrm := hrm ct
    obtain ⟨hx, hb, hml, hown, hts, hK, hX, hbl, hbg, hs0⟩ := C0 ct
    refine va_mmin hx hb (by rw [hml]; exact h6.1.symm) hown (hts _ w1) (hts _ w2) (hts _ w3) (hts _ w4) (by omega) (by have := csum8 (G := G) hcs; omega) g1 g2 hd ?_
    rw [← a_min (oks (oks hs).2).1 (oks hs).1]
    exact kk H locs ls hP hS h6
  · next z1 z2 z3 z4 e1 =>
    obtain ⟨w1, w2, w3, w4⟩ := (hp _ e1)
    obtain ⟨dp, n1, r, hst, h9⟩ := p2_spec h
    subst hst
    obtain ⟨f, j, r, hst, h8⟩ := pR_spec h9
    subst hst
    obtain ⟨sp, r, hst, h7⟩ := p1_spec h8
    subst hst
    obtain ⟨g, i, r, hst, h6⟩ := pR_spec h7
    subst hst
    obtain ⟨hq, h5⟩ := bif_spec h6
    obtain ⟨hq, hcs⟩ := ko hq
    obtain ⟨hq, hfg⟩ := ko hq
    obtain ⟨hf, hg⟩ := ko hq
    have hf := Nat.eq_of_beq_eq_true hf
    have hg := Nat.eq_of_beq_eq_true hg
    obtain ⟨⟨b1, b2, b3⟩, h4⟩ := if_spec h5
    obtain ⟨⟨b4, b5⟩, h3⟩ := if_spec h4
    refine SM_heapR (hk _ _ _ _ h3) hR ⟨rfl, rfl⟩ (fun hdi hl hs => ⟨DI_wC hdi (live_of (oks (oks (oks hs).2).2).1 (by rw [hf]; decide) (by rw [hf]; decide)) hf hg, hl, (oks (oks (oks (oks (oks hs).2).2).2).2).2⟩) (fun ct hdi hl hs H locs ls a b g1 g2 hP hS h6 kk => ?_)
    have hrm := hrm ct
    obtain ⟨hx, hb, hml, hown, hts, hK, hX, hbl, hbg, hs0⟩ := C0 ct
    have r1 := (oks hs).1
    have r2 := (oks (oks hs).2).1
    have r3 := (oks (oks (oks (oks hs).2).2).2).1
    have l1 := live_of (oks (oks (oks hs).2).2).1 (by rw [hf]; decide) (by rw [hf]; decide)
    have l2 := live_of (oks (oks (oks (oks (oks hs).2).2).2).2).1 (by rw [hg]; decide) (by rw [hg]; decide)
    have e1 := wl_at (G := G) l1
    have e2 := wl_at (G := G) l2
    rw [en_int hf (by decide) (by decide) (by decide)] at e1
    rw [en_int hg (by decide) (by decide) (by decide)] at e2
    have nn : ∀ z : Int, r32 z → 0 ≤ z → ¬ Int32.ofInt z < 0 := fun z hz h0 q => by
      have := (a_lt (y := 0) hz (by unfold r32; omega)).mp q
      omega
    refine va_copyi hx hb (by rw [hml]; exact h6.1.symm) hown (hts _ w1) (hts _ w2) (hts _ w3) (hts _ w4) hK hP (wl_D G S) hS _ _ 0 0 e2 e1 rfl rfl rfl (nn _ r3 b2) (nn _ r2 b4) (nn _ r1 b1) ?_ ?_ (fun _ _ => rfl) (by omega) ?_ hd (fun H1 locs1 q1 _ q3 => kk H1 locs1 ls ?_ q3 h6)
    · rw [a_nat b2 r3, a_nat b1 r1]; omega
    · rw [a_nat b4 r2, a_nat b1 r1]; omega
    · have hnw : nativeFrameWords "java/lang/System" "arraycopy" 5 ≤ 100 := by decide +kernel
      have := csum8 (G := G) hcs
      omega
    · rw [a_nat b2 r3, a_nat b1 r1, a_nat b4 r2] at q1
      rw [← wl_set (S' := wC S f j dp.toNat n1.toNat g i sp.toNat) (g := (f, j)) l1 rfl (fun h hh => wC_ne hh), en_int hf (by decide) (by decide) (by decide)]
      refine Eq.mp (congrArg (fun z => va_P G.2.2.2.1 vwCl ((wl G S).set (numF f j) (ad G (f, j), .inl (G.2.2.2.2 3, (fn f).toNat, .inl z))) H1) ?_) q1
      funext q
      show (if dp.toNat ≤ q ∧ q < dp.toNat + n1.toNat then _ else _) = Int32.ofInt (if f = f ∧ j = j ∧ dp.toNat ≤ q ∧ q < dp.toNat + n1.toNat then _ else _)
      simp only [true_and]
      split <;> rfl
  · cases h

theorem s_invokespecial {n : Nat} (C0 : CT → Cx p R s m args c G L xs N0 nL own cc) (CX : CT → EX2 G L xs s s.heap) (hR : CT → rv.2.2.2.1 - N0 ≤ R.cells ∧ rv.2.2.2.2 - U0 ≤ R.slots) (hrm : CT → d0 + 9 ≤ R.frames ∧ 64 * d0 + 664 ≤ R.locals) (hSK : SK lc G L xs md K d0) (hp : ∀ q, mi.2.1 n = some q → pwd own n q) (hw : ∀ q, mi.2.1 n = some q → cwd own n q ∧ swd own n q)
    (hd : decode cc pc = .ok (.invokespecial n, len)) (ho : okI pc (.invokespecial n) len = true) (h : stp oo K md mi (.invokespecial n) len pc l st S k = some rv) (hk : ∀ (pc : Nat) (l : Lc) (st : List V) (S : SD), k pc l st S = some rv → SM CT p lc e R s m args below meth c Q G L xs md N0 U0 nL rv pc l st S) : SM CT p lc e R s m args below meth c Q G L xs md N0 U0 nL rv pc l st S := by
  cases len_of (n := 3) ho
  simp only [stp] at h
  split at h
  · next z ac ci rk zz e1 =>
    obtain ⟨hck, w1, w2, w3, w4⟩ := (hw _ e1).1
    obtain ⟨hmd, h⟩ := bif_spec h
    obtain ⟨f, j, r, hst, h⟩ := pR_spec h
    obtain ⟨hst1, hst2⟩ := fins (.inl 0) st ac _ r hst
    obtain ⟨hq, h⟩ := bif_spec h
    obtain ⟨hq, hcs⟩ := ko hq
    obtain ⟨hob, hrk⟩ := ko hq
    have hrk := Nat.eq_of_beq_eq_true hrk
    obtain ⟨v, S', hK1, hkk⟩ := cal_spec h
    have hn : SM CT p lc e R s m args below meth c Q G L xs md N0 U0 nL rv (pc + 3) l ([] ++ r) S' := by
      rcases hkk with ⟨g1, g2⟩ | ⟨g1, g2⟩
      · exact hk _ _ _ _ g2
      · exact absurd rfl g1
    refine SM_call hSK C0 CX hck hK1 (Or.inl ⟨hrk, rfl⟩) hn hR (fun w hw => ?_) (fun ct hdi hs H locs ls n0 u0 hP hS h6 hM hPc g1 g2 => ?_)
    · rw [hst1]
      rcases hw with hw | hw
      · rcases List.mem_cons.mp hw with rfl | hw
        · simp
        · exact List.mem_append_left _ (List.mem_reverse.mp hw)
      · simp [hw]
    · obtain ⟨hx, hb, hml, hown, hts, hK, hX, hbl, hbg, hs0⟩ := C0 ct
      obtain ⟨c1, c2, c3, c4, c5, c6, c7, c8, c9⟩ := hck
      have hrm := hrm ct
      have hg : GoodIn TBL (wsz z) := tblGood _ (fun w hw => by
        rcases List.mem_cons.mp hw with rfl | hw
        · exact c5
        · exact hw)
      exact va_runI (As := (st.take ac).reverse.map (tv G)) (b := ad G (f, j)) ⟨hx, hb, hml, hown, hts⟩ hM (cwI ac hts hg (show wsz z = Cond.code (nm z) (byt z) (mxl z) none :: TBL by unfold wsz; rw [w4]) rfl rfl (by rw [c1]; exact hts _ c6) (hts _ w1) (hts _ w2) w3 ⟨c2, c3, c4⟩ ⟨by show d0 + 8 + 1 ≤ R.frames; omega, by show 8 + (mxl z + 11) + (64 * d0 + 600) ≤ R.locals; omega⟩) ⟨PZ_blind, hPc⟩ rfl (by rw [List.length_map, List.length_reverse]; exact hst2) h6.1 (by rw [take_rev, hst1]; simp [tv, hst2]) (lv_room (csum8 hcs)) hd ⟨g1, g2⟩
  · next z ac ci rk zz e1 =>
    obtain ⟨hck, ⟨host, w1⟩, w2, w3, w4⟩ := (hw _ e1).1
    obtain ⟨hmd, h⟩ := bif_spec h
    obtain ⟨f, j, r, hst, h⟩ := pR_spec h
    obtain ⟨hst1, hst2⟩ := fins (.inl 0) st ac _ r hst
    obtain ⟨hq, h⟩ := bif_spec h
    obtain ⟨hq, hcs⟩ := ko hq
    obtain ⟨hob, hrk⟩ := ko hq
    have hrk := Nat.eq_of_beq_eq_true hrk
    obtain ⟨v, S', hK1, hkk⟩ := cal_spec h
    have hn : SM CT p lc e R s m args below meth c Q G L xs md N0 U0 nL rv (pc + 3) l ([] ++ r) S' := by
      rcases hkk with ⟨g1, g2⟩ | ⟨g1, g2⟩
      · exact hk _ _ _ _ g2
      · exact absurd rfl g1
    refine SM_call hSK C0 CX hck hK1 (Or.inl ⟨hrk, rfl⟩) hn hR (fun w hw => ?_) (fun ct hdi hs H locs ls n0 u0 hP hS h6 hM hPc g1 g2 => ?_)
    · rw [hst1]
      rcases hw with hw | hw
      · rcases List.mem_cons.mp hw with rfl | hw
        · simp
        · exact List.mem_append_left _ (List.mem_reverse.mp hw)
      · simp [hw]
    · obtain ⟨hx, hb, hml, hown, hts, hK, hX, hbl, hbg, hs0⟩ := C0 ct
      obtain ⟨c1, c2, c3, c4, c5, c6, c7, c8, c9⟩ := hck
      have hrm := hrm ct
      have hg : GoodIn TBL (wsz z) := tblGood _ (fun w hw => by
        rcases List.mem_cons.mp hw with rfl | hw
        · exact c5
        · exact hw)
      exact va_runIN (As := (st.take ac).reverse.map (tv G)) (b := ad G (f, j)) ⟨hx, hb, hml, hown, hts⟩ hM ⟨va_cnB ac hts hg (show wsz z = Cond.code (nm z) (byt z) (mxl z) none :: TBL by unfold wsz; rw [w4]) rfl rfl ((CX ct).2.2.2.2.1 _ w1) (by rw [c1]; exact hts _ c6) ⟨c2, c3, c4⟩ ⟨by show d0 + 8 + 1 ≤ R.frames; omega, by show 8 + (mxl z + 11) + (64 * d0 + 600) ≤ R.locals; omega⟩, w3, hts _ w2⟩ ⟨PZ_blind, hPc⟩ rfl (by rw [List.length_map, List.length_reverse]; exact hst2) h6.1 (by rw [take_rev, hst1]; simp [tv, hst2]) (lv_room (csum8 hcs)) hd ⟨g1, g2⟩
  · next z1 z2 z3 z4 e1 =>
    obtain ⟨w1, w2, w3⟩ := (hp _ e1)
    obtain ⟨f, j, r, hst, h9⟩ := pR_spec h
    subst hst
    obtain ⟨hcs, h8⟩ := bif_spec h9
    refine SM_heapR (hk _ _ _ _ h8) hR ⟨rfl, rfl⟩ (fun hdi hl hs => ⟨hdi, hl, (oks hs).2⟩) (fun ct hdi hl hs H locs ls a b g1 g2 hP hS h6 kk => ?_)
    have hrm := hrm ct
    obtain ⟨hx, hb, hml, hown, hts, hK, hX, hbl, hbg, hs0⟩ := C0 ct
    refine W.objInit hx hb hown (hts _ w1) (hts _ w2) (hts _ w3) rfl (by rw [hml]; exact h6.1) rfl hd (by omega) (by show 2 * 0 + _ + 12 ≤ _; have := csum8 (G := G) hcs; omega) ?_
    exact kk H locs ls hP hS h6
  · cases h

end
