section
variable {CT : Prop} {p : Program} {lc : Launch} {e : Env} {R : Room} {s : State} {m : MethodId} {args : Array Value} {below : List Frame} {meth : Method} {c : Code} {Q : State → Prop} {G : GE} {L : Nat} {xs : Nat → Int32} {md : Bool} {N0 U0 nL : Nat} {rv : RR} {cc : ByteArray} {pc pc' len own : Nat} {l l' : Lc} {st st' : List V} {S S' : SD} {K : KT} {mi : MI} {k : Nat → Lc → List V → SD → Option RR}

theorem fk_big {f : Nat} (h : 171 ≤ f) : fk f = 99 := by
  unfold fk
  have hb : ∀ n, n ≤ 171 → Nat.blt f n = false := fun n hn => by rw [← Bool.not_eq_true, Nat.blt_eq]; omega
  simp only [hb, Nat.reduceLeDiff, cond_false]
theorem fn_big {f : Nat} (h : 171 ≤ f) : fn f = 0 := by
  unfold fn
  have hb : ∀ n, n ≤ 171 → Nat.blt f n = false := fun n hn => by rw [← Bool.not_eq_true, Nat.blt_eq]; omega
  simp only [hb, Nat.reduceLeDiff, cond_false]
theorem fk77 (f : Nat) : ¬ fk f = 77 := by
  intro hf
  have key : ∀ f, f < 171 → ¬ fk f = 77 := by decide +kernel
  by_cases h : f < 171
  · exact key f h hf
  · rw [fk_big (by omega)] at hf; cases hf
theorem fam7 : ∀ f, fk f = 7 → f = 42 := by
  intro f hf
  have key : ∀ f, f < 171 → fk f = 7 → f = 42 := by decide +kernel
  by_cases h : f < 171
  · exact key f h hf
  · rw [fk_big (by omega)] at hf; cases hf
theorem fn_ok : ∀ f, (fn f).toNat ≤ 20000 ∧ 0 ≤ fn f := by
  intro f
  have key : ∀ f, f < 171 → (fn f).toNat ≤ 20000 ∧ 0 ≤ fn f := by decide +kernel
  by_cases h : f < 171
  · exact key f h
  · rw [fn_big (by omega)]; decide

theorem W_size {H : Heap} {locs : List Loc} {n : Nat} {g : JFrame} (hs0 : s.heap.size = G.1 + N0) (hN : N0 ≤ S.2.2.1) (hP : va_P G.2.2.2.1 vwCl (wl G S) H) (hS : va_S (fun q => G.1 ≤ q) s.heap H locs) (kk : H.size = G.1 + S.2.2.1 → W p lc e R s m args below meth c H locs (S.2.2.1 - N0) n Q g) : W p lc e R s m args below meth c H locs (S.2.2.1 - N0) n Q g := by
  intro T hT X
  have h1 : T.heap.size ≤ s.heap.size + (S.2.2.1 - N0) := X.heapSize
  have h2 : G.1 + S.2.2.1 ≤ H.size := by
    have h3 := hS.1
    by_cases h : S.2.2.1 = N0
    · omega
    · have h4 := (hP (S.2.2.1 - 1) _ (wl_get (by omega))).lt
      have h5 : G.1 + (S.2.2.1 - 1) < H.size := h4
      omega
  rw [hT] at h1
  exact kk (by omega) T hT X
theorem W_new {H1 : Heap} {locs : List Loc} {n q : Nat} {en0 : va_E} {g : JFrame} (hs0 : s.heap.size = G.1 + N0) (hN : N0 ≤ S.2.2.1) (hP1 : va_P G.2.2.2.1 vwCl (wl G S ++ [(q, en0)]) H1) (hD1 : va_D (fun q => G.1 ≤ q) (wl G S ++ [(q, en0)])) (kk : q = G.1 + S.2.2.1 → W p lc e R s m args below meth c H1 locs (S.2.2.1 - N0 + 1) n Q g) : W p lc e R s m args below meth c H1 locs (S.2.2.1 - N0 + 1) n Q g := by
  intro T hT X
  have h1 : T.heap.size ≤ s.heap.size + (S.2.2.1 - N0 + 1) := X.heapSize
  have e1 : (wl G S ++ [(q, en0)])[S.2.2.1]? = some (q, en0) := by
    rw [List.getElem?_append_right (by rw [wl_len]; exact Nat.le_refl _), wl_len, Nat.sub_self]
    rfl
  have h2 : q < H1.size := (hP1 _ _ e1).lt
  have h3 : G.1 ≤ q := hD1.2 _ _ e1
  have h4 : ∀ n, n < S.2.2.1 → G.1 + n ≠ q := by
    intro n hn hq
    have e2 : (wl G S ++ [(q, en0)])[n]? = some (G.1 + n, en G S (ordN n)) := by
      rw [List.getElem?_append_left (by rw [wl_len]; exact hn), wl_get hn]
    have := hD1.1 n S.2.2.1 _ _ e2 e1 hq
    omega
  rw [hT] at h1
  have h5 : q = G.1 + S.2.2.1 := by
    by_cases h : q = G.1 + S.2.2.1
    · exact h
    · exact absurd (show G.1 + (q - G.1) = q by omega) (h4 (q - G.1) (by omega))
  exact kk h5 T hT X
/-- a step that makes one cell -/
theorem SM_new {u : Nat} (hn : SM CT p lc e R s m args below meth c Q G L xs true N0 U0 nL rv pc' l (vr (some (ordN S.2.2.1)) :: st') (wN S u)) (hN : S.2.2.1 < 321) (hst : ∀ v ∈ st', v ∈ st)
    (hR : CT → rv.2.2.2.1 - N0 ≤ R.cells ∧ rv.2.2.2.2 - U0 ≤ R.slots) (hs0 : CT → s.heap.size = G.1 + N0)
    (row : CT → DI true L xs S → (∀ v ∈ st, vok S v) → (∀ k, S.1 (ordN S.2.2.1).1 (ordN S.2.2.1).2 k = 0 ∧ S.2.1 (ordN S.2.2.1).1 (ordN S.2.2.1).2 k = none) → ∀ (H : Heap) (locs : List Loc) (ls : Array Slot) (a b : Nat), a + 1 ≤ R.cells → b + u ≤ R.slots → va_P G.2.2.2.1 vwCl (wl G S) H → va_S (fun q => G.1 ≤ q) s.heap H locs → (∀ (q : Nat) (H1 : Heap), va_P G.2.2.2.1 vwCl (wl G S ++ [(q, en G S (ordN S.2.2.1))]) H1 → va_D (fun q => G.1 ≤ q) (wl G S ++ [(q, en G S (ordN S.2.2.1))]) → va_S (fun q => G.1 ≤ q) s.heap H1 locs → W p lc e R s m args below meth c H1 locs (a + 1) (b + u) Q (F0 m pc' ls (.ref q :: st'.map (tv G)))) → W p lc e R s m args below meth c H locs a b Q (F0 m pc ls (st.map (tv G)))) : SM CT p lc e R s m args below meth c Q G L xs true N0 U0 nL rv pc l st S := by
  have m1 : S.2.2.1 + 1 ≤ rv.2.2.2.1 := hn.1.1
  have m2 : S.2.2.2 + u ≤ rv.2.2.2.2 := hn.1.2
  refine ⟨⟨by omega, by omega⟩, fun hd hl hs => ?_⟩
  have hnl : ¬ live S (ordN S.2.2.1) := fun h => by
    have := h.2.1
    rw [num_ord] at this
    omega
  have h0 := hd.2.2.1 (ordN S.2.2.1).1 (ordN S.2.2.1).2 (ord_ge2 _) hnl
  have h2 := hn.2 (DI_wN hd hN) (fun q hq => vok_wN (hl q hq)) (okc (Or.inr (Or.inr (live_new S u))) (fun v hv => vok_wN (hs v (hst v hv))))
  refine ⟨h2.1, fun ct a b H locs ls h3 h5 h6 => ?_⟩
  have hR := hR ct
  have hs0 := hs0 ct
  refine row ct hd hs h0 H locs ls _ _ (by omega) (by omega) h3 h5 (fun q H1 g1 g2 g3 => ?_)
  refine W_new hs0 a g1 g2 (fun hq => ?_)
  subst hq
  have h7 := h2.2 ct (Nat.le_succ_of_le a) (Nat.le_trans b (Nat.le_add_right _ _)) H1 locs ls (by rw [← wl_new]; exact g1) g3 h6
  have e1 : (wN S u).2.2.1 - N0 = S.2.2.1 - N0 + 1 := by show S.2.2.1 + 1 - N0 = _; omega
  have e2 : (wN S u).2.2.2 - U0 = S.2.2.2 - U0 + u := by show S.2.2.2 + u - U0 = _; omega
  rw [e1, e2] at h7
  have e3 : tv G (vr (some (ordN S.2.2.1))) = .ref (G.1 + S.2.2.1) := by
    show Value.ref (ad G (ordN S.2.2.1)) = _
    rw [ad_live (S := wN S u) (live_new S u), num_ord]
  rw [List.map_cons, e3] at h7
  exact h7
theorem dv_0 {ci : Nat} (hc : ci < 13) {g : Nat × Nat} (hg : fc g.1 = ci) (h0 : ∀ k, S.1 g.1 g.2 k = 0 ∧ S.2.1 g.1 g.2 k = none) (j : Nat) (hj : j < nf ci) : defaultValue (cty ci j) = vp_V (flds G S g) j := by
  subst hg
  unfold vp_V
  rw [List.getD_eq_getElem?_getD, flds_get hj, Option.getD_some]
  have hq := ftq_ok _ hc j hj
  unfold ftq at hq
  unfold fld
  rw [(h0 j).1, (h0 j).2]
  split at hq
  · next e1 => rw [e1, Nat.eq_of_beq_eq_true hq]; rfl
  · next e1 => rw [e1, Nat.eq_of_beq_eq_true hq]; rfl
  · next e1 => rw [e1, Nat.eq_of_beq_eq_true hq]; rfl
  · next e1 => rw [e1, Nat.eq_of_beq_eq_true hq]; rfl
  · next e1 => rw [e1, Nat.eq_of_beq_eq_true hq]; rfl
  · cases hq
theorem s_new {n : Nat} (C0 : CT → Cx p R s m args c G L xs N0 nL own cc) (hw : ∀ q, mi.2.1 n = some q → pwd own n q) (hR : CT → rv.2.2.2.1 - N0 ≤ R.cells ∧ rv.2.2.2.2 - U0 ≤ R.slots)
    (hd : decode cc pc = .ok (.new n, len)) (ho : okI pc (.new n) len = true) (h : stp oo K md mi (.new n) len pc l st S k = some rv) (hk : ∀ (pc : Nat) (l : Lc) (st : List V) (S : SD), k pc l st S = some rv → SM CT p lc e R s m args below meth c Q G L xs md N0 U0 nL rv pc l st S) : SM CT p lc e R s m args below meth c Q G L xs md N0 U0 nL rv pc l st S := by
  cases len_of (n := 3) ho
  simp only [stp] at h
  split at h
  · next ci z1 z2 z3 z4 e1 =>
    obtain ⟨p1, p2, p3, p4, p5⟩ := hw _ e1
    obtain ⟨hq, h8⟩ := bif_spec h
    obtain ⟨hq, hN⟩ := ko hq
    obtain ⟨hmd, hob⟩ := ko hq
    subst hmd
    obtain ⟨o1, o2⟩ := isObj_spec hob
    refine SM_new (hk _ _ _ _ h8) (by simpa [Nat.blt_eq] using hN) (fun v hv => hv) hR (fun ct => (C0 ct).2.2.2.2.2.2.2.2.2) (fun ct hdi hs h0 H locs ls a b g1 g2 hP hS kk => ?_)
    obtain ⟨hx, hb, hml, hown, hts, hK, hX, hbl, hbg, hs0⟩ := C0 ct
    have eo : en G S (ordN S.2.2.1) = .inr (fc (ordN S.2.2.1).1, flds G S (ordN S.2.2.1)) := en_obj (j := (ordN S.2.2.1).2) o1
    rw [eo] at kk
    subst o2
    exact va_new (C := cnm (fc (ordN S.2.2.1).1)) (T := cT (fc (ordN S.2.2.1).1)) hx hb hts p5 (cty (fc (ordN S.2.2.1).1)) (cty_ok _ p1) hown (hts _ p2) (hts _ p3) (hts _ p4) hK hP (wl_D G S) hS (fun q hq => by show G.1 ≤ q; omega) (cl_at _ p1) (dv_0 p1 rfl h0) g1 g2 hd (fun q H1 f1 f2 f3 => kk q H1 f1 f2 f3)
  · cases h
theorem RA_inj {U : State} {cA cB : ClassId} {t : FieldType} (h1 : va_RA U cA t) (h2 : va_RA U cB t) : cA = cB := by
  cases t with
  | object C =>
    obtain ⟨_, _, _, _, _, a⟩ := h1
    obtain ⟨_, _, _, _, _, b⟩ := h2
    exact Option.some.inj (a.symm.trans b)
  | _ => exact Option.some.inj (Eq.trans (Eq.symm h1) h2)
theorem s_newarray {t : ArrayType} (C0 : CT → Cx p R s m args c G L xs N0 nL own cc) (hac : (Cond.arrayClass .int) ∈ TBL ∧ (Cond.arrayClass .boolean) ∈ TBL ∧ (Cond.arrayClass .byte) ∈ TBL ∧ (Cond.arrayClass .long) ∈ TBL) (hfn : ∀ f, (fn f).toNat ≤ 20000 ∧ 0 ≤ fn f) (hR : CT → rv.2.2.2.1 - N0 ≤ R.cells ∧ rv.2.2.2.2 - U0 ≤ R.slots)
    (hd : decode cc pc = .ok (.newarray t, len)) (ho : okI pc (.newarray t) len = true) (h : stp oo K md mi (.newarray t) len pc l st S k = some rv) (hk : ∀ (pc : Nat) (l : Lc) (st : List V) (S : SD), k pc l st S = some rv → SM CT p lc e R s m args below meth c Q G L xs md N0 U0 nL rv pc l st S) : SM CT p lc e R s m args below meth c Q G L xs md N0 U0 nL rv pc l st S := by
  cases len_of (n := 2) ho
  obtain ⟨n, r, hst, h9⟩ := p1_spec h
  subst hst
  obtain ⟨hq, h8⟩ := bif_spec h9
  obtain ⟨hq, hN⟩ := ko hq
  obtain ⟨hmd, hkd⟩ := ko hq
  subst hmd
  obtain ⟨hnn, h7⟩ := if_spec h8
  have hkd := Nat.eq_of_beq_eq_true hkd
  have hf := hfn (ordN S.2.2.1).1
  have hr : r32 n := by unfold r32; omega
  have hnat : (Int32.ofInt n).toNatClampNeg = (fn (ordN S.2.2.1).1).toNat := by rw [a_nat (by omega) hr, hnn]
  have hneg : ¬ Int32.ofInt n < 0 := fun q => by
    have := (a_lt (y := 0) hr (by unfold r32; omega)).mp q
    omega
  refine SM_new (hk _ _ _ _ h7) (by simpa [Nat.blt_eq] using hN) (fun v hv => List.mem_cons_of_mem _ hv) hR (fun ct => (C0 ct).2.2.2.2.2.2.2.2.2) (fun ct hdi hs h0 H locs ls a b g1 g2 hP hS kk => ?_)
  obtain ⟨hx, hb, hml, hown, hts, hK, hX, hbl, hbg, hs0⟩ := C0 ct
  have hu : n.toNat = (fn (ordN S.2.2.1).1).toNat := by rw [hnn]
  rw [hu] at g2 kk
  have fin : ∀ (ty : FieldType) (a0 : vp_A) (t0 : Nat) (cA0 : ClassId), newarray.typeOf t = ty → (Cond.arrayClass (newarray.typeOf t)) ∈ TBL → (tyl G)[t0]? = some (cA0, ty) → componentBytes ty ≤ 8 → (∀ cA : ClassId, vp_cell cA a0 = arrV cA (fn (ordN S.2.2.1).1).toNat (fun _ => defaultValue ty)) → en G S (ordN S.2.2.1) = .inl (cA0, a0) → W p lc e R s m args below meth c H locs a b Q (F0 m pc ls ((.inl n :: r).map (tv G))) := by
    intro ty a0 t0 cA0 hty hac hti hcb ha0 hen
    refine va_newa (a0 := a0) hx hb (hts _ hac) hty hK hP (wl_D G S) hS (fun q hq => by show G.1 ≤ q; omega) ha0 hneg hnat (Nat.le_trans (Nat.mul_le_mul hf.1 hcb) (by decide)) g1 g2 hd (fun q cA H1 k1 f1 f2 f3 => ?_)
    have e1 : cA = cA0 := by
      have h1 := (k1.2 5 _ (by rfl)).2
      have h2 := (hK.2 t0 _ hti).2
      exact RA_inj h1 h2
    subst e1
    rw [hen] at kk
    exact kk q H1 f1 f2 f3
  have hz : (fun k => Int32.ofInt (S.1 (ordN S.2.2.1).1 (ordN S.2.2.1).2 k)) = fun _ => 0 := by funext k; rw [(h0 k).1]; rfl
  have hzl : (fun k => Int64.ofInt (S.1 (ordN S.2.2.1).1 (ordN S.2.2.1).2 k)) = fun _ => 0 := by funext k; rw [(h0 k).1]; rfl
  cases t with
  | int => exact fin .int ((fn (ordN S.2.2.1).1).toNat, .inl fun _ => 0) 0 _ rfl hac.1 rfl (by decide) (fun cA => rfl) (by rw [← hz]; exact en_int (j := (ordN S.2.2.1).2) hkd (by decide) (by decide) (by decide))
  | boolean => exact fin .boolean ((fn (ordN S.2.2.1).1).toNat, .inl fun _ => 0) 1 _ rfl hac.2.1 rfl (by decide) (fun cA => rfl) (by rw [← hz]; exact en_int (j := (ordN S.2.2.1).2) hkd (by decide) (by decide) (by decide))
  | byte => exact fin .byte ((fn (ordN S.2.2.1).1).toNat, .inl fun _ => 0) 2 _ rfl hac.2.2.1 rfl (by decide) (fun cA => rfl) (by rw [← hz]; exact en_int (j := (ordN S.2.2.1).2) hkd (by decide) (by decide) (by decide))
  | long => exact fin .long ((fn (ordN S.2.2.1).1).toNat, .inr (.inl fun _ => 0)) 3 _ rfl hac.2.2.2 rfl (by decide) (fun cA => rfl) (by rw [← hzl]; exact en_lng (j := (ordN S.2.2.1).2) hkd)
  | char => exact absurd hkd (fk77 _)
  | float => exact absurd hkd (fk77 _)
  | double => exact absurd hkd (fk77 _)
  | short => exact absurd hkd (fk77 _)
theorem s_anewarray {n : Nat} (C0 : CT → Cx p R s m args c G L xs N0 nL own cc) (hw : ∀ q, mi.2.1 n = some q → pwd own n q) (hao : CT → va_AO RX4 s) (hfam : ∀ f, fk f = 7 → f = 42) (hfn : ∀ f, (fn f).toNat ≤ 20000 ∧ 0 ≤ fn f) (hR : CT → rv.2.2.2.1 - N0 ≤ R.cells ∧ rv.2.2.2.2 - U0 ≤ R.slots)
    (hd : decode cc pc = .ok (.anewarray n, len)) (ho : okI pc (.anewarray n) len = true) (h : stp oo K md mi (.anewarray n) len pc l st S k = some rv) (hk : ∀ (pc : Nat) (l : Lc) (st : List V) (S : SD), k pc l st S = some rv → SM CT p lc e R s m args below meth c Q G L xs md N0 U0 nL rv pc l st S) : SM CT p lc e R s m args below meth c Q G L xs md N0 U0 nL rv pc l st S := by
  cases len_of (n := 3) ho
  obtain ⟨z, r, hst, h9⟩ := p1_spec h
  subst hst
  split at h9
  · next ci z1 z2 z3 z4 e1 =>
    obtain ⟨p1, p2, p3, p4, p5⟩ := hw _ e1
    obtain ⟨hq, h8⟩ := bif_spec h9
    obtain ⟨hq, hN⟩ := ko hq
    obtain ⟨hq, hci⟩ := ko hq
    obtain ⟨hmd, hkd⟩ := ko hq
    subst hmd
    obtain ⟨hnn, h7⟩ := if_spec h8
    have hkd := Nat.eq_of_beq_eq_true hkd
    have hci := Nat.eq_of_beq_eq_true hci
    have hf := hfn (ordN S.2.2.1).1
    have hc4 : ci = 4 := by rw [← hci, hfam _ hkd]; decide +kernel
    subst hc4
    have hr : r32 z := by unfold r32; omega
    have hnat : (Int32.ofInt z).toNatClampNeg = (fn (ordN S.2.2.1).1).toNat := by rw [a_nat (by omega) hr, hnn]
    have hneg : ¬ Int32.ofInt z < 0 := fun q => by
      have := (a_lt (y := 0) hr (by unfold r32; omega)).mp q
      omega
    refine SM_new (hk _ _ _ _ h7) (by simpa [Nat.blt_eq] using hN) (fun v hv => List.mem_cons_of_mem _ hv) hR (fun ct => (C0 ct).2.2.2.2.2.2.2.2.2) (fun ct hdi hs h0 H locs ls a b g1 g2 hP hS kk => ?_)
    obtain ⟨hx, hb, hml, hown, hts, hK, hX, hbl, hbg, hs0⟩ := C0 ct
    have hu : z.toNat = (fn (ordN S.2.2.1).1).toNat := by rw [hnn]
    rw [hu] at g2 kk
    refine va_newq hx hb hown (hts _ p2) (hao ct) hK hP (wl_D G S) hS (fun q hq => by show G.1 ≤ q; omega) hneg hnat (Nat.le_trans (Nat.mul_le_mul hf.1 (Nat.le_refl 4)) (by decide)) g1 g2 hd (fun q cA H1 k1 f1 f2 f3 => ?_)
    have e2 : cA = G.2.2.2.2 7 := by
      have h1 := (k1.2 5 _ (by rfl)).2
      have h2 := (hK.2 4 _ (by rfl)).2
      exact RA_inj h1 h2
    subst e2
    have hz : (fun k => (S.2.1 (ordN S.2.2.1).1 (ordN S.2.2.1).2 k).map (ad G)) = fun _ => none := by funext k; rw [(h0 k).2]; rfl
    have hen : en G S (ordN S.2.2.1) = .inl (G.2.2.2.2 7, (fn (ordN S.2.2.1).1).toNat, .inr (.inr (.inr (.inr fun _ => none)))) := by
      rw [← hz]
      exact en_ref (j := (ordN S.2.2.1).2) hkd
    rw [hen] at kk
    exact kk q H1 f1 f2 f3
  · cases h9

end
