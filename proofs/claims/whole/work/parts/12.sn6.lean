def strO (j : Nat) : String × Nat × String := ([("ThingPost$RuleReader", 38, "when"), ("ThingPost$RuleReader", 114, "not"), ("ThingPost$RuleReader", 119, "t"), ("ThingPost$RuleReader", 121, "max"), ("ThingPost$RuleReader", 123, "min"), ("ThingPost$RuleReader", 125, "age"), ("ThingPost$RuleReader", 110, "and"), ("ThingPost$RuleReader", 112, "or"), ("ThingPost$RuleReader", 184, "for"), ("ThingPost$RuleReader", 195, "unless"), ("ThingPost$RuleReader", 197, "wish"), ("ThingPost$RuleReader", 199, "order")] : List (String × Nat × String)).getD j ("", 0, "")
def sLen : List Nat := (List.range 12).map fun j => (strT j).length
def sByt : List (List Int32) := (List.range 12).map fun j => (strT j).map Int32.ofInt
/-- what is known of the Strings, and of the statics that their methods read -/
def SX (G : GE) (U : State) (H : Heap) : Prop :=
  (∃ adV : Nat → Nat, vk_S 12 sLen sByt G.2.2.1 adV (fun q => G.1 ≤ q) U H) ∧ (∀ j, j < 12 → vk_R (strO j).1 (strO j).2.1 (strO j).2.2 (G.2.2.1 j) U) ∧ va_Z "java/lang/String" "COMPACT_STRINGS" "Z" (.int 1) (fun q => G.1 ≤ q) U H ∧ (∃ t : Value, t.category = 1 ∧ va_Z "jdk/internal/util/Preconditions" "SIOOBE_FORMATTER" "Ljava/util/function/BiFunction;" t (fun q => G.1 ≤ q) U H)
def EX2 (G : GE) (L : Nat) (xs : Nat → Int32) (U : State) (H : Heap) : Prop :=
  va_K G.2.2.2.1 vwCl (tyl G) U ∧ va_X G.2.1 L xs U H ∧ G.2.1 < H.size ∧ G.2.1 < G.1 ∧ (∀ w ∈ NST, va_Nw w U) ∧ va_AO RX4 U ∧ SX G U H
def PW (G : GE) (L : Nat) (xs : Nat → Int32) (S : SD) (U : State) : Prop := va_P G.2.2.2.1 vwCl (wl G S) U.heap ∧ U.heap.size = G.1 + S.2.2.1 ∧ EX2 G L xs U U.heap
def retv (G : GE) (z : Nat) (v : V) : Option Value := if rty z = none then none else some (tv G v)
def PZ (G : GE) (L : Nat) (xs : Nat → Int32) (a : List V) (S : SD) : Array Value → State → Prop := fun av U => av = (a.map (tv G)).toArray ∧ PW G L xs S U
def QZ (G : GE) (L : Nat) (xs : Nat → Int32) (z : Nat) (v : V) (S' : SD) : Array Value → State → Outcome → State → Prop := fun _ st o t => o = .returned (retv G z v) ∧ PW G L xs S' t ∧ va_F (fun q => G.1 ≤ q) st t
def rmz (d : Nat) (S S' : SD) : Room := { frames := d + 8, cells := S'.2.2.1 - S.2.2.1, slots := S'.2.2.2 - S.2.2.2, locals := 64 * d + 600 }
def mxl (z : Nat) : Nat := match mth z with
  | some mi => mi.2.2.2.2.2.2
  | none => 0
def wsz (z : Nat) : List Jvm.Cond := Cond.code (nm z) (byt z) (mxl z) (rty z) :: TBL
def SK (lc : Launch) (G : GE) (L : Nat) (xs : Nat → Int32) (md : Bool) (K : KT) (d : Nat) : Prop := ∀ (z : Nat) (a : List V) (S : SD) (v : V) (S' : SD), K z a S = some (v, S') →
  (S.2.2.1 ≤ S'.2.2.1 ∧ S.2.2.2 ≤ S'.2.2.2) ∧ (DI md L xs S → (∀ w ∈ a, vok S w) → DI md L xs S' ∧ vok S' v ∧ Met lc (nm z) (wsz z) (rmz d S S') (PZ G L xs a S) (QZ G L xs z v S') (S'.2.2.1 - S.2.2.1) (S'.2.2.2 - S.2.2.2) (fun q => G.1 ≤ q))
/-- what a call's entry needs of the callee -/
def cok (z ac ci rk : Nat) : Prop := (nm z).cls = cnm ci ∧ (nm z).cls ≠ "java/lang/invoke/MethodHandle" ∧ (nm z).cls ≠ "java/lang/invoke/VarHandle" ∧ (parseMethodDescriptor (nm z).desc).map (fun d => d.parameters.length) = some ac ∧ (Cond.code (nm z) (byt z) (mxl z) (rty z)) ∈ TBL ∧ (Cond.initialized (cnm ci)) ∈ TBL ∧ (rk = 0 ↔ rty z = none) ∧ mxl z ≤ 40 ∧ ci < 13
def cwd (c idx : Nat) : PE → Prop
  | (1, z, ac, ci, rk, _) => cok z ac ci rk ∧ (Cond.methodLink (cnm c) idx (nm z)) ∈ TBL ∧ (Cond.instanceMethod (nm z)) ∈ TBL ∧ (Cond.selects (cnm ci) (nm z) (nm z)) ∈ TBL
  | (7, z, ac, ci, rk, _) => cok z ac ci rk ∧ cnm ci = cnm c ∧ (Cond.methodLink (cnm c) idx (nm z)) ∈ TBL ∧ (Cond.static (nm z)) ∈ TBL
  | (8, z, ac, ci, rk, _) => cok z ac ci rk ∧ (∃ host, (Cond.methodLinkNest (cnm c) idx (nm z) host) ∈ NST) ∧ (Cond.static (nm z)) ∈ TBL
  | (9, z, ac, ci, rk, _) => cok z ac ci rk ∧ (Cond.methodLink (cnm c) idx (nm z)) ∈ TBL ∧ (Cond.instanceMethod (nm z)) ∈ TBL ∧ (nm z).name = "<init>" ∧ rty z = none
  | (10, z, ac, ci, rk, _) => cok z ac ci rk ∧ (∃ host, (Cond.methodLinkNest (cnm c) idx (nm z) host) ∈ NST) ∧ (Cond.instanceMethod (nm z)) ∈ TBL ∧ (nm z).name = "<init>" ∧ rty z = none
  | _ => True
section
variable {CT : Prop} {p : Program} {lc : Launch} {e : Env} {R : Room} {s : State} {m : MethodId} {args : Array Value} {below : List Frame} {meth : Method} {c : Code} {Q : State → Prop} {G : GE} {L : Nat} {xs : Nat → Int32} {md : Bool} {N0 U0 nL d0 : Nat} {rv : RR} {cc : ByteArray} {pc pc' len own : Nat} {l l' : Lc} {st st' : List V} {S S' : SD} {K : KT} {mi : MI} {k : Nat → Lc → List V → SD → Option RR}

theorem SX_move {U u : State} {H H1 : Heap} (h : SX G u H) (hW : u.WarmedH U.vm) (hq : ∀ a : Nat, a < H.size → ¬ G.1 ≤ a → H1[a]? = H[a]?) : SX G U H1 := by
  obtain ⟨⟨adV, h1⟩, h2, h3, t, ht, h4⟩ := h
  exact ⟨⟨adV, (h1.moved hW.alike).kept hq⟩, fun j hj => (h2 j hj).warm hW, (h3.moved hW.alike).kept hq, t, ht, (h4.moved hW.alike).kept hq⟩
theorem nst_form : ∀ w ∈ NST, w.onTables = true ∧ ∃ a i x hh, w = Cond.methodLinkNest a i x hh := by
  intro w hw
  simp only [NST, List.mem_cons, List.not_mem_nil, or_false] at hw
  rcases hw with rfl | rfl | rfl | rfl | rfl | rfl | rfl | rfl | rfl | rfl | rfl | rfl <;> exact ⟨rfl, _, _, _, _, rfl⟩
theorem EX2_move {U u : State} {H H1 : Heap} (h : EX2 G L xs u H) (hW : u.WarmedH U.vm) (hz : H.size ≤ H1.size) (hq : ∀ a : Nat, a < H.size → ¬ G.1 ≤ a → H1[a]? = H[a]?) : EX2 G L xs U H1 := by
  obtain ⟨h1, h2, h3, h4, h5, h6, h7⟩ := h
  refine ⟨h1.moved hW.alike, (h2.moved hW.alike).kept (hq _ h3 (by omega)), Nat.lt_of_lt_of_le h3 hz, h4, fun w hw => ?_, h6.moved hW.alike, SX_move h7 hW hq⟩
  obtain ⟨-, a, i, x, hh, rfl⟩ := nst_form w hw
  exact va_Nw.warmM hW (h5 _ hw)
theorem PW_same {U U' : State} (h : PW G L xs S U) (hh : U'.heap = U.heap) (hv : U'.vm = U.vm) : PW G L xs S U' := by
  obtain ⟨h1, h2, h3⟩ := h
  refine ⟨by rw [hh]; exact h1, by rw [hh]; exact h2, ?_⟩
  obtain ⟨g1, g2, g3, g4, g5, g6, ⟨adV, k1⟩, k2, k3, t, kt, k4⟩ := h3
  have ha : U.vm.Alike U'.vm := by rw [hv]; exact Vm.Alike.refl _
  rw [hh]
  exact ⟨g1.moved ha, g2.moved ha, g3, g4, fun w hw => va_Nw.same (nst_form w hw).1 hv.symm (g5 w hw), g6.moved ha, ⟨adV, k1.moved ha⟩, fun j hj => (k2 j hj).same hv, k3.moved ha, t, kt, k4.moved ha⟩
theorem PZ_blind {a : List V} : FrameBlind (PZ G L xs a S) := fun av U g mk h => ⟨h.1, PW_same h.2 rfl rfl⟩
theorem SM_heapR (hn : SM CT p lc e R s m args below meth c Q G L xs md N0 U0 nL rv pc' l' st' S') (hR : CT → rv.2.2.2.1 - N0 ≤ R.cells ∧ rv.2.2.2.2 - U0 ≤ R.slots) (hmo : S'.2.2.1 = S.2.2.1 ∧ S'.2.2.2 = S.2.2.2) (ok : DI md L xs S → (∀ q ∈ l, vok S q.2) → (∀ v ∈ st, vok S v) → DI md L xs S' ∧ (∀ q ∈ l', vok S' q.2) ∧ (∀ v ∈ st', vok S' v))
    (row : CT → DI md L xs S → (∀ q ∈ l, vok S q.2) → (∀ v ∈ st, vok S v) → ∀ (H : Heap) (locs : List Loc) (ls : Array Slot) (a n : Nat), a ≤ R.cells → n ≤ R.slots → va_P G.2.2.2.1 vwCl (wl G S) H → va_S (fun q => G.1 ≤ q) s.heap H locs → lv_has ls nL (l.map (tp G)) → (∀ (H1 : Heap) (locs1 : List Loc) (ls' : Array Slot), va_P G.2.2.2.1 vwCl (wl G S') H1 → va_S (fun q => G.1 ≤ q) s.heap H1 locs1 → lv_has ls' nL (l'.map (tp G)) → W p lc e R s m args below meth c H1 locs1 a n Q (F0 m pc' ls' (st'.map (tv G)))) → W p lc e R s m args below meth c H locs a n Q (F0 m pc ls (st.map (tv G)))) : SM CT p lc e R s m args below meth c Q G L xs md N0 U0 nL rv pc l st S := by
  have m1 := hn.1
  rw [hmo.1, hmo.2] at m1
  refine ⟨m1, fun hd hl hs => ?_⟩
  obtain ⟨o0, o1, o2⟩ := ok hd hl hs
  have h2 := hn.2 o0 o1 o2
  refine ⟨h2.1, fun ct a b H locs ls h3 h5 h6 => row ct hd hl hs H locs ls _ _ (by have := hR ct; omega) (by have := hR ct; omega) h3 h5 h6 (fun H1 locs1 ls' g1 g2 g3 => ?_)⟩
  have := h2.2 ct (by rw [hmo.1]; exact a) (by rw [hmo.2]; exact b) H1 locs1 ls' g1 g2 g3
  rw [hmo.1, hmo.2] at this
  exact this
/-- how a method ends -/
def RT (p : Program) (lc : Launch) (e : Env) (R : Room) (s : State) (m : MethodId) (args : Array Value) (below : List Frame) (meth : Method) (c : Code) (Q : State → Prop) (G : GE) (L : Nat) (xs : Nat → Int32) (md : Bool) (N0 U0 : Nat) (rv : RR) (cc : ByteArray) (rk : Nat) : Prop :=
  ∀ (H : Heap) (locs : List Loc) (ls : Array Slot) (pc : Nat), DI md L xs rv.2 → vok rv.2 rv.1 → va_P G.2.2.2.1 vwCl (wl G rv.2) H → va_S (fun q => G.1 ≤ q) s.heap H locs →
    (∀ x, rv.1 = .inl x → (rk = 0 ∨ (rk = 1 ∧ (x = 0 ∨ x = 1))) → decode cc pc = .ok (.ireturn, 1) → W p lc e R s m args below meth c H locs (rv.2.2.2.1 - N0) (rv.2.2.2.2 - U0) Q (F0 m pc ls [tv G rv.1])) ∧
    (∀ x, rv.1 = .inr (.inl x) → rk = 2 → decode cc pc = .ok (.lreturn, 1) → W p lc e R s m args below meth c H locs (rv.2.2.2.1 - N0) (rv.2.2.2.2 - U0) Q (F0 m pc ls [tv G rv.1])) ∧
    (∀ q, rv.1 = .inr (.inr q) → rk = 3 → decode cc pc = .ok (.areturn, 1) → W p lc e R s m args below meth c H locs (rv.2.2.2.1 - N0) (rv.2.2.2.2 - U0) Q (F0 m pc ls [tv G rv.1])) ∧
    (rk = 4 → decode cc pc = .ok (.return_, 1) → W p lc e R s m args below meth c H locs (rv.2.2.2.1 - N0) (rv.2.2.2.2 - U0) Q (F0 m pc ls []))
theorem s_ireturn (hrt : CT → RT p lc e R s m args below meth c Q G L xs md N0 U0 rv cc mi.2.2.2.1) (hd : decode cc pc = .ok (.ireturn, len)) (ho : okI pc (.ireturn) len = true) (h : stp oo K md mi (.ireturn) len pc l st S k = some rv) : SM CT p lc e R s m args below meth c Q G L xs md N0 U0 nL rv pc l st S := by
  cases len_of (n := 1) ho
  obtain ⟨x, r, hst, h9⟩ := p1_spec h
  subst hst
  split at h9
  · have key : ∀ (hk : mi.2.2.2.1 = 0 ∨ (mi.2.2.2.1 = 1 ∧ (x = 0 ∨ x = 1))), (some (vi x, S) : Option RR) = some rv → SM CT p lc e R s m args below meth c Q G L xs md N0 U0 nL rv pc l [.inl x] S := by
      intro hk hq
      cases hq
      exact ⟨⟨Nat.le_refl _, Nat.le_refl _⟩, fun hdi hl hs => ⟨⟨hdi, (oks hs).1⟩, fun ct a b H locs ls h3 h5 h6 => (hrt ct H locs ls pc hdi (oks hs).1 h3 h5).1 x rfl hk hd⟩⟩
    by_cases h1 : mi.2.2.2.1 = 1
    · rw [show Nat.beq mi.2.2.2.1 1 = true by rw [h1]; rfl, cond_true] at h9
      obtain ⟨hx, h9⟩ := if_spec h9
      exact key (Or.inr ⟨h1, hx⟩) h9
    · rw [show Nat.beq mi.2.2.2.1 1 = false by rw [nbq]; simpa using h1, cond_false] at h9
      obtain ⟨h0, h9⟩ := bif_spec h9
      exact key (Or.inl (Nat.eq_of_beq_eq_true h0)) h9
  · cases h9
theorem s_lreturn (hrt : CT → RT p lc e R s m args below meth c Q G L xs md N0 U0 rv cc mi.2.2.2.1) (hd : decode cc pc = .ok (.lreturn, len)) (ho : okI pc (.lreturn) len = true) (h : stp oo K md mi (.lreturn) len pc l st S k = some rv) : SM CT p lc e R s m args below meth c Q G L xs md N0 U0 nL rv pc l st S := by
  cases len_of (n := 1) ho
  obtain ⟨x, r, hst, h9⟩ := q1_spec h
  subst hst
  split at h9
  · obtain ⟨h0, h9⟩ := bif_spec h9
    cases h9
    exact ⟨⟨Nat.le_refl _, Nat.le_refl _⟩, fun hdi hl hs => ⟨⟨hdi, (oks hs).1⟩, fun ct a b H locs ls h3 h5 h6 => (hrt ct H locs ls pc hdi (oks hs).1 h3 h5).2.1 x rfl (Nat.eq_of_beq_eq_true h0) hd⟩⟩
  · cases h9
theorem s_areturn (hrt : CT → RT p lc e R s m args below meth c Q G L xs md N0 U0 rv cc mi.2.2.2.1) (hd : decode cc pc = .ok (.areturn, len)) (ho : okI pc (.areturn) len = true) (h : stp oo K md mi (.areturn) len pc l st S k = some rv) : SM CT p lc e R s m args below meth c Q G L xs md N0 U0 nL rv pc l st S := by
  cases len_of (n := 1) ho
  simp only [stp] at h
  split at h
  · obtain ⟨h0, h9⟩ := bif_spec h
    cases h9
    exact ⟨⟨Nat.le_refl _, Nat.le_refl _⟩, fun hdi hl hs => ⟨⟨hdi, (oks hs).1⟩, fun ct a b H locs ls h3 h5 h6 => (hrt ct H locs ls pc hdi (oks hs).1 h3 h5).2.2.1 _ rfl (Nat.eq_of_beq_eq_true h0) hd⟩⟩
  · cases h
theorem s_return_ (hrt : CT → RT p lc e R s m args below meth c Q G L xs md N0 U0 rv cc mi.2.2.2.1) (hd : decode cc pc = .ok (.return_, len)) (ho : okI pc (.return_) len = true) (h : stp oo K md mi (.return_) len pc l st S k = some rv) : SM CT p lc e R s m args below meth c Q G L xs md N0 U0 nL rv pc l st S := by
  cases len_of (n := 1) ho
  simp only [stp] at h
  split at h
  · obtain ⟨h0, h9⟩ := bif_spec h
    cases h9
    have hv : vok S (vi 0) := by unfold vok r32; omega
    exact ⟨⟨Nat.le_refl _, Nat.le_refl _⟩, fun hdi hl hs => ⟨⟨hdi, hv⟩, fun ct a b H locs ls h3 h5 h6 => (hrt ct H locs ls pc hdi hv h3 h5).2.2.2 (Nat.eq_of_beq_eq_true h0) hd⟩⟩
  · cases h
theorem vok_mono {v : V} (hN : S.2.2.1 ≤ S'.2.2.1) (h : vok S v) : vok S' v := by
  unfold vok at *
  split at h
  · exact h
  · exact h
  · trivial
  · rcases h with h | h | h
    · exact Or.inl h
    · exact Or.inr (Or.inl h)
    · exact Or.inr (Or.inr ⟨h.1, Nat.lt_of_lt_of_le h.2.1 hN, h.2.2⟩)
theorem cal_spec {o : Option RR} {rk : Nat} {kk : List V → SD → Option RR} (h : cal o rk kk = some rv) : ∃ v S', o = some (v, S') ∧ ((rk = 0 ∧ kk [] S' = some rv) ∨ (rk ≠ 0 ∧ kk [v] S' = some rv)) := by
  unfold cal at h
  by_cases h0 : rk = 0
  · rw [show Nat.beq rk 0 = true by rw [h0]; rfl, cond_true] at h
    unfold bV at h
    split at h
    · exact ⟨_, _, rfl, Or.inl ⟨h0, h⟩⟩
    · cases h
  · rw [show Nat.beq rk 0 = false by rw [nbq]; simpa using h0, cond_false] at h
    by_cases h1 : rk = 1
    · rw [show Nat.beq rk 1 = true by rw [h1]; rfl, cond_true] at h
      unfold bI at h
      split at h
      · exact ⟨_, _, rfl, Or.inr ⟨h0, h⟩⟩
      · cases h
    · rw [show Nat.beq rk 1 = false by rw [nbq]; simpa using h1, cond_false] at h
      by_cases h2 : rk = 2
      · rw [show Nat.beq rk 2 = true by rw [h2]; rfl, cond_true] at h
        unfold bL at h
        split at h
        · exact ⟨_, _, rfl, Or.inr ⟨h0, h⟩⟩
        · cases h
      · rw [show Nat.beq rk 2 = false by rw [nbq]; simpa using h2, cond_false] at h
        unfold bR at h
        split at h
        · exact ⟨_, _, rfl, Or.inr ⟨h0, h⟩⟩
        · obtain ⟨hf, h⟩ := if_spec h
          subst hf
          exact ⟨_, _, rfl, Or.inr ⟨h0, h⟩⟩
        · cases h
theorem tblGood (ws : List Jvm.Cond) (h : ∀ w ∈ ws, w ∈ TBL) : GoodIn TBL ws := fun w hw => ⟨h w hw, good_of_word (List.mem_filter.mp (h w hw)).2⟩
theorem call_out {H : Heap} {locs : List Loc} {ls : Array Slot} {a b mc ms : Nat} {st0 rest : List Value} {Qa : State → Outcome → State → Prop} (hr : va_Run p lc e R s m args below meth c H locs a b mc ms (F0 m pc ls st0) rest Qa (fun q => G.1 ≤ q)) (hS : va_S (fun q => G.1 ≤ q) s.heap H locs)
    (kk : ∀ (v : Option Value) (st₀ t : State) (locs1 : List Loc), st₀.heap = H → Qa st₀ (.returned v) t → (∀ q ∈ locs1, G.1 ≤ q.base) → W p lc e R s m args below meth c t.heap locs1 (a + mc) (b + ms) Q (F0 m (pc + 3) ls (v.toList ++ rest))) : W p lc e R s m args below meth c H locs a b Q (F0 m pc ls st0) := by
  intro T hT X
  obtain ⟨v, st₀, t, T', L1, h0, X', hL, e1, e2, hq, stp1⟩ := hr T hT X
  obtain ⟨t2, a1, b1⟩ := kk v st₀ t (locs ++ L1) h0 hq (fun q hq => by
    rcases List.mem_append.mp hq with h | h
    · exact hS.2.2 q h
    · exact hL q h) T' e1 X'
  exact ⟨t2, stp1 t2 a1, b1⟩
/-- a call, whatever its kind: 'run' is the kit's row for it -/
theorem SM_call {z ac ci rk : Nat} {a r : List V} {v : V} {v' : List V} (hSK : SK lc G L xs md K d0) (C0 : CT → Cx p R s m args c G L xs N0 nL own cc) (CX : CT → EX2 G L xs s s.heap) (hck : cok z ac ci rk) (hK : K z a S = some (v, S')) (hv' : (rk = 0 ∧ v' = []) ∨ (rk ≠ 0 ∧ v' = [v])) (hn : SM CT p lc e R s m args below meth c Q G L xs md N0 U0 nL rv (pc + 3) l (v' ++ r) S')
    (hR : CT → rv.2.2.2.1 - N0 ≤ R.cells ∧ rv.2.2.2.2 - U0 ≤ R.slots) (hst : ∀ w, (w ∈ a ∨ w ∈ r) → w ∈ st)
    (run : CT → DI md L xs S → (∀ v ∈ st, vok S v) → ∀ (H : Heap) (locs : List Loc) (ls : Array Slot) (n0 u0 : Nat), va_P G.2.2.2.1 vwCl (wl G S) H → va_S (fun q => G.1 ≤ q) s.heap H locs → lv_has ls nL (l.map (tp G)) → Met lc (nm z) (wsz z) (rmz d0 S S') (PZ G L xs a S) (QZ G L xs z v S') (S'.2.2.1 - S.2.2.1) (S'.2.2.2 - S.2.2.2) (fun q => G.1 ≤ q) → (∀ U : State, U.heap = H → s.WarmedH U.vm → PZ G L xs a S (a.map (tv G)).toArray U) → n0 + (S'.2.2.1 - S.2.2.1) ≤ R.cells → u0 + (S'.2.2.2 - S.2.2.2) ≤ R.slots →
      va_Run p lc e R s m args below meth c H locs n0 u0 (S'.2.2.1 - S.2.2.1) (S'.2.2.2 - S.2.2.2) (F0 m pc ls (st.map (tv G))) (r.map (tv G)) (QZ G L xs z v S' (a.map (tv G)).toArray) (fun q => G.1 ≤ q)) : SM CT p lc e R s m args below meth c Q G L xs md N0 U0 nL rv pc l st S := by
  obtain ⟨⟨k1, k2⟩, k3⟩ := hSK z a S v S' hK
  have m1 := hn.1
  refine ⟨⟨Nat.le_trans k1 m1.1, Nat.le_trans k2 m1.2⟩, fun hd hl hs => ?_⟩
  obtain ⟨k4, k5, hM⟩ := k3 hd (fun w hw => hs w (hst w (Or.inl hw)))
  have hs' : ∀ w ∈ v' ++ r, vok S' w := by
    intro w hw
    rcases List.mem_append.mp hw with h | h
    · rcases hv' with ⟨-, rfl⟩ | ⟨-, rfl⟩
      · cases h
      · rw [List.mem_singleton.mp h]; exact k5
    · exact vok_mono k1 (hs w (hst w (Or.inr h)))
  have h2 := hn.2 k4 (fun q hq => vok_mono k1 (hl q hq)) hs'
  refine ⟨h2.1, fun ct n1 n2 H locs ls h3 h5 h6 => ?_⟩
  have hR := hR ct
  have hs0 := (C0 ct).2.2.2.2.2.2.2.2.2
  refine W_size hs0 n1 h3 h5 (fun hsz => ?_)
  refine call_out (run ct hd hs H locs ls _ _ h3 h5 h6 hM (fun U hU hW => ⟨rfl, by rw [hU]; exact h3, by rw [hU]; exact hsz, by
    rw [hU]
    exact EX2_move (CX ct) hW h5.1 (fun a ha hna => h5.2.1 a ha hna)⟩) (by omega) (by omega)) h5 (fun v2 st₀ t locs1 g1 g2 g3 => ?_)
  obtain ⟨q1, ⟨q2, q3, q4⟩, q5⟩ := g2
  have h7 := h2.2 ct (Nat.le_trans n1 k1) (Nat.le_trans n2 k2) t.heap locs1 ls q2 ⟨Nat.le_trans h5.1 (by rw [← g1]; exact q5.1), fun q ha hna => by
    have h8 : q < st₀.heap.size := by rw [g1]; exact Nat.lt_of_lt_of_le ha h5.1
    rw [q5.2 q h8 hna, g1]
    exact h5.2.1 q ha hna, g3⟩ h6
  have e1 : S'.2.2.1 - N0 = S.2.2.1 - N0 + (S'.2.2.1 - S.2.2.1) := by omega
  have e2 : S'.2.2.2 - U0 = S.2.2.2 - U0 + (S'.2.2.2 - S.2.2.2) := by omega
  rw [e1, e2] at h7
  have e3 : v2.toList ++ r.map (tv G) = (v' ++ r).map (tv G) := by
    cases q1
    rw [List.map_append]
    congr 1
    unfold retv
    rcases hv' with ⟨h0, rfl⟩ | ⟨h0, rfl⟩
    · rw [if_pos (hck.2.2.2.2.2.2.1.mp h0)]; rfl
    · rw [if_neg (fun q => h0 (hck.2.2.2.2.2.2.1.mpr q))]; rfl
  rw [e3]
  exact h7
end
