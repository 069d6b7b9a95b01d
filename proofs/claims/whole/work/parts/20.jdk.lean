/-! the JDK's own methods on Strings -/
def yJ0_coder : MethodName := ⟨"java/lang/String", "coder", "()B"⟩
def yJ0_isLatin1 : MethodName := ⟨"java/lang/String", "isLatin1", "()Z"⟩
def yJ0_length : MethodName := ⟨"java/lang/String", "length", "()I"⟩
def yJ0_charAt : MethodName := ⟨"java/lang/String", "charAt", "(I)C"⟩
def yJ0_checkIndex : MethodName := ⟨"java/lang/String", "checkIndex", "(II)V"⟩
def yJ1_charAt : MethodName := ⟨"java/lang/StringLatin1", "charAt", "([BI)C"⟩
def yJ3_checkIndex : MethodName := ⟨"jdk/internal/util/Preconditions", "checkIndex", "(IILjava/util/function/BiFunction;)I"⟩
/-- what is known of the array that a Latin1 method is given -/
def PT (G : GE) (o : Option (Nat × Nat)) (U : State) : Prop := ∀ t j, o = some (t, j) → va_T .byte t (sLen.getD j 0) (fun k => .int ((sByt.getD j []).getD k 0)) (fun q => G.1 ≤ q) U U.heap
def PJ (G : GE) (o : Option (Nat × Nat)) (a : List Value) : Array Value → State → Prop := fun av U => av = a.toArray ∧ SX G U U.heap ∧ PT G o U
def QJ (v : Option Value) : Array Value → State → Outcome → State → Prop := fun _ st o t => o = .returned v ∧ t.heap = st.heap
def rmJ (k : Nat) : Room := { frames := k, cells := 0, slots := 0, locals := 30 * k }
theorem SX_same {G : GE} {U U' : State} (h : SX G U U.heap) (hh : U'.heap = U.heap) (hv : U'.vm = U.vm) : SX G U' U'.heap := by
  obtain ⟨⟨adV, k1⟩, k2, k3, t, kt, k4⟩ := h
  have ha : U.vm.Alike U'.vm := by rw [hv]; exact Vm.Alike.refl _
  rw [hh]
  exact ⟨⟨adV, k1.moved ha⟩, fun j hj => (k2 j hj).same hv, k3.moved ha, t, kt, k4.moved ha⟩
theorem PJ_blind {G : GE} {o : Option (Nat × Nat)} {a : List Value} : FrameBlind (PJ G o a) := fun av U g mk h => ⟨h.1, SX_same h.2.1 rfl rfl, fun t j e => (h.2.2 t j e).moved (Vm.Alike.refl _)⟩
theorem PT_0 {G : GE} {U : State} : PT G none U := fun t j e => by cases e
section
variable {p : Program} {lc : Launch} {e : Env} {R : Room} {s : State} {m : MethodId} {args : Array Value} {below : List Frame} {meth : Method} {c : Code} {Q : State → Prop} {G : GE} {nL own k n a b pc : Nat} {cc bytes : ByteArray} {H : Heap} {locs : List Loc} {ls : Array Slot} {rest As : List Value} {y : MethodName} {maxL : Nat} {ret : Option FieldType} {v : Option Value} {ow : String} {o : Option (Nat × Nat)}
theorem call_out0 {st0 : List Value} {aa : Array Value} (hr : va_Run p lc e R s m args below meth c H locs a b 0 0 (F0 m pc ls st0) rest (QJ v aa) (fun _ => False)) (kk : W p lc e R s m args below meth c H locs a b Q (F0 m (pc + 3) ls (v.toList ++ rest))) : W p lc e R s m args below meth c H locs a b Q (F0 m pc ls st0) := by
  intro T hT X
  obtain ⟨v2, st₀, t, T', L1, h0, X', hL, e1, e2, ⟨q1, q2⟩, stp1⟩ := hr T hT X
  cases q1
  have e3 : L1 = [] := by
    cases L1 with
    | nil => rfl
    | cons q r => exact (hL q List.mem_cons_self).elim
  subst e3
  rw [List.append_nil] at X'
  obtain ⟨t2, a1, b1⟩ := kk T' (by rw [e1, q2, h0]) X'
  exact ⟨t2, stp1 t2 a1, b1⟩
theorem J_met (hy : plainName y.cls = true) (hn : (lg_sl As).length ≤ maxL)
    (body : ∀ (p : Program) (e : Env) (s : State) (m : MethodId) (below : List Frame) (meth : Method) (c : Code) (ls : Array Slot), p.tables.exec = Jvm.exec → c.code = bytes → c.maxLocals = maxL → meth.sig.returnType = ret → meth.locks = false → (∀ w ∈ TBL, w.before As.toArray s = true) → s.vm.findClass y.cls = some m.cls → SX G s s.heap → PT G o s → lv_has ls maxL (lv_args 0 As) → (∀ t : State, t.heap = s.heap → s.WarmedH t.vm → QJ v As.toArray s (.returned v) t) →
      W p lc e (rmJ k) s m As.toArray below meth c s.heap [] 0 0 (MQ below (QJ v) As.toArray s 0 0 (fun _ => False)) (F0 m 0 ls [])) : Met lc y (Cond.code y bytes maxL ret :: TBL) (rmJ k) (PJ G o As) (QJ v) 0 0 (fun _ => False) := by
  refine Met.ofW (cc := bytes) (maxL := maxL) (ret := ret) hy rfl ?_
  intro p e s m args below meth c s₁ B hml hP
  obtain ⟨rfl, hX, hT⟩ := hP
  rw [lg_entry_eq]
  have hl := lv_entry As (n := maxL) hn
  exact body p e s m below meth c _ B.exec B.bytes hml B.returns B.notSynchronized (fun w hw => atoms_spec (ws := Cond.code y bytes maxL ret :: TBL) B.pre w (List.mem_cons_of_mem _ hw)) (findClass_of_methodNamed B.named) hX hT hl (fun t ht _ => ⟨rfl, ht⟩)
theorem J_S (hx : p.tables.exec = Jvm.exec) (hb : c.code = cc) (hml : c.maxLocals = ls.size) (hts : ∀ w ∈ TBL, w.before args s = true) (hown : s.vm.findClass ow = some m.cls) (hX : SX G s s.heap) (hT : PT G o s) (hM : Met lc y (Cond.code y bytes maxL ret :: TBL) (rmJ k) (PJ G o As) (QJ v) 0 0 (fun _ => False))
    (w1 : (Cond.methodLink ow n y) ∈ TBL) (w2 : (Cond.static y) ∈ TBL) (w3 : (Cond.initialized y.cls) ∈ TBL) (w4 : (Cond.code y bytes maxL ret) ∈ TBL) (hd0 : y.cls ≠ "java/lang/invoke/MethodHandle" ∧ y.cls ≠ "java/lang/invoke/VarHandle" ∧ (parseMethodDescriptor y.desc).map (fun d => d.parameters.length) = some As.length) (hR : k + 1 ≤ R.frames ∧ 8 + (maxL + 11) + 30 * k ≤ R.locals)
    (hS : va_S (fun q => G.1 ≤ q) s.heap H locs) (hab : a ≤ R.cells ∧ b ≤ R.slots) (hr : (rest.map fun v => v.category).sum ≤ 8) (hd : decode cc pc = .ok (.invokestatic n, 3))
    (kk : W p lc e R s m args below meth c H locs a b Q (F0 m (pc + 3) ls (v.toList ++ rest))) : W p lc e R s m args below meth c H locs a b Q (F0 m pc ls (As.reverse ++ rest)) := by
  have hg : GoodIn TBL (va_wsS ow n y (Cond.code y bytes maxL ret :: TBL)) := tblGood _ (fun w hw => by
    unfold va_wsS at hw
    simp only [List.mem_append, List.mem_cons, List.not_mem_nil, or_false] at hw
    rcases hw with (rfl | rfl | rfl) | rfl | hw
    · exact w1
    · exact w2
    · exact w3
    · exact w4
    · exact hw)
  have hrun := va_runS (meth := meth) (locs := locs) (cells := a) (slots := b) (below := below) (e := e) (H := H) (g := F0 m pc ls (As.reverse ++ rest)) ⟨hx, hb, hml, hown, hts⟩ hM (va_cwS (R := R) As.length hts hg rfl rfl rfl hd0 hR) ⟨PJ_blind, fun U hU hW => ⟨rfl, by rw [hU]; exact SX_move hX hW (fun a ha hna => hS.2.1 a ha hna), fun t j e => by rw [hU]; exact ((hT t j e).moved hW.alike).kept (fun a ha hna => hS.2.1 a ha hna)⟩⟩ rfl rfl rfl rfl (lv_room hr) hd hab
  exact call_out0 hrun kk
theorem J_V (hx : p.tables.exec = Jvm.exec) (hb : c.code = cc) (hml : c.maxLocals = ls.size) (hts : ∀ w ∈ TBL, w.before args s = true) (hown : s.vm.findClass ow = some m.cls) (hX : SX G s s.heap) {j : Nat} (hj : j < 12) (hM : Met lc y (Cond.code y bytes maxL ret :: TBL) (rmJ k) (PJ G none (.ref (ad G (1, j)) :: As)) (QJ v) 0 0 (fun _ => False)) (hy : y.cls = "java/lang/String")
    (w1 : (Cond.methodLink ow n y) ∈ TBL) (w2 : (Cond.instanceMethod y) ∈ TBL) (w5 : (Cond.selects "java/lang/String" y y) ∈ TBL) (w4 : (Cond.code y bytes maxL ret) ∈ TBL) (hd0 : (parseMethodDescriptor y.desc).map (fun d => d.parameters.length) = some As.length) (hR : k + 1 ≤ R.frames ∧ 8 + (maxL + 11) + 30 * k ≤ R.locals)
    (hS : va_S (fun q => G.1 ≤ q) s.heap H locs) (hab : a ≤ R.cells ∧ b ≤ R.slots) (hr : (rest.map fun v => v.category).sum ≤ 8) (hd : decode cc pc = .ok (.invokevirtual n, 3))
    (kk : W p lc e R s m args below meth c H locs a b Q (F0 m (pc + 3) ls (v.toList ++ rest))) : W p lc e R s m args below meth c H locs a b Q (F0 m pc ls (As.reverse ++ .ref (ad G (1, j)) :: rest)) := by
  have w3 : (Cond.initialized "java/lang/String") ∈ TBL := (tc_1 (i := 15) rfl rfl)
  have hg : GoodIn TBL (wsV ow n "java/lang/String" y (Cond.code y bytes maxL ret :: TBL)) := tblGood _ (fun w hw => by
    unfold wsV at hw
    simp only [List.mem_append, List.mem_cons, List.not_mem_nil, or_false] at hw
    rcases hw with (rfl | rfl | rfl | rfl) | rfl | hw
    · exact w1
    · exact w2
    · exact w5
    · exact w3
    · exact w4
    · exact hw)
  obtain ⟨⟨adV, k1⟩, -⟩ := id hX
  have hrun := va_runV (meth := meth) (locs := locs) (cells := a) (slots := b) (below := below) (e := e) (H := H) (g := F0 m pc ls (As.reverse ++ .ref (ad G (1, j)) :: rest)) ⟨hx, hb, hml, hown, hts⟩ hM (cwV (R := R) As.length hts hg rfl rfl rfl ⟨hy, by rw [hy]; decide, by rw [hy]; decide, hd0⟩ hR) ⟨PJ_blind, vk_recv k1 hj hS, fun U hU hW => ⟨rfl, by rw [hU]; exact SX_move hX hW (fun a ha hna => hS.2.1 a ha hna), PT_0⟩⟩ rfl rfl rfl rfl (lv_room hr) hd hab
  exact call_out0 hrun kk
theorem va_S0 : va_S (fun q => G.1 ≤ q) s.heap s.heap [] := va_S.rf
theorem sb_1 : ∀ j, j < 12 → ∀ k, k < 6 → (sByt.getD j []).getD k 0 = Int32.ofInt (strC j k) ∧ ((Int32.ofInt (strC j k) &&& 255).toUInt32 % 65536).toInt32 = Int32.ofInt (strC j k) ∧ narrow .char (.int (Int32.ofInt (strC j k))) = .int (Int32.ofInt (strC j k)) := by decide +kernel
theorem sb_2 : ∀ j, j < 12 → Int32.ofNat (sLen.getD j 0) = Int32.ofInt (strL j) ∧ sLen.getD j 0 = (strL j).toNat ∧ strL j ≤ 6 := by decide +kernel
theorem sb_3 : ∀ j, j < 12 → Int32.ofInt (strL j) >>> (0 &&& 31) = Int32.ofInt (strL j) := by decide +kernel
theorem J_coder {j : Nat} (hj : j < 12) : Met lc yJ0_coder (Cond.code yJ0_coder prog_16_method_152_code 1 (some .byte) :: TBL) (rmJ 0) (PJ G none [.ref (ad G (1, j))]) (QJ (some (.int 0))) 0 0 (fun _ => False) := by
  refine J_met rfl (by simp [lg_sl, Value.category]) (fun p e s m below meth c ls hx hb hml hr hlocks hts hown hX hT hl hq => ?_)
  have hX' := hX
  obtain ⟨⟨adV, k1⟩, k2, k3, t, kt, k4⟩ := hX'
  refine va_gets hx hb k3 va_S0 hown (hts _ (tc_4 (i := 156) rfl rfl)) (fun _ h => h) (show decode _ 0 = .ok (.getstatic 38, 3) by decide +kernel) ?_
  refine lv_if_eq (off := 10) (tgt := 13) hx hb (show decode _ 3 = .ok (.ifCond .eq 10, 3) by decide +kernel) rfl (fun q => absurd q (by decide)) (fun _ => ?_)
  refine lv_aload_n hx hb (show decode _ 6 = .ok (.aload_n 0, 1) by decide +kernel) rfl (lv_at hl 0 rfl) ?_
  refine vk_getf hx hb (k1.1 j hj).2.1 va_S0 hown (hts _ (tc_10 (i := 34) rfl rfl)) (fun _ h => h) (show decode _ 7 = .ok (.getfield 15, 3) by decide +kernel) ?_
  refine lv_goto (off := 4) (tgt := 14) hx hb (show decode _ 10 = .ok (.goto 4, 3) by decide +kernel) rfl ?_
  exact W.zret (ty := .byte) hx hb hr rfl hq (fun q hq => by cases hq) (show decode _ 14 = .ok (.ireturn, 1) by decide +kernel)
theorem J_isLatin1 {j : Nat} (hj : j < 12) : Met lc yJ0_isLatin1 (Cond.code yJ0_isLatin1 prog_16_method_154_code 1 (some .boolean) :: TBL) (rmJ 0) (PJ G none [.ref (ad G (1, j))]) (QJ (some (.int 1))) 0 0 (fun _ => False) := by
  refine J_met rfl (by simp [lg_sl, Value.category]) (fun p e s m below meth c ls hx hb hml hr hlocks hts hown hX hT hl hq => ?_)
  have hX' := hX
  obtain ⟨⟨adV, k1⟩, k2, k3, t, kt, k4⟩ := hX'
  refine va_gets hx hb k3 va_S0 hown (hts _ (tc_4 (i := 156) rfl rfl)) (fun _ h => h) (show decode _ 0 = .ok (.getstatic 38, 3) by decide +kernel) ?_
  refine lv_if_eq (off := 14) (tgt := 17) hx hb (show decode _ 3 = .ok (.ifCond .eq 14, 3) by decide +kernel) rfl (fun q => absurd q (by decide)) (fun _ => ?_)
  refine lv_aload_n hx hb (show decode _ 6 = .ok (.aload_n 0, 1) by decide +kernel) rfl (lv_at hl 0 rfl) ?_
  refine vk_getf hx hb (k1.1 j hj).2.1 va_S0 hown (hts _ (tc_10 (i := 34) rfl rfl)) (fun _ h => h) (show decode _ 7 = .ok (.getfield 15, 3) by decide +kernel) ?_
  refine lv_if_ne (off := 7) (tgt := 17) hx hb (show decode _ 10 = .ok (.ifCond .ne 7, 3) by decide +kernel) rfl (fun q => absurd rfl q) (fun _ => ?_)
  refine lv_iconst (v := 1) hx hb (show decode _ 13 = .ok (.iconst 1, 1) by decide +kernel) (by decide) ?_
  refine lv_goto (off := 4) (tgt := 18) hx hb (show decode _ 14 = .ok (.goto 4, 3) by decide +kernel) rfl ?_
  exact W.zret (ty := .boolean) hx hb hr rfl hq (fun q hq => by cases hq) (show decode _ 18 = .ok (.ireturn, 1) by decide +kernel)
theorem J_length {j : Nat} (hj : j < 12) : Met lc yJ0_length (Cond.code yJ0_length prog_16_method_54_code 1 (some .int) :: TBL) (rmJ 1) (PJ G none [.ref (ad G (1, j))]) (QJ (some (.int (Int32.ofInt (strL j))))) 0 0 (fun _ => False) := by
  refine J_met rfl (by simp [lg_sl, Value.category]) (fun p e s m below meth c ls hx hb hml hr hlocks hts hown hX hT hl hq => ?_)
  have hX' := hX
  obtain ⟨⟨adV, k1⟩, k2, k3, t, kt, k4⟩ := hX'
  refine lv_aload_n hx hb (show decode _ 0 = .ok (.aload_n 0, 1) by decide +kernel) rfl (lv_at hl 0 rfl) ?_
  refine vk_getf hx hb (k1.1 j hj).2.2.1 va_S0 hown (hts _ (tc_10 (i := 33) rfl rfl)) (fun _ h => h) (show decode _ 1 = .ok (.getfield 9, 3) by decide +kernel) ?_
  have hlen := (sb_2 j hj).1
  refine va_tlen hx hb (k1.1 j hj).2.2.2 va_S0 hlen (show decode _ 4 = .ok (.arraylength, 1) by decide +kernel) ?_
  refine lv_aload_n hx hb (show decode _ 5 = .ok (.aload_n 0, 1) by decide +kernel) rfl (lv_at hl 0 rfl) ?_
  refine J_V (As := []) hx hb (by rw [hml]; exact hl.1.symm) hts hown hX hj (J_coder hj) rfl (tc_4 (i := 152) rfl rfl) (tc_4 (i := 153) rfl rfl) (tc_4 (i := 154) rfl rfl) (tc_4 (i := 155) rfl rfl) (by show _ = some 0; decide +kernel) ⟨by decide, by decide⟩ va_S0 ⟨Nat.zero_le _, Nat.zero_le _⟩ (Nat.le_of_ble_eq_true rfl) (show decode _ 6 = .ok (.invokevirtual 335, 3) by decide +kernel) ?_
  have e1 := sb_3 j hj
  refine lv_ishr hx hb (show decode _ 9 = .ok (.ishr, 1) by decide +kernel) ?_
  rw [e1]
  exact W.iret hx hb hr hq (fun q hq => by cases hq) (show decode _ 10 = .ok (.ireturn, 1) by decide +kernel)
theorem J_pre {i n : Int32} (h0 : ¬ i < 0) (h1 : i < n) {t : Value} (ht : t.category = 1) : Met lc yJ3_checkIndex (Cond.code yJ3_checkIndex prog_20_method_11_code 3 (some .int) :: TBL) (rmJ 0) (PJ G none [.int i, .int n, t]) (QJ (some (.int i))) 0 0 (fun _ => False) := by
  refine J_met rfl (by cases t <;> simp_all [lg_sl, Value.category]) (fun p e s m below meth c ls hx hb hml hr hlocks hts hown hX hT hl hq => ?_)
  refine lv_iload_n hx hb (show decode _ 0 = .ok (.iload_n 0, 1) by decide +kernel) rfl (lv_at hl 0 rfl) ?_
  refine lv_if_lt (off := 8) (tgt := 9) hx hb (show decode _ 1 = .ok (.ifCond .lt 8, 3) by decide +kernel) rfl (fun q => absurd q h0) (fun _ => ?_)
  refine lv_iload_n hx hb (show decode _ 4 = .ok (.iload_n 0, 1) by decide +kernel) rfl (lv_at hl 0 rfl) ?_
  refine lv_iload_n hx hb (show decode _ 5 = .ok (.iload_n 1, 1) by decide +kernel) rfl (lv_at hl 1 rfl) ?_
  refine lv_icmp_lt (off := 10) (tgt := 16) hx hb (show decode _ 6 = .ok (.if_icmp .lt 10, 3) by decide +kernel) rfl (fun _ => ?_) (fun q => absurd h1 q)
  refine lv_iload_n hx hb (show decode _ 16 = .ok (.iload_n 0, 1) by decide +kernel) rfl (lv_at hl 0 rfl) ?_
  exact W.iret hx hb hr hq (fun q hq => by cases hq) (show decode _ 17 = .ok (.ireturn, 1) by decide +kernel)
theorem J_check {i n : Int32} (h0 : ¬ i < 0) (h1 : i < n) : Met lc yJ0_checkIndex (Cond.code yJ0_checkIndex prog_16_method_155_code 2 none :: TBL) (rmJ 1) (PJ G none [.int i, .int n]) (QJ none) 0 0 (fun _ => False) := by
  refine J_met rfl (by simp [lg_sl, Value.category]) (fun p e s m below meth c ls hx hb hml hr hlocks hts hown hX hT hl hq => ?_)
  have hX' := hX
  obtain ⟨⟨adV, k1⟩, k2, k3, t, kt, k4⟩ := hX'
  refine lv_iload_n hx hb (show decode _ 0 = .ok (.iload_n 0, 1) by decide +kernel) rfl (lv_at hl 0 rfl) ?_
  refine lv_iload_n hx hb (show decode _ 1 = .ok (.iload_n 1, 1) by decide +kernel) rfl (lv_at hl 1 rfl) ?_
  refine va_gets hx hb k4 va_S0 hown (hts _ (tc_4 (i := 176) rfl rfl)) (fun _ h => h) (show decode _ 2 = .ok (.getstatic 1053, 3) by decide +kernel) ?_
  refine J_S (As := [.int i, .int n, t]) (rest := []) hx hb (by rw [hml]; exact hl.1.symm) hts hown hX PT_0 (J_pre h0 h1 kt) (tc_4 (i := 178) rfl rfl) (tc_4 (i := 179) rfl rfl) (tc_1 (i := 17) rfl rfl) (tc_4 (i := 180) rfl rfl) ⟨by decide, by decide, by show _ = some 3; decide +kernel⟩ ⟨by decide, by decide⟩ va_S0 ⟨Nat.zero_le _, Nat.zero_le _⟩ (Nat.le_of_ble_eq_true rfl) (show decode _ 5 = .ok (.invokestatic 1059, 3) by decide +kernel) ?_
  refine lv_pop hx hb (show decode _ 8 = .ok (.pop, 1) by decide +kernel) rfl ?_
  exact W.vret hx hb hr hq (fun q hq => by cases hq) (show decode _ 9 = .ok (.return_, 1) by decide +kernel)
theorem J_lat {j : Nat} (hj : j < 12) {i : Int} (hi : 0 ≤ i ∧ i < strL j) {t : Nat} : Met lc yJ1_charAt (Cond.code yJ1_charAt prog_17_method_2_code 2 (some .char) :: TBL) (rmJ 2) (PJ G (some (t, j)) [.ref t, .int (Int32.ofInt i)]) (QJ (some (.int (Int32.ofInt (strC j i.toNat))))) 0 0 (fun _ => False) := by
  refine J_met rfl (by simp [lg_sl, Value.category]) (fun p e s m below meth c ls hx hb hml hr hlocks hts hown hX hT hl hq => ?_)
  obtain ⟨f1, f2, f3⟩ := sb_2 j hj
  have hir : r32 i := by unfold r32; omega
  have hk : i.toNat < 6 := by omega
  obtain ⟨g1, g2, g3⟩ := sb_1 j hj _ hk
  refine lv_iload_n hx hb (show decode _ 0 = .ok (.iload_n 1, 1) by decide +kernel) rfl (lv_at hl 1 rfl) ?_
  refine lv_aload_n hx hb (show decode _ 1 = .ok (.aload_n 0, 1) by decide +kernel) rfl (lv_at hl 0 rfl) ?_
  refine va_tlen hx hb (hT t j rfl) va_S0 f1 (show decode _ 2 = .ok (.arraylength, 1) by decide +kernel) ?_
  have h0 : ¬ Int32.ofInt i < 0 := fun q => by
    have := (a_lt (y := 0) hir (by unfold r32; omega)).mp q
    omega
  have h1 : Int32.ofInt i < Int32.ofInt (strL j) := (a_lt hir (strL_r j)).mpr hi.2
  refine J_S (As := [.int (Int32.ofInt i), .int (Int32.ofInt (strL j))]) (rest := []) hx hb (by rw [hml]; exact hl.1.symm) hts hown hX PT_0 (J_check h0 h1) (tc_4 (i := 173) rfl rfl) (tc_4 (i := 174) rfl rfl) (tc_1 (i := 15) rfl rfl) (tc_4 (i := 175) rfl rfl) ⟨by decide, by decide, by show _ = some 2; decide +kernel⟩ ⟨by decide, by decide⟩ va_S0 ⟨Nat.zero_le _, Nat.zero_le _⟩ (Nat.le_of_ble_eq_true rfl) (show decode _ 3 = .ok (.invokestatic 9, 3) by decide +kernel) ?_
  refine lv_aload_n hx hb (show decode _ 6 = .ok (.aload_n 0, 1) by decide +kernel) rfl (lv_at hl 0 rfl) ?_
  refine lv_iload_n hx hb (show decode _ 7 = .ok (.iload_n 1, 1) by decide +kernel) rfl (lv_at hl 1 rfl) ?_
  refine va_tb (v := .int (Int32.ofInt (strC j i.toNat))) hx hb (hT t j rfl) va_S0 (a_in ⟨hi.1, by omega⟩ hir) (by rw [a_nat hi.1 hir]; show Value.int _ = _; rw [g1]) (show decode _ 8 = .ok (.baload, 1) by decide +kernel) ?_
  refine lv_sipush (v := 255) hx hb (show decode _ 9 = .ok (.sipush 255, 3) by decide +kernel) (by decide) ?_
  refine lv_iand hx hb (show decode _ 12 = .ok (.iand, 1) by decide +kernel) ?_
  refine lv_i2c hx hb (show decode _ 13 = .ok (.i2c, 1) by decide +kernel) g2 ?_
  exact W.zret (ty := .char) hx hb hr g3 hq (fun q hq => by cases hq) (show decode _ 14 = .ok (.ireturn, 1) by decide +kernel)
theorem J_charAt {j : Nat} (hj : j < 12) {i : Int} (hi : 0 ≤ i ∧ i < strL j) : Met lc yJ0_charAt (Cond.code yJ0_charAt prog_16_method_56_code 2 (some .char) :: TBL) (rmJ 3) (PJ G none [.ref (ad G (1, j)), .int (Int32.ofInt i)]) (QJ (some (.int (Int32.ofInt (strC j i.toNat))))) 0 0 (fun _ => False) := by
  refine J_met rfl (by simp [lg_sl, Value.category]) (fun p e s m below meth c ls hx hb hml hr hlocks hts hown hX hT hl hq => ?_)
  obtain ⟨f1, f2, f3⟩ := sb_2 j hj
  have hk : i.toNat < 6 := by omega
  obtain ⟨g1, g2, g3⟩ := sb_1 j hj _ hk
  obtain ⟨⟨adV, k1⟩, k2, k3, t, kt, k4⟩ := id hX
  refine lv_aload_n hx hb (show decode _ 0 = .ok (.aload_n 0, 1) by decide +kernel) rfl (lv_at hl 0 rfl) ?_
  refine J_V (As := []) hx hb (by rw [hml]; exact hl.1.symm) hts hown hX hj (J_isLatin1 hj) rfl (tc_4 (i := 166) rfl rfl) (tc_4 (i := 167) rfl rfl) (tc_4 (i := 168) rfl rfl) (tc_4 (i := 169) rfl rfl) (by show _ = some 0; decide +kernel) ⟨by decide, by decide⟩ va_S0 ⟨Nat.zero_le _, Nat.zero_le _⟩ (Nat.le_of_ble_eq_true rfl) (show decode _ 1 = .ok (.invokevirtual 492, 3) by decide +kernel) ?_
  refine lv_if_eq (off := 12) (tgt := 16) hx hb (show decode _ 4 = .ok (.ifCond .eq 12, 3) by decide +kernel) rfl (fun q => absurd q (by decide)) (fun _ => ?_)
  refine lv_aload_n hx hb (show decode _ 7 = .ok (.aload_n 0, 1) by decide +kernel) rfl (lv_at hl 0 rfl) ?_
  refine vk_getf hx hb (k1.1 j hj).2.2.1 va_S0 hown (hts _ (tc_10 (i := 33) rfl rfl)) (fun _ h => h) (show decode _ 8 = .ok (.getfield 9, 3) by decide +kernel) ?_
  refine lv_iload_n hx hb (show decode _ 11 = .ok (.iload_n 1, 1) by decide +kernel) rfl (lv_at hl 1 rfl) ?_
  refine J_S (As := [.ref (adV j), .int (Int32.ofInt i)]) (rest := []) (o := some (adV j, j)) hx hb (by rw [hml]; exact hl.1.symm) hts hown hX (fun t j2 e2 => by cases e2; exact (k1.1 j hj).2.2.2) (J_lat hj hi) (tc_4 (i := 170) rfl rfl) (tc_4 (i := 171) rfl rfl) (tc_1 (i := 16) rfl rfl) (tc_4 (i := 172) rfl rfl) ⟨by decide, by decide, by show _ = some 2; decide +kernel⟩ ⟨by decide, by decide⟩ va_S0 ⟨Nat.zero_le _, Nat.zero_le _⟩ (Nat.le_of_ble_eq_true rfl) (show decode _ 12 = .ok (.invokestatic 495, 3) by decide +kernel) ?_
  exact W.zret (ty := .char) hx hb hr g3 hq (fun q hq => by cases hq) (show decode _ 15 = .ok (.ireturn, 1) by decide +kernel)
theorem STRH_ok {L : Nat} {xs : Nat → Int32} {N0 : Nat} (hC : Cx p R s m args c G L xs N0 nL own cc) (hE : EX2 G L xs s s.heap) (h9 : 9 ≤ R.frames) (h10 : 664 ≤ R.locals) : STRH p lc e R s m args below meth c Q G nL own cc := by
  obtain ⟨hx, hb, hml, hown, hts, hK, hX, hbl, hbg, hs0⟩ := hC
  have hSX := hE.2.2.2.2.2.2
  intro n pc j a b H locs ls rest hj hS hsz ha hb2 hr hd
  refine ⟨fun w kk => ?_, fun w i hi hir kk => ?_⟩
  · exact J_V (y := yJ0_length) (As := []) hx hb (by rw [hml, hsz]) hts hown hSX hj (J_length hj) rfl w (tc_4 (i := 149) rfl rfl) (tc_4 (i := 150) rfl rfl) (tc_4 (i := 151) rfl rfl) (by show _ = some 0; decide +kernel) ⟨by omega, by omega⟩ hS ⟨ha, hb2⟩ hr hd kk
  · exact J_V (y := yJ0_charAt) (As := [.int (Int32.ofInt i)]) hx hb (by rw [hml, hsz]) hts hown hSX hj (J_charAt hj hi) rfl w (tc_4 (i := 163) rfl rfl) (tc_4 (i := 164) rfl rfl) (tc_4 (i := 165) rfl rfl) (by show _ = some 1; decide +kernel) ⟨by omega, by omega⟩ hS ⟨ha, hb2⟩ hr hd kk
end
