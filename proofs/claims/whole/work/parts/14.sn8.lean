/-! all instructions, blocks, runs, methods -/
/-- the classes of the arrays -/
def HAC : Prop := (Cond.arrayClass .int) ∈ TBL ∧ (Cond.arrayClass .boolean) ∈ TBL ∧ (Cond.arrayClass .byte) ∈ TBL ∧ (Cond.arrayClass .long) ∈ TBL
section
variable {CT : Prop} {p : Program} {lc : Launch} {e : Env} {R : Room} {s : State} {m : MethodId} {args : Array Value} {below : List Frame} {meth : Method} {c : Code} {Q : State → Prop} {G : GE} {L : Nat} {xs : Nat → Int32} {md : Bool} {N0 U0 nL d0 : Nat} {rv : RR} {cc : ByteArray} {pc pc' len own : Nat} {l l' : Lc} {st st' : List V} {S S' : SD} {K : KT} {mi : MI} {k : Nat → Lc → List V → SD → Option RR}
/-- what every instruction of one body may use -/
def AX (CT : Prop) (p : Program) (lc : Launch) (e : Env) (R : Room) (s : State) (m : MethodId) (args : Array Value) (below : List Frame) (meth : Method) (c : Code) (Q : State → Prop) (G : GE) (L : Nat) (xs : Nat → Int32) (md : Bool) (N0 U0 nL : Nat) (rv : RR) (cc : ByteArray) (own d0 : Nat) (K : KT) (mi : MI) : Prop :=
  (CT → Cx p R s m args c G L xs N0 nL own cc) ∧ (CT → EX2 G L xs s s.heap) ∧ (CT → rv.2.2.2.1 - N0 ≤ R.cells ∧ rv.2.2.2.2 - U0 ≤ R.slots) ∧ (CT → d0 + 9 ≤ R.frames ∧ 64 * d0 + 664 ≤ R.locals) ∧ SK lc G L xs md K d0 ∧ (∀ n q, mi.2.1 n = some q → pwd own n q ∧ cwd own n q ∧ swd own n q) ∧ (CT → STRH p lc e R s m args below meth c Q G nL own cc) ∧ (CT → mi.2.2.2.2.2.1 = true → meth.name = "<init>") ∧ mi.2.2.2.2.1 = own ∧ mi.2.2.2.2.2.2 = nL ∧ (CT → RT p lc e R s m args below meth c Q G L xs md N0 U0 rv cc mi.2.2.2.1)
theorem s_all {ins : Instr} (hac : HAC) (A : AX CT p lc e R s m args below meth c Q G L xs md N0 U0 nL rv cc own d0 K mi) (hd : decode cc pc = .ok (ins, len)) (ho : okI pc ins len = true) (h : stp oo K md mi ins len pc l st S k = some rv) (hk : ∀ (pc : Nat) (l : Lc) (st : List V) (S : SD), k pc l st S = some rv → SM CT p lc e R s m args below meth c Q G L xs md N0 U0 nL rv pc l st S) : SM CT p lc e R s m args below meth c Q G L xs md N0 U0 nL rv pc l st S := by
  obtain ⟨C0, CX, hR, hrm, hSK, hw, hstr, hini, hmo, hnl, hrt⟩ := A
  have hxb : CT → p.tables.exec = Jvm.exec ∧ c.code = cc := fun ct => ⟨(C0 ct).1, (C0 ct).2.1⟩
  have hp : ∀ n q, mi.2.1 n = some q → pwd own n q := fun n q h => (hw n q h).1
  have hc : ∀ n q, mi.2.1 n = some q → cwd own n q ∧ swd own n q := fun n q h => (hw n q h).2
  cases ins with
  | aconst_null => exact s_aconst_null hxb hd ho h hk
  | iadd => exact s_iadd hxb hd ho h hk
  | isub => exact s_isub hxb hd ho h hk
  | imul => exact s_imul hxb hd ho h hk
  | idiv => exact s_idiv hxb hd ho h hk
  | irem => exact s_irem hxb hd ho h hk
  | ineg => exact s_ineg hxb hd ho h hk
  | iand => exact s_iand hxb hd ho h hk
  | ior => exact s_ior hxb hd ho h hk
  | ixor => exact s_ixor hxb hd ho h hk
  | ishl => exact s_ishl hxb hd ho h hk
  | ishr => exact s_ishr hxb hd ho h hk
  | ladd => exact s_ladd hxb hd ho h hk
  | lmul => exact s_lmul hxb hd ho h hk
  | ldiv => exact s_ldiv hxb hd ho h hk
  | land => exact s_land hxb hd ho h hk
  | lor => exact s_lor hxb hd ho h hk
  | lshl => exact s_lshl hxb hd ho h hk
  | lshr => exact s_lshr hxb hd ho h hk
  | lcmp => exact s_lcmp hxb hd ho h hk
  | i2l => exact s_i2l hxb hd ho h hk
  | i2b => exact s_i2b hxb hd ho h hk
  | dup => exact s_dup hxb hd ho h hk
  | pop => exact s_pop hxb hd ho h hk
  | dup2 => exact s_dup2 hxb hd ho h hk
  | iload_n a => exact s_iload_n hxb hd ho h hk
  | iload a => exact s_iload hxb hd ho h hk
  | lload_n a => exact s_lload_n hxb hd ho h hk
  | lload a => exact s_lload hxb hd ho h hk
  | aload_n a => exact s_aload_n hxb hd ho h hk
  | aload a => exact s_aload hxb hd ho h hk
  | iconst a => exact s_iconst hxb hd ho h hk
  | goto a => exact s_goto hxb hd ho h hk
  | ifnull a => exact s_ifnull hxb hd ho h hk
  | ifnonnull a => exact s_ifnonnull hxb hd ho h hk
  | bipush a => exact s_bipush hxb hd ho h hk
  | sipush a => exact s_sipush hxb hd ho h hk
  | lconst a => exact s_lconst hxb hd ho h hk
  | istore_n a => exact s_istore_n hxb hd ho hnl h hk
  | istore a => exact s_istore hxb hd ho hnl h hk
  | lstore_n a => exact s_lstore_n hxb hd ho hnl h hk
  | lstore a => exact s_lstore hxb hd ho hnl h hk
  | astore_n a => exact s_astore_n hxb hd ho hnl h hk
  | astore a => exact s_astore hxb hd ho hnl h hk
  | iinc a b => exact s_iinc hxb hd ho hnl h hk
  | ifCond c off => cases c with
    | eq => exact s_ifCond_eq hxb hd ho h hk
    | ne => exact s_ifCond_ne hxb hd ho h hk
    | lt => exact s_ifCond_lt hxb hd ho h hk
    | ge => exact s_ifCond_ge hxb hd ho h hk
    | gt => exact s_ifCond_gt hxb hd ho h hk
    | le => exact s_ifCond_le hxb hd ho h hk
  | if_icmp c off => cases c with
    | eq => exact s_if_icmp_eq hxb hd ho h hk
    | ne => exact s_if_icmp_ne hxb hd ho h hk
    | lt => exact s_if_icmp_lt hxb hd ho h hk
    | ge => exact s_if_icmp_ge hxb hd ho h hk
    | gt => exact s_if_icmp_gt hxb hd ho h hk
    | le => exact s_if_icmp_le hxb hd ho h hk
  | tableswitch d lo hi offs => exact s_tableswitch hxb hd ho h hk
  | ldc n => exact s_ldc C0 (hp n) (fun j H locs ls a b rest w1 w2 w3 w4 hq => ⟨(hc n _ hq).2.1, fun ct kk => by
      obtain ⟨hx, hb, hml, hown, hts, hK, hX, hbl, hbg, hs0⟩ := C0 ct
      obtain ⟨q1, q2, q3⟩ := (hc n _ hq).2
      have h7 := (CX ct).2.2.2.2.2.2.2.1 j q1
      rw [q2, q3] at h7
      cases len_of (n := 2) ho
      have e9 : ad G (1, j) = G.2.2.1 j := rfl
      rw [e9] at kk
      exact va_ldcS hx hb hown h7 hd kk⟩) hd ho h hk
  | ldc_w n => exact s_ldc_w C0 (hp n) hd ho h hk
  | ldc2_w n => exact s_ldc2_w C0 (hp n) hd ho h hk
  | getfield n => exact s_getfield C0 (hp n) hd ho h hk
  | putfield n => exact s_putfield C0 (hp n) hini hmo hd ho h hk
  | iaload => exact s_iaload C0 hd ho h hk
  | baload => exact s_baload C0 hd ho h hk
  | laload => exact s_laload C0 hd ho h hk
  | iastore => exact s_iastore C0 hd ho h hk
  | bastore => exact s_bastore C0 hd ho h hk
  | lastore => exact s_lastore C0 hd ho h hk
  | arraylength => exact s_arraylength C0 hd ho h hk
  | aaload => exact s_aaload C0 fam7 hd ho h hk
  | aastore => exact s_aastore C0 fam7 hd ho h hk
  | new n => exact s_new C0 (hp n) hR hd ho h hk
  | newarray t => exact s_newarray C0 hac fn_ok hR hd ho h hk
  | anewarray n => exact s_anewarray C0 (hp n) (fun ct => (CX ct).2.2.2.2.2.1) fam7 fn_ok hR hd ho h hk
  | ireturn => exact s_ireturn hrt hd ho h
  | lreturn => exact s_lreturn hrt hd ho h
  | areturn => exact s_areturn hrt hd ho h
  | return_ => exact s_return_ hrt hd ho h
  | invokevirtual n => exact s_invokevirtual C0 CX hR hrm hSK (hc n) hstr hd ho h hk
  | invokestatic n => exact s_invokestatic C0 CX hR hrm hSK (hp n) (hc n) hd ho h hk
  | invokespecial n => exact s_invokespecial C0 CX hR hrm hSK (hp n) (hc n) hd ho h hk
  | _ => cases h
theorem SM_pick {ks : List Nat} (h : SM CT p lc e R s m args below meth c Q G L xs md N0 U0 nL rv pc (pick ks l) st S) : SM CT p lc e R s m args below meth c Q G L xs md N0 U0 nL rv pc l st S :=
  ⟨h.1, fun hd hl hs => ⟨(h.2 hd (pick_ok hl) hs).1, fun ct a b H locs ls h3 h5 h6 => (h.2 hd (pick_ok hl) hs).2 ct a b H locs ls h3 h5 (pick_has h6)⟩⟩
theorem s_blk (hac : HAC) (A : AX CT p lc e R s m args below meth c Q G L xs md N0 U0 nL rv cc own d0 K mi) (hdec : ∀ pc ins len, mi.1 pc = some (ins, len) → decode cc pc = .ok (ins, len) ∧ okI pc ins len = true) {back : Nat → Lc → List V → SD → Option RR} (hb : ∀ pc l st S, back pc l st S = some rv → SM CT p lc e R s m args below meth c Q G L xs md N0 U0 nL rv pc l st S) : ∀ (b pc : Nat) (l : Lc) (st : List V) (S : SD), blk oo K md mi back b pc l st S = some rv → SM CT p lc e R s m args below meth c Q G L xs md N0 U0 nL rv pc l st S := by
  intro b
  induction b with
  | zero => intro pc l st S h; cases h
  | succ b ih =>
    intro pc l st S h
    simp only [blk] at h
    split at h
    · cases h
    · next ins len e1 =>
      obtain ⟨g1, g2⟩ := hdec _ _ _ e1
      refine s_all hac A g1 g2 h (fun pc l st S h => ?_)
      split at h
      · exact SM_pick (hb _ _ _ _ h)
      · exact ih _ _ _ _ h
theorem s_run (hac : HAC) (A : AX CT p lc e R s m args below meth c Q G L xs md N0 U0 nL rv cc own d0 K mi) (hdec : ∀ pc ins len, mi.1 pc = some (ins, len) → decode cc pc = .ok (ins, len) ∧ okI pc ins len = true) : ∀ (n pc : Nat) (l : Lc) (st : List V) (S : SD), run oo K md mi n pc l st S = some rv → SM CT p lc e R s m args below meth c Q G L xs md N0 U0 nL rv pc l st S := by
  intro n
  induction n with
  | zero => intro pc l st S h; cases h
  | succ n ih =>
    intro pc l st S h
    exact s_blk hac A hdec ih 800 pc l st S h
end
def rkok (y rk : Nat) : Prop := (rk = 0 → rty y = some .int) ∧ (rk = 1 → rty y = some .boolean) ∧ (rk = 2 → rty y = some .long) ∧ (rk = 3 → ∃ n, rty y = some (.object n)) ∧ (rk = 4 → rty y = none)
/-- what is to be known of a method's tables -/
def PF (y : Nat) (mi : MI) : Prop :=
  (∀ pc ins len, mi.1 pc = some (ins, len) → decode (byt y) pc = .ok (ins, len) ∧ okI pc ins len = true) ∧ (∀ n q, mi.2.1 n = some q → pwd mi.2.2.2.2.1 n q ∧ cwd mi.2.2.2.2.1 n q ∧ swd mi.2.2.2.2.1 n q) ∧ (nm y).cls = cnm mi.2.2.2.2.1 ∧ (mi.2.2.2.2.2.1 = true → (nm y).name = "<init>") ∧ plainName (nm y).cls = true ∧ rkok y mi.2.2.2.1
theorem lg_len (G : GE) : ∀ a : List V, (lg_sl (a.map (tv G))).length = csum a
  | [] => rfl
  | v :: t => by
    have h := lg_len G t
    unfold lg_sl at h ⊢
    rw [List.map_cons, List.flatMap_cons, List.length_append, h]
    show _ = (bif cat2 v then 2 else 1) + csum t
    cases hc : cat2 v
    · rw [if_neg (fun q => by rw [tv_cat, hc] at q; cases q)]; rfl
    · rw [if_pos ((tv_cat G v).mpr hc)]; rfl
/-- every answer of the abstract machine is the machine's -/
theorem SK_all {lc : Launch} {G : GE} {L : Nat} {xs : Nat → Int32} {md : Bool} (hac : HAC) (hPF : ∀ y mi, mth y = some mi → PF y mi)
    (hST : ∀ (p : Program) (e : Env) (R : Room) (s : State) (m : MethodId) (args : Array Value) (below : List Frame) (meth : Method) (c : Code) (Q : State → Prop) (N0 nL own : Nat) (cc : ByteArray), Cx p R s m args c G L xs N0 nL own cc → EX2 G L xs s s.heap → 9 ≤ R.frames → 664 ≤ R.locals → STRH p lc e R s m args below meth c Q G nL own cc) : ∀ d, SK lc G L xs md (EE md d) d := by
  intro d
  induction d with
  | zero => intro z a S v S' h; cases h
  | succ d ih =>
    intro z a S v S' h
    simp only [EE] at h
    split at h
    · cases h
    · next mi hm =>
      obtain ⟨hcs, h⟩ := bif_spec h
      have hcs := Nat.le_of_ble_eq_true hcs
      obtain ⟨P1, P2, P3, P4, P5, P6⟩ := hPF z mi hm
      have hmx : mxl z = mi.2.2.2.2.2.2 := by unfold mxl; rw [hm]
      have hpure := s_run (CT := False) (p := .bare "" "" "") (lc := lc) (e := { classPath := fun _ => none }) (R := {}) (s := default) (m := default) (args := #[]) (below := []) (meth := default) (c := { maxStack := 0, maxLocals := 0, code := ByteArray.empty, exceptionTable := #[], attributes := #[] }) (Q := fun _ => True) (G := G) (L := L) (xs := xs) (md := md) (N0 := 0) (U0 := 0) (nL := mi.2.2.2.2.2.2) (rv := (v, S')) (cc := byt z) (own := mi.2.2.2.2.1) (d0 := d) (K := EE md d) (mi := mi) hac ⟨fun q => q.elim, fun q => q.elim, fun q => q.elim, fun q => q.elim, ih, P2, fun q => q.elim, fun q => q.elim, rfl, rfl, fun q => q.elim⟩ P1 _ _ _ _ _ h
      refine ⟨hpure.1, fun hdi ha => ?_⟩
      have hal : ∀ q ∈ argl 0 a, vok S q.2 := fun q hq => ha _ (argl_mem _ _ _ hq)
      have hst0 : ∀ w ∈ ([] : List V), vok S w := fun w hw => by cases hw
      obtain ⟨⟨hdi', hv'⟩, -⟩ := hpure.2 hdi hal hst0
      refine ⟨hdi', hv', ?_⟩
      refine Met.ofW (cc := byt z) (maxL := mxl z) (ret := rty z) P5 rfl ?_
      intro p e s m args below meth c s₁ B hml hP
      obtain ⟨rfl, hPW⟩ := hP
      have hx := B.exec
      have hb := B.bytes
      have hr := B.returns
      have hlocks := B.notSynchronized
      have hts : ∀ w ∈ TBL, w.before (a.map (tv G)).toArray s = true := fun w hw => atoms_spec (ws := wsz z) B.pre w (List.mem_cons_of_mem _ hw)
      have hown : s.vm.findClass (cnm mi.2.2.2.2.1) = some m.cls := by rw [← P3]; exact findClass_of_methodNamed B.named
      have hin : meth.name = (nm z).name := (name_of_methodNamed B.named B.method).1
      obtain ⟨hVP, hsz, hEX⟩ := hPW
      have hl := lv_entry (a.map (tv G)) (n := mxl z) (by rw [lg_len, hmx]; exact hcs)
      rw [lg_entry_eq]
      generalize (lg_sl (a.map (tv G)) ++ List.replicate (mxl z - (lg_sl (a.map (tv G))).length) Slot.unset).toArray = ls at hl ⊢
      rw [← argl_args G 0 a] at hl
      have hC : Cx p (rmz (d + 1) S S') s m (a.map (tv G)).toArray c G L xs S.2.2.1 mi.2.2.2.2.2.2 mi.2.2.2.2.1 (byt z) := ⟨hx, hb, by rw [hml, hmx], hown, hts, hEX.1, hEX.2.1, hEX.2.2.1, hEX.2.2.2.1, hsz⟩
      have hbody := s_run (CT := True) (p := p) (lc := lc) (e := e) (R := rmz (d + 1) S S') (s := s) (m := m) (args := (a.map (tv G)).toArray) (below := below) (meth := meth) (c := c) (Q := MQ below (QZ G L xs z v S') (a.map (tv G)).toArray s (S'.2.2.1 - S.2.2.1) (S'.2.2.2 - S.2.2.2) (fun q => G.1 ≤ q)) (G := G) (L := L) (xs := xs) (md := md) (N0 := S.2.2.1) (U0 := S.2.2.2) (nL := mi.2.2.2.2.2.2) (rv := (v, S')) (cc := byt z) (own := mi.2.2.2.2.1) (d0 := d) (K := EE md d) (mi := mi) hac ⟨fun _ => hC, fun _ => hEX, fun _ => ⟨Nat.le_refl _, Nat.le_refl _⟩, fun _ => ⟨Nat.le_refl _, by show 64 * d + 664 ≤ 64 * (d + 1) + 600; omega⟩, ih, P2, fun _ => hST _ _ _ _ _ _ _ _ _ _ _ _ _ _ hC hEX (by show 9 ≤ d + 1 + 8; omega) (by show 664 ≤ 64 * (d + 1) + 600; omega), fun _ q => by rw [hin, P4 q], rfl, rfl, fun _ => ?_⟩ P1 _ _ _ _ _ h
      · obtain ⟨-, h9⟩ := hbody.2 hdi hal hst0
        have h8 := h9 trivial (Nat.le_refl _) (Nat.le_refl _) s.heap [] ls hVP va_S.rf (by rw [← hmx]; exact hl)
        rw [Nat.sub_self, Nat.sub_self] at h8
        exact h8
      · intro H locs ls pc g1 g2 g3 g4
        have fin : ∀ (w : Option Value) (g : JFrame), w = retv G z v → (H.size = G.1 + S'.2.2.1 → (∀ t : State, t.heap = H → s.WarmedH t.vm → QZ G L xs z v S' (a.map (tv G)).toArray s (.returned w) t) → W p lc e (rmz (d + 1) S S') s m (a.map (tv G)).toArray below meth c H locs (S'.2.2.1 - S.2.2.1) (S'.2.2.2 - S.2.2.2) (MQ below (QZ G L xs z v S') (a.map (tv G)).toArray s (S'.2.2.1 - S.2.2.1) (S'.2.2.2 - S.2.2.2) (fun q => G.1 ≤ q)) g) → W p lc e (rmz (d + 1) S S') s m (a.map (tv G)).toArray below meth c H locs (S'.2.2.1 - S.2.2.1) (S'.2.2.2 - S.2.2.2) (MQ below (QZ G L xs z v S') (a.map (tv G)).toArray s (S'.2.2.1 - S.2.2.1) (S'.2.2.2 - S.2.2.2) (fun q => G.1 ≤ q)) g := by
          intro w g hw kk
          refine W_size (S := S') hsz hpure.1.1 g3 g4 (fun hz => kk hz (fun t ht hW => ⟨by rw [hw], ⟨by rw [ht]; exact g3, by rw [ht]; exact hz, by
            rw [ht]
            exact EX2_move hEX hW g4.1 (fun a ha hna => g4.2.1 a ha hna)⟩, ⟨by rw [ht]; exact g4.1, fun q hq hn => by rw [ht]; exact g4.2.1 q hq hn⟩⟩))
        obtain ⟨r0, r1, r2, r3, r4⟩ := P6
        refine ⟨fun x e1 e2 e3 => ?_, fun x e1 e2 e3 => ?_, fun q e1 e2 e3 => ?_, fun e2 e3 => ?_⟩
        · have e1 : v = .inl x := e1
          subst e1
          rcases e2 with e2 | ⟨e2, e4⟩
          · have e5 := r0 e2
            refine fin (some (.int (Int32.ofInt x))) _ (by unfold retv; rw [if_neg (by rw [e5]; simp)]; rfl) (fun hz hq => ?_)
            exact W.iret hx hb (by rw [hr, e5]) hq g4.2.2 e3
          · have e5 := r1 e2
            refine fin (some (.int (Int32.ofInt x))) _ (by unfold retv; rw [if_neg (by rw [e5]; simp)]; rfl) (fun hz hq => ?_)
            exact W.zret (ty := .boolean) hx hb (by rw [hr, e5]) (by rcases e4 with rfl | rfl <;> rfl) hq g4.2.2 e3
        · have e1 : v = .inr (.inl x) := e1
          subst e1
          have e5 := r2 e2
          refine fin (some (.long (Int64.ofInt x))) _ (by unfold retv; rw [if_neg (by rw [e5]; simp)]; rfl) (fun hz hq => ?_)
          exact W.lret hx hb (by rw [hr, e5]) hq g4.2.2 e3
        · have e1 : v = .inr (.inr q) := e1
          subst e1
          obtain ⟨n, e5⟩ := r3 e2
          refine fin (some (tv G (.inr (.inr q)))) _ (by unfold retv; rw [if_neg (by rw [e5]; simp)]) (fun hz hq => ?_)
          exact W.aret (rt := .object n) hx hb (by rw [hr, e5]) (Or.inl ⟨n, rfl⟩) (by cases q <;> simp [tv]) hq g4.2.2 e3
        · have e5 := r4 e2
          refine fin none _ (by unfold retv; rw [if_pos e5]) (fun hz hq => ?_)
          exact W.vret hx hb (by rw [hr, e5]) hq g4.2.2 e3
