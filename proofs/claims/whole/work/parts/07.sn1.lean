def SM (CT : Prop) (p : Program) (lc : Launch) (e : Env) (R : Room) (s : State) (m : MethodId) (args : Array Value) (below : List Frame) (meth : Method) (c : Code) (Q : State → Prop) (G : GE) (L : Nat) (xs : Nat → Int32) (md : Bool) (N0 U0 nL : Nat) (rv : RR) (pc : Nat) (l : Lc) (st : List V) (S : SD) : Prop :=
  (S.2.2.1 ≤ rv.2.2.2.1 ∧ S.2.2.2 ≤ rv.2.2.2.2) ∧ (DI md L xs S → (∀ q ∈ l, vok S q.2) → (∀ v ∈ st, vok S v) → (DI md L xs rv.2 ∧ vok rv.2 rv.1) ∧ (CT → N0 ≤ S.2.2.1 → U0 ≤ S.2.2.2 → ∀ (H : Heap) (locs : List Loc) (ls : Array Slot), va_P G.2.2.2.1 vwCl (wl G S) H → va_S (fun q => G.1 ≤ q) s.heap H locs → lv_has ls nL (l.map (tp G)) → W p lc e R s m args below meth c H locs (S.2.2.1 - N0) (S.2.2.2 - U0) Q (F0 m pc ls (st.map (tv G)))))
def okI (pc : Nat) (ins : Instr) (len : Nat) : Bool := match ins with
  | .ifCond _ o => len == 3 && decide (0 ≤ (pc : Int) + o)
  | .if_icmp _ o => len == 3 && decide (0 ≤ (pc : Int) + o)
  | .goto o => len == 3 && decide (0 ≤ (pc : Int) + o)
  | .ifnull o => len == 3 && decide (0 ≤ (pc : Int) + o)
  | .ifnonnull o => len == 3 && decide (0 ≤ (pc : Int) + o)
  | .tableswitch d lo hi offs => decide (0 ≤ (pc : Int) + d) && (offs.toList.all (fun o => decide (0 ≤ (pc : Int) + o)) && decide (hi - lo + 1 = offs.toList.length))
  | .bipush n => len == 2 && decide (-128 ≤ n ∧ n < 128)
  | .sipush n => len == 3 && decide (-32768 ≤ n ∧ n < 32768)
  | .iconst n => len == 1 && decide (-128 ≤ n ∧ n < 128)
  | .iload _ | .istore _ | .lload _ | .lstore _ | .aload _ | .astore _ | .ldc _ | .newarray _ => len == 2
  | .iinc _ _ | .ldc_w _ | .ldc2_w _ | .getfield _ | .putfield _ | .new _ | .anewarray _ | .invokevirtual _ | .invokestatic _ | .invokespecial _ => len == 3
  | _ => len == 1
section
variable {CT : Prop} {p : Program} {lc : Launch} {e : Env} {R : Room} {s : State} {m : MethodId} {args : Array Value} {below : List Frame} {meth : Method} {c : Code} {Q : State → Prop} {G : GE} {L : Nat} {xs : Nat → Int32} {md : Bool} {N0 U0 nL : Nat} {rv : RR} {cc : ByteArray} {pc pc' len : Nat} {l l' : Lc} {st st' : List V} {S : SD} {K : KT} {mi : MI} {k : Nat → Lc → List V → SD → Option RR}
theorem lI_spec {n : Nat} {f : Int → Option RR} (h : lI l n f = some rv) : ∃ x, lk l n = some (.inl x) ∧ f x = some rv := by
  unfold lI at h
  split at h
  · next x e1 => exact ⟨x, e1, h⟩
  · cases h
theorem lL_spec {n : Nat} {f : Int → Option RR} (h : lL l n f = some rv) : ∃ x, lk l n = some (.inr (.inl x)) ∧ f x = some rv := by
  unfold lL at h
  split at h
  · next x e1 => exact ⟨x, e1, h⟩
  · cases h
theorem lR_spec {n : Nat} {f : Option (Nat × Nat) → Option RR} (h : lR l n f = some rv) : ∃ x, lk l n = some (.inr (.inr x)) ∧ f x = some rv := by
  unfold lR at h
  split at h
  · next x e1 => exact ⟨x, e1, h⟩
  · cases h
theorem p1_spec {f : Int → List V → Option RR} (h : p1 st f = some rv) : ∃ x r, st = .inl x :: r ∧ f x r = some rv := by
  unfold p1 at h
  split at h
  · exact ⟨_, _, rfl, h⟩
  · cases h
theorem p2_spec {f : Int → Int → List V → Option RR} (h : p2 st f = some rv) : ∃ x y r, st = .inl y :: .inl x :: r ∧ f x y r = some rv := by
  unfold p2 at h
  split at h
  · exact ⟨_, _, _, rfl, h⟩
  · cases h
theorem q1_spec {f : Int → List V → Option RR} (h : q1 st f = some rv) : ∃ x r, st = .inr (.inl x) :: r ∧ f x r = some rv := by
  unfold q1 at h
  split at h
  · exact ⟨_, _, rfl, h⟩
  · cases h
theorem q2_spec {f : Int → Int → List V → Option RR} (h : q2 st f = some rv) : ∃ x y r, st = .inr (.inl y) :: .inr (.inl x) :: r ∧ f x y r = some rv := by
  unfold q2 at h
  split at h
  · exact ⟨_, _, _, rfl, h⟩
  · cases h
theorem lsh_spec {f : Int → Int → List V → Option RR} (h : lsh st f = some rv) : ∃ x y r, st = .inl y :: .inr (.inl x) :: r ∧ f x y r = some rv := by
  unfold lsh at h
  split at h
  · exact ⟨_, _, _, rfl, h⟩
  · cases h
theorem pR_spec {f : Nat → Nat → List V → Option RR} (h : pR st f = some rv) : ∃ a b r, st = .inr (.inr (some (a, b))) :: r ∧ f a b r = some rv := by
  unfold pR at h
  split at h
  · exact ⟨_, _, _, rfl, h⟩
  · cases h
theorem bif_spec {b : Bool} {x : Option RR} (h : (bif b then x else none) = some rv) : b = true ∧ x = some rv := by
  cases b
  · cases h
  · exact ⟨rfl, h⟩
theorem if_spec {b : Prop} [Decidable b] {x : Option RR} (h : (if b then x else none) = some rv) : b ∧ x = some rv := by
  by_cases hb : b
  · rw [if_pos hb] at h; exact ⟨hb, h⟩
  · rw [if_neg hb] at h; cases h
theorem okc {v : V} (hv : vok S v) (h : ∀ v ∈ st, vok S v) : ∀ w ∈ v :: st, vok S w := fun w hw => (List.mem_cons.mp hw).elim (fun e => e ▸ hv) (h w)
theorem oks {v : V} (h : ∀ w ∈ v :: st, vok S w) : vok S v ∧ ∀ w ∈ st, vok S w := ⟨h v List.mem_cons_self, fun w hw => h w (List.mem_cons_of_mem _ hw)⟩
theorem len_of {n : Nat} (h : (len == n) = true) : len = n := by simpa using h
theorem jmp_of {off : Int} (h : decide (0 ≤ (pc : Int) + off) = true) : (pc : Int) + off = ((jmp pc off : Nat) : Int) := by
  have := of_decide_eq_true h
  unfold jmp
  omega
theorem ko {a b : Bool} (h : (a && b) = true) : a = true ∧ b = true := by simpa using h
/-- a step that moves nothing but places and stack -/
theorem SM_pure (hn : SM CT p lc e R s m args below meth c Q G L xs md N0 U0 nL rv pc' l' st' S) (ok : (∀ q ∈ l, vok S q.2) → (∀ v ∈ st, vok S v) → (∀ q ∈ l', vok S q.2) ∧ (∀ v ∈ st', vok S v))
    (row : CT → (∀ q ∈ l, vok S q.2) → (∀ v ∈ st, vok S v) → ∀ (H : Heap) (locs : List Loc) (ls : Array Slot) (a n : Nat), lv_has ls nL (l.map (tp G)) → (∀ ls' : Array Slot, lv_has ls' nL (l'.map (tp G)) → W p lc e R s m args below meth c H locs a n Q (F0 m pc' ls' (st'.map (tv G)))) → W p lc e R s m args below meth c H locs a n Q (F0 m pc ls (st.map (tv G)))) : SM CT p lc e R s m args below meth c Q G L xs md N0 U0 nL rv pc l st S := by
  refine ⟨hn.1, fun hd hl hs => ?_⟩
  obtain ⟨o1, o2⟩ := ok hl hs
  have h2 := hn.2 hd o1 o2
  exact ⟨h2.1, fun ct a b H locs ls h3 h5 h6 => row ct hl hs H locs ls _ _ h6 (fun ls' h7 => h2.2 ct a b H locs ls' h3 h5 h7)⟩

theorem s_iload_n {n : Fin 4} (hxb : CT → p.tables.exec = Jvm.exec ∧ c.code = cc) (hd : decode cc pc = .ok (.iload_n n, len)) (ho : okI pc (.iload_n n) len = true) (h : stp oo K md mi (.iload_n n) len pc l st S k = some rv) (hk : ∀ (pc : Nat) (l : Lc) (st : List V) (S : SD), k pc l st S = some rv → SM CT p lc e R s m args below meth c Q G L xs md N0 U0 nL rv pc l st S) : SM CT p lc e R s m args below meth c Q G L xs md N0 U0 nL rv pc l st S := by
  cases len_of (n := 1) ho
  obtain ⟨x, hv, h⟩ := lI_spec h
  refine SM_pure (hk _ _ _ _ h) (fun hl hs => ⟨hl, okc (hl _ (lk_mem hv)) hs⟩) (fun ct hl hs H locs ls a a2 h6 kk => ?_)
  obtain ⟨hx, hb⟩ := hxb ct
  exact lv_iload_n hx hb hd rfl (lk_has h6 hv) (kk ls h6)

theorem s_iload {n : Nat} (hxb : CT → p.tables.exec = Jvm.exec ∧ c.code = cc) (hd : decode cc pc = .ok (.iload n, len)) (ho : okI pc (.iload n) len = true) (h : stp oo K md mi (.iload n) len pc l st S k = some rv) (hk : ∀ (pc : Nat) (l : Lc) (st : List V) (S : SD), k pc l st S = some rv → SM CT p lc e R s m args below meth c Q G L xs md N0 U0 nL rv pc l st S) : SM CT p lc e R s m args below meth c Q G L xs md N0 U0 nL rv pc l st S := by
  cases len_of (n := 2) ho
  obtain ⟨x, hv, h⟩ := lI_spec h
  refine SM_pure (hk _ _ _ _ h) (fun hl hs => ⟨hl, okc (hl _ (lk_mem hv)) hs⟩) (fun ct hl hs H locs ls a a2 h6 kk => ?_)
  obtain ⟨hx, hb⟩ := hxb ct
  exact lv_iload hx hb hd (lk_has h6 hv) (kk ls h6)

theorem s_lload_n {n : Fin 4} (hxb : CT → p.tables.exec = Jvm.exec ∧ c.code = cc) (hd : decode cc pc = .ok (.lload_n n, len)) (ho : okI pc (.lload_n n) len = true) (h : stp oo K md mi (.lload_n n) len pc l st S k = some rv) (hk : ∀ (pc : Nat) (l : Lc) (st : List V) (S : SD), k pc l st S = some rv → SM CT p lc e R s m args below meth c Q G L xs md N0 U0 nL rv pc l st S) : SM CT p lc e R s m args below meth c Q G L xs md N0 U0 nL rv pc l st S := by
  cases len_of (n := 1) ho
  obtain ⟨x, hv, h⟩ := lL_spec h
  refine SM_pure (hk _ _ _ _ h) (fun hl hs => ⟨hl, okc (hl _ (lk_mem hv)) hs⟩) (fun ct hl hs H locs ls a a2 h6 kk => ?_)
  obtain ⟨hx, hb⟩ := hxb ct
  exact lv_lload_n hx hb hd rfl (lk_has h6 hv) (kk ls h6)

theorem s_lload {n : Nat} (hxb : CT → p.tables.exec = Jvm.exec ∧ c.code = cc) (hd : decode cc pc = .ok (.lload n, len)) (ho : okI pc (.lload n) len = true) (h : stp oo K md mi (.lload n) len pc l st S k = some rv) (hk : ∀ (pc : Nat) (l : Lc) (st : List V) (S : SD), k pc l st S = some rv → SM CT p lc e R s m args below meth c Q G L xs md N0 U0 nL rv pc l st S) : SM CT p lc e R s m args below meth c Q G L xs md N0 U0 nL rv pc l st S := by
  cases len_of (n := 2) ho
  obtain ⟨x, hv, h⟩ := lL_spec h
  refine SM_pure (hk _ _ _ _ h) (fun hl hs => ⟨hl, okc (hl _ (lk_mem hv)) hs⟩) (fun ct hl hs H locs ls a a2 h6 kk => ?_)
  obtain ⟨hx, hb⟩ := hxb ct
  exact lv_lload hx hb hd (lk_has h6 hv) (kk ls h6)

theorem s_aload_n {n : Fin 4} (hxb : CT → p.tables.exec = Jvm.exec ∧ c.code = cc) (hd : decode cc pc = .ok (.aload_n n, len)) (ho : okI pc (.aload_n n) len = true) (h : stp oo K md mi (.aload_n n) len pc l st S k = some rv) (hk : ∀ (pc : Nat) (l : Lc) (st : List V) (S : SD), k pc l st S = some rv → SM CT p lc e R s m args below meth c Q G L xs md N0 U0 nL rv pc l st S) : SM CT p lc e R s m args below meth c Q G L xs md N0 U0 nL rv pc l st S := by
  cases len_of (n := 1) ho
  obtain ⟨x, hv, h⟩ := lR_spec h
  refine SM_pure (hk _ _ _ _ h) (fun hl hs => ⟨hl, okc (hl _ (lk_mem hv)) hs⟩) (fun ct hl hs H locs ls a a2 h6 kk => ?_)
  obtain ⟨hx, hb⟩ := hxb ct
  cases x with
  | none => exact lv_aload_nN hx hb hd rfl (lk_has h6 hv) (kk ls h6)
  | some g => exact lv_aload_n hx hb hd rfl (lk_has h6 hv) (kk ls h6)

theorem s_aload {n : Nat} (hxb : CT → p.tables.exec = Jvm.exec ∧ c.code = cc) (hd : decode cc pc = .ok (.aload n, len)) (ho : okI pc (.aload n) len = true) (h : stp oo K md mi (.aload n) len pc l st S k = some rv) (hk : ∀ (pc : Nat) (l : Lc) (st : List V) (S : SD), k pc l st S = some rv → SM CT p lc e R s m args below meth c Q G L xs md N0 U0 nL rv pc l st S) : SM CT p lc e R s m args below meth c Q G L xs md N0 U0 nL rv pc l st S := by
  cases len_of (n := 2) ho
  obtain ⟨x, hv, h⟩ := lR_spec h
  refine SM_pure (hk _ _ _ _ h) (fun hl hs => ⟨hl, okc (hl _ (lk_mem hv)) hs⟩) (fun ct hl hs H locs ls a a2 h6 kk => ?_)
  obtain ⟨hx, hb⟩ := hxb ct
  cases x with
  | none => exact lv_aloadN hx hb hd (lk_has h6 hv) (kk ls h6)
  | some g => exact lv_aload hx hb hd (lk_has h6 hv) (kk ls h6)

theorem s_iconst {n : Int} (hxb : CT → p.tables.exec = Jvm.exec ∧ c.code = cc) (hd : decode cc pc = .ok (.iconst n, len)) (ho : okI pc (.iconst n) len = true) (h : stp oo K md mi (.iconst n) len pc l st S k = some rv) (hk : ∀ (pc : Nat) (l : Lc) (st : List V) (S : SD), k pc l st S = some rv → SM CT p lc e R s m args below meth c Q G L xs md N0 U0 nL rv pc l st S) : SM CT p lc e R s m args below meth c Q G L xs md N0 U0 nL rv pc l st S := by
  obtain ⟨ho1, ho2⟩ := ko ho
  cases len_of (n := 1) ho1

  refine SM_pure (hk _ _ _ _ h) (fun hl hs => ⟨hl, okc (by unfold vok r32; have := of_decide_eq_true ho2; omega) hs⟩) (fun ct hl hs H locs ls a a2 h6 kk => ?_)
  obtain ⟨hx, hb⟩ := hxb ct
  exact lv_iconst hx hb hd rfl (kk ls h6)

theorem s_bipush {n : Int} (hxb : CT → p.tables.exec = Jvm.exec ∧ c.code = cc) (hd : decode cc pc = .ok (.bipush n, len)) (ho : okI pc (.bipush n) len = true) (h : stp oo K md mi (.bipush n) len pc l st S k = some rv) (hk : ∀ (pc : Nat) (l : Lc) (st : List V) (S : SD), k pc l st S = some rv → SM CT p lc e R s m args below meth c Q G L xs md N0 U0 nL rv pc l st S) : SM CT p lc e R s m args below meth c Q G L xs md N0 U0 nL rv pc l st S := by
  obtain ⟨ho1, ho2⟩ := ko ho
  cases len_of (n := 2) ho1

  refine SM_pure (hk _ _ _ _ h) (fun hl hs => ⟨hl, okc (by unfold vok r32; have := of_decide_eq_true ho2; omega) hs⟩) (fun ct hl hs H locs ls a a2 h6 kk => ?_)
  obtain ⟨hx, hb⟩ := hxb ct
  have hr := of_decide_eq_true ho2
  exact lv_bipush (v := Int32.ofInt n) hx hb hd (by
    apply Int32.toInt_inj.mp
    rw [i32_to (by unfold r32; omega), Int8.toInt_toInt32, Int8.toInt_ofInt]
    exact Int.bmod_eq_of_le (by show -((256 : Nat) / 2 : Int) ≤ n; omega) (by show n < ((256 : Nat) + 1 : Int) / 2; omega)) (kk ls h6)

theorem s_sipush {n : Int} (hxb : CT → p.tables.exec = Jvm.exec ∧ c.code = cc) (hd : decode cc pc = .ok (.sipush n, len)) (ho : okI pc (.sipush n) len = true) (h : stp oo K md mi (.sipush n) len pc l st S k = some rv) (hk : ∀ (pc : Nat) (l : Lc) (st : List V) (S : SD), k pc l st S = some rv → SM CT p lc e R s m args below meth c Q G L xs md N0 U0 nL rv pc l st S) : SM CT p lc e R s m args below meth c Q G L xs md N0 U0 nL rv pc l st S := by
  obtain ⟨ho1, ho2⟩ := ko ho
  cases len_of (n := 3) ho1

  refine SM_pure (hk _ _ _ _ h) (fun hl hs => ⟨hl, okc (by unfold vok r32; have := of_decide_eq_true ho2; omega) hs⟩) (fun ct hl hs H locs ls a a2 h6 kk => ?_)
  obtain ⟨hx, hb⟩ := hxb ct
  have hr := of_decide_eq_true ho2
  exact lv_sipush (v := Int32.ofInt n) hx hb hd (by
    apply Int32.toInt_inj.mp
    rw [i32_to (by unfold r32; omega), Int16.toInt_toInt32, Int16.toInt_ofInt]
    exact Int.bmod_eq_of_le (by show -((65536 : Nat) / 2 : Int) ≤ n; omega) (by show n < ((65536 : Nat) + 1 : Int) / 2; omega)) (kk ls h6)

theorem s_lconst {n : Fin 2} (hxb : CT → p.tables.exec = Jvm.exec ∧ c.code = cc) (hd : decode cc pc = .ok (.lconst n, len)) (ho : okI pc (.lconst n) len = true) (h : stp oo K md mi (.lconst n) len pc l st S k = some rv) (hk : ∀ (pc : Nat) (l : Lc) (st : List V) (S : SD), k pc l st S = some rv → SM CT p lc e R s m args below meth c Q G L xs md N0 U0 nL rv pc l st S) : SM CT p lc e R s m args below meth c Q G L xs md N0 U0 nL rv pc l st S := by
  cases len_of (n := 1) ho

  refine SM_pure (hk _ _ _ _ h) (fun hl hs => ⟨hl, okc (by unfold vok r64; have := n.isLt; omega) hs⟩) (fun ct hl hs H locs ls a a2 h6 kk => ?_)
  obtain ⟨hx, hb⟩ := hxb ct
  exact lv_lconst (v := Int64.ofInt (n.val : Int)) hx hb hd Int64.ofInt_eq_ofNat.symm (kk ls h6)

theorem s_aconst_null (hxb : CT → p.tables.exec = Jvm.exec ∧ c.code = cc) (hd : decode cc pc = .ok (.aconst_null, len)) (ho : okI pc (.aconst_null) len = true) (h : stp oo K md mi (.aconst_null) len pc l st S k = some rv) (hk : ∀ (pc : Nat) (l : Lc) (st : List V) (S : SD), k pc l st S = some rv → SM CT p lc e R s m args below meth c Q G L xs md N0 U0 nL rv pc l st S) : SM CT p lc e R s m args below meth c Q G L xs md N0 U0 nL rv pc l st S := by
  cases len_of (n := 1) ho

  refine SM_pure (hk _ _ _ _ h) (fun hl hs => ⟨hl, okc trivial hs⟩) (fun ct hl hs H locs ls a a2 h6 kk => ?_)
  obtain ⟨hx, hb⟩ := hxb ct
  exact lv_null hx hb hd (kk ls h6)

theorem s_istore_n {n : Fin 4} (hxb : CT → p.tables.exec = Jvm.exec ∧ c.code = cc) (hd : decode cc pc = .ok (.istore_n n, len)) (ho : okI pc (.istore_n n) len = true) (hnl : mi.2.2.2.2.2.2 = nL) (h : stp oo K md mi (.istore_n n) len pc l st S k = some rv) (hk : ∀ (pc : Nat) (l : Lc) (st : List V) (S : SD), k pc l st S = some rv → SM CT p lc e R s m args below meth c Q G L xs md N0 U0 nL rv pc l st S) : SM CT p lc e R s m args below meth c Q G L xs md N0 U0 nL rv pc l st S := by
  cases len_of (n := 1) ho
  obtain ⟨x, r, hst, h9⟩ := p1_spec h
  subst hst
  replace h := h9
  obtain ⟨hb2, h⟩ := bif_spec h
  refine SM_pure (hk _ _ _ _ h) (fun hl hs => ⟨st1_ok hl (oks hs).1, (oks hs).2⟩) (fun ct hl hs H locs ls a a2 h6 kk => ?_)
  obtain ⟨hx, hb⟩ := hxb ct
  exact lv_istore_n hx hb hd rfl h6 (Nat.lt_of_lt_of_eq (by simpa [Nat.blt_eq] using hb2) hnl) (st1_tp G l _ (vi x)).symm (fun ls hl => kk ls hl)

theorem s_istore {n : Nat} (hxb : CT → p.tables.exec = Jvm.exec ∧ c.code = cc) (hd : decode cc pc = .ok (.istore n, len)) (ho : okI pc (.istore n) len = true) (hnl : mi.2.2.2.2.2.2 = nL) (h : stp oo K md mi (.istore n) len pc l st S k = some rv) (hk : ∀ (pc : Nat) (l : Lc) (st : List V) (S : SD), k pc l st S = some rv → SM CT p lc e R s m args below meth c Q G L xs md N0 U0 nL rv pc l st S) : SM CT p lc e R s m args below meth c Q G L xs md N0 U0 nL rv pc l st S := by
  cases len_of (n := 2) ho
  obtain ⟨x, r, hst, h9⟩ := p1_spec h
  subst hst
  replace h := h9
  obtain ⟨hb2, h⟩ := bif_spec h
  refine SM_pure (hk _ _ _ _ h) (fun hl hs => ⟨st1_ok hl (oks hs).1, (oks hs).2⟩) (fun ct hl hs H locs ls a a2 h6 kk => ?_)
  obtain ⟨hx, hb⟩ := hxb ct
  exact lv_istore hx hb hd h6 (Nat.lt_of_lt_of_eq (by simpa [Nat.blt_eq] using hb2) hnl) (st1_tp G l _ (vi x)).symm (fun ls hl => kk ls hl)

theorem s_lstore_n {n : Fin 4} (hxb : CT → p.tables.exec = Jvm.exec ∧ c.code = cc) (hd : decode cc pc = .ok (.lstore_n n, len)) (ho : okI pc (.lstore_n n) len = true) (hnl : mi.2.2.2.2.2.2 = nL) (h : stp oo K md mi (.lstore_n n) len pc l st S k = some rv) (hk : ∀ (pc : Nat) (l : Lc) (st : List V) (S : SD), k pc l st S = some rv → SM CT p lc e R s m args below meth c Q G L xs md N0 U0 nL rv pc l st S) : SM CT p lc e R s m args below meth c Q G L xs md N0 U0 nL rv pc l st S := by
  cases len_of (n := 1) ho
  obtain ⟨x, r, rfl, h⟩ := q1_spec h
  obtain ⟨hb2, h⟩ := bif_spec h
  refine SM_pure (hk _ _ _ _ h) (fun hl hs => ⟨st2_ok hl (oks hs).1, (oks hs).2⟩) (fun ct hl hs H locs ls a a2 h6 kk => ?_)
  obtain ⟨hx, hb⟩ := hxb ct
  exact lv_lstore_n hx hb hd rfl h6 (Nat.lt_of_lt_of_eq (by simpa [Nat.blt_eq] using hb2) hnl) (st2_tp G l _ (vl x)).symm (fun ls hl => kk ls hl)

theorem s_lstore {n : Nat} (hxb : CT → p.tables.exec = Jvm.exec ∧ c.code = cc) (hd : decode cc pc = .ok (.lstore n, len)) (ho : okI pc (.lstore n) len = true) (hnl : mi.2.2.2.2.2.2 = nL) (h : stp oo K md mi (.lstore n) len pc l st S k = some rv) (hk : ∀ (pc : Nat) (l : Lc) (st : List V) (S : SD), k pc l st S = some rv → SM CT p lc e R s m args below meth c Q G L xs md N0 U0 nL rv pc l st S) : SM CT p lc e R s m args below meth c Q G L xs md N0 U0 nL rv pc l st S := by
  cases len_of (n := 2) ho
  obtain ⟨x, r, rfl, h⟩ := q1_spec h
  obtain ⟨hb2, h⟩ := bif_spec h
  refine SM_pure (hk _ _ _ _ h) (fun hl hs => ⟨st2_ok hl (oks hs).1, (oks hs).2⟩) (fun ct hl hs H locs ls a a2 h6 kk => ?_)
  obtain ⟨hx, hb⟩ := hxb ct
  exact lv_lstore hx hb hd h6 (Nat.lt_of_lt_of_eq (by simpa [Nat.blt_eq] using hb2) hnl) (st2_tp G l _ (vl x)).symm (fun ls hl => kk ls hl)

theorem s_astore_n {n : Fin 4} (hxb : CT → p.tables.exec = Jvm.exec ∧ c.code = cc) (hd : decode cc pc = .ok (.astore_n n, len)) (ho : okI pc (.astore_n n) len = true) (hnl : mi.2.2.2.2.2.2 = nL) (h : stp oo K md mi (.astore_n n) len pc l st S k = some rv) (hk : ∀ (pc : Nat) (l : Lc) (st : List V) (S : SD), k pc l st S = some rv → SM CT p lc e R s m args below meth c Q G L xs md N0 U0 nL rv pc l st S) : SM CT p lc e R s m args below meth c Q G L xs md N0 U0 nL rv pc l st S := by
  cases len_of (n := 1) ho
  have h : ∃ x r, st = .inr (.inr x) :: r ∧ (bif Nat.blt n.val mi.2.2.2.2.2.2 then k (pc + 1) (st1 l n.val (vr x)) r S else none) = some rv := by
    simp only [stp] at h
    split at h
    · exact ⟨_, _, rfl, h⟩
    · cases h
  obtain ⟨x, r, rfl, h⟩ := h
  obtain ⟨hb2, h⟩ := bif_spec h
  refine SM_pure (hk _ _ _ _ h) (fun hl hs => ⟨st1_ok hl (oks hs).1, (oks hs).2⟩) (fun ct hl hs H locs ls a a2 h6 kk => ?_)
  obtain ⟨hx, hb⟩ := hxb ct
  have hlt := Nat.lt_of_lt_of_eq (by simpa [Nat.blt_eq] using hb2) hnl
  cases x with
  | none => exact lv_astore_nN hx hb hd rfl h6 hlt (st1_tp G l _ (vr none)).symm (fun ls hl => kk ls hl)
  | some g => exact lv_astore_n hx hb hd rfl h6 hlt (st1_tp G l _ (vr (some g))).symm (fun ls hl => kk ls hl)

theorem s_astore {n : Nat} (hxb : CT → p.tables.exec = Jvm.exec ∧ c.code = cc) (hd : decode cc pc = .ok (.astore n, len)) (ho : okI pc (.astore n) len = true) (hnl : mi.2.2.2.2.2.2 = nL) (h : stp oo K md mi (.astore n) len pc l st S k = some rv) (hk : ∀ (pc : Nat) (l : Lc) (st : List V) (S : SD), k pc l st S = some rv → SM CT p lc e R s m args below meth c Q G L xs md N0 U0 nL rv pc l st S) : SM CT p lc e R s m args below meth c Q G L xs md N0 U0 nL rv pc l st S := by
  cases len_of (n := 2) ho
  have h : ∃ x r, st = .inr (.inr x) :: r ∧ (bif Nat.blt n mi.2.2.2.2.2.2 then k (pc + 2) (st1 l n (vr x)) r S else none) = some rv := by
    simp only [stp] at h
    split at h
    · exact ⟨_, _, rfl, h⟩
    · cases h
  obtain ⟨x, r, rfl, h⟩ := h
  obtain ⟨hb2, h⟩ := bif_spec h
  refine SM_pure (hk _ _ _ _ h) (fun hl hs => ⟨st1_ok hl (oks hs).1, (oks hs).2⟩) (fun ct hl hs H locs ls a a2 h6 kk => ?_)
  obtain ⟨hx, hb⟩ := hxb ct
  have hlt := Nat.lt_of_lt_of_eq (by simpa [Nat.blt_eq] using hb2) hnl
  cases x with
  | none => exact lv_astoreN hx hb hd h6 hlt (st1_tp G l _ (vr none)).symm (fun ls hl => kk ls hl)
  | some g => exact lv_astore hx hb hd h6 hlt (st1_tp G l _ (vr (some g))).symm (fun ls hl => kk ls hl)

theorem s_iinc {n : Nat} {d : Int} (hxb : CT → p.tables.exec = Jvm.exec ∧ c.code = cc) (hd : decode cc pc = .ok (.iinc n d, len)) (ho : okI pc (.iinc n d) len = true) (hnl : mi.2.2.2.2.2.2 = nL) (h : stp oo K md mi (.iinc n d) len pc l st S k = some rv) (hk : ∀ (pc : Nat) (l : Lc) (st : List V) (S : SD), k pc l st S = some rv → SM CT p lc e R s m args below meth c Q G L xs md N0 U0 nL rv pc l st S) : SM CT p lc e R s m args below meth c Q G L xs md N0 U0 nL rv pc l st S := by
  cases len_of (n := 3) ho
  obtain ⟨x, hv, h⟩ := lI_spec h
  obtain ⟨hb2, h⟩ := bif_spec h
  refine SM_pure (hk _ _ _ _ h) (fun hl hs => ⟨st1_ok hl (r32_w _), hs⟩) (fun ct hl hs H locs ls a a2 h6 kk => ?_)
  obtain ⟨hx, hb⟩ := hxb ct
  obtain ⟨q, hq⟩ := lk_place (G := G) hv
  exact lv_iinc (v := Int32.ofInt (w32 (x + d))) hx hb hd h6 hq (a_add x d).symm (Nat.lt_of_lt_of_eq (by simpa [Nat.blt_eq] using hb2) hnl) (st1_tp G l _ (vi (w32 (x + d)))).symm (fun ls hl => kk ls hl)

theorem s_iadd (hxb : CT → p.tables.exec = Jvm.exec ∧ c.code = cc) (hd : decode cc pc = .ok (.iadd, len)) (ho : okI pc (.iadd) len = true) (h : stp oo K md mi (.iadd) len pc l st S k = some rv) (hk : ∀ (pc : Nat) (l : Lc) (st : List V) (S : SD), k pc l st S = some rv → SM CT p lc e R s m args below meth c Q G L xs md N0 U0 nL rv pc l st S) : SM CT p lc e R s m args below meth c Q G L xs md N0 U0 nL rv pc l st S := by
  cases len_of (n := 1) ho
  obtain ⟨x, y, r, hst, h9⟩ := p2_spec h
  subst hst
  replace h := h9
  refine SM_pure (hk _ _ _ _ h) (fun hl hs => ⟨hl, okc (r32_w _) (oks (oks hs).2).2⟩) (fun ct hl hs H locs ls a a2 h6 kk => ?_)
  obtain ⟨hx, hb⟩ := hxb ct
  refine lv_iadd hx hb hd ?_
  rw [← a_add x y]
  exact kk ls h6

theorem s_isub (hxb : CT → p.tables.exec = Jvm.exec ∧ c.code = cc) (hd : decode cc pc = .ok (.isub, len)) (ho : okI pc (.isub) len = true) (h : stp oo K md mi (.isub) len pc l st S k = some rv) (hk : ∀ (pc : Nat) (l : Lc) (st : List V) (S : SD), k pc l st S = some rv → SM CT p lc e R s m args below meth c Q G L xs md N0 U0 nL rv pc l st S) : SM CT p lc e R s m args below meth c Q G L xs md N0 U0 nL rv pc l st S := by
  cases len_of (n := 1) ho
  obtain ⟨x, y, r, hst, h9⟩ := p2_spec h
  subst hst
  replace h := h9
  refine SM_pure (hk _ _ _ _ h) (fun hl hs => ⟨hl, okc (r32_w _) (oks (oks hs).2).2⟩) (fun ct hl hs H locs ls a a2 h6 kk => ?_)
  obtain ⟨hx, hb⟩ := hxb ct
  refine lv_isub hx hb hd ?_
  rw [← a_sub x y]
  exact kk ls h6

theorem s_imul (hxb : CT → p.tables.exec = Jvm.exec ∧ c.code = cc) (hd : decode cc pc = .ok (.imul, len)) (ho : okI pc (.imul) len = true) (h : stp oo K md mi (.imul) len pc l st S k = some rv) (hk : ∀ (pc : Nat) (l : Lc) (st : List V) (S : SD), k pc l st S = some rv → SM CT p lc e R s m args below meth c Q G L xs md N0 U0 nL rv pc l st S) : SM CT p lc e R s m args below meth c Q G L xs md N0 U0 nL rv pc l st S := by
  cases len_of (n := 1) ho
  obtain ⟨x, y, r, hst, h9⟩ := p2_spec h
  subst hst
  replace h := h9
  refine SM_pure (hk _ _ _ _ h) (fun hl hs => ⟨hl, okc (r32_w _) (oks (oks hs).2).2⟩) (fun ct hl hs H locs ls a a2 h6 kk => ?_)
  obtain ⟨hx, hb⟩ := hxb ct
  refine lv_imul hx hb hd ?_
  rw [← a_mul x y]
  exact kk ls h6

theorem s_idiv (hxb : CT → p.tables.exec = Jvm.exec ∧ c.code = cc) (hd : decode cc pc = .ok (.idiv, len)) (ho : okI pc (.idiv) len = true) (h : stp oo K md mi (.idiv) len pc l st S k = some rv) (hk : ∀ (pc : Nat) (l : Lc) (st : List V) (S : SD), k pc l st S = some rv → SM CT p lc e R s m args below meth c Q G L xs md N0 U0 nL rv pc l st S) : SM CT p lc e R s m args below meth c Q G L xs md N0 U0 nL rv pc l st S := by
  cases len_of (n := 1) ho
  obtain ⟨x, y, r, hst, h9⟩ := p2_spec h
  subst hst
  replace h := h9
  have h : ¬ y = 0 ∧ k (pc + 1) l (vi (w32 (Int.tdiv x y)) :: r) S = some rv := by
    by_cases hy : y = 0
    · rw [if_pos hy] at h; cases h
    · rw [if_neg hy] at h; exact ⟨hy, h⟩
  obtain ⟨hy, h⟩ := h
  refine SM_pure (hk _ _ _ _ h) (fun hl hs => ⟨hl, okc (r32_w _) (oks (oks hs).2).2⟩) (fun ct hl hs H locs ls a a2 h6 kk => ?_)
  obtain ⟨hx, hb⟩ := hxb ct
  have hy1 : r32 y := (oks hs).1
  have hx1 : r32 x := (oks (oks hs).2).1
  refine lv_idiv hx hb hd (fun q => hy ((a_eq (y := 0) hy1 (by unfold r32; omega)).mp q)) ?_
  rw [← a_div hx1 hy1]
  exact kk ls h6

theorem s_irem (hxb : CT → p.tables.exec = Jvm.exec ∧ c.code = cc) (hd : decode cc pc = .ok (.irem, len)) (ho : okI pc (.irem) len = true) (h : stp oo K md mi (.irem) len pc l st S k = some rv) (hk : ∀ (pc : Nat) (l : Lc) (st : List V) (S : SD), k pc l st S = some rv → SM CT p lc e R s m args below meth c Q G L xs md N0 U0 nL rv pc l st S) : SM CT p lc e R s m args below meth c Q G L xs md N0 U0 nL rv pc l st S := by
  cases len_of (n := 1) ho
  obtain ⟨x, y, r, hst, h9⟩ := p2_spec h
  subst hst
  replace h := h9
  have h : ¬ y = 0 ∧ k (pc + 1) l (vi (w32 (x - Int.tdiv x y * y)) :: r) S = some rv := by
    by_cases hy : y = 0
    · rw [if_pos hy] at h; cases h
    · rw [if_neg hy] at h; exact ⟨hy, h⟩
  obtain ⟨hy, h⟩ := h
  refine SM_pure (hk _ _ _ _ h) (fun hl hs => ⟨hl, okc (r32_w _) (oks (oks hs).2).2⟩) (fun ct hl hs H locs ls a a2 h6 kk => ?_)
  obtain ⟨hx, hb⟩ := hxb ct
  have hy1 : r32 y := (oks hs).1
  have hx1 : r32 x := (oks (oks hs).2).1
  refine lv_irem hx hb hd (fun q => hy ((a_eq (y := 0) hy1 (by unfold r32; omega)).mp q)) ?_
  rw [← a_rem hx1 hy1]
  exact kk ls h6

theorem s_ineg (hxb : CT → p.tables.exec = Jvm.exec ∧ c.code = cc) (hd : decode cc pc = .ok (.ineg, len)) (ho : okI pc (.ineg) len = true) (h : stp oo K md mi (.ineg) len pc l st S k = some rv) (hk : ∀ (pc : Nat) (l : Lc) (st : List V) (S : SD), k pc l st S = some rv → SM CT p lc e R s m args below meth c Q G L xs md N0 U0 nL rv pc l st S) : SM CT p lc e R s m args below meth c Q G L xs md N0 U0 nL rv pc l st S := by
  cases len_of (n := 1) ho
  obtain ⟨x, r, hst, h9⟩ := p1_spec h
  subst hst
  replace h := h9
  refine SM_pure (hk _ _ _ _ h) (fun hl hs => ⟨hl, okc (r32_w _) (oks hs).2⟩) (fun ct hl hs H locs ls a a2 h6 kk => ?_)
  obtain ⟨hx, hb⟩ := hxb ct
  refine lv_ineg hx hb hd ?_
  rw [← a_neg]
  exact kk ls h6

theorem s_iand (hxb : CT → p.tables.exec = Jvm.exec ∧ c.code = cc) (hd : decode cc pc = .ok (.iand, len)) (ho : okI pc (.iand) len = true) (h : stp oo K md mi (.iand) len pc l st S k = some rv) (hk : ∀ (pc : Nat) (l : Lc) (st : List V) (S : SD), k pc l st S = some rv → SM CT p lc e R s m args below meth c Q G L xs md N0 U0 nL rv pc l st S) : SM CT p lc e R s m args below meth c Q G L xs md N0 U0 nL rv pc l st S := by
  cases len_of (n := 1) ho
  obtain ⟨x, y, r, hst, h9⟩ := p2_spec h
  subst hst
  replace h := h9
  have h : k (pc + 1) l (vi (iand x y) :: r) S = some rv := h
  unfold iand at h
  refine SM_pure (hk _ _ _ _ h) (fun hl hs => ⟨hl, okc (r32_i _) (oks (oks hs).2).2⟩) (fun ct hl hs H locs ls a a2 h6 kk => ?_)
  obtain ⟨hx, hb⟩ := hxb ct
  refine lv_iand hx hb hd ?_
  have := kk ls h6
  simp only [List.map_cons, tv, Int32.ofInt_toInt] at this
  exact this

theorem s_ior (hxb : CT → p.tables.exec = Jvm.exec ∧ c.code = cc) (hd : decode cc pc = .ok (.ior, len)) (ho : okI pc (.ior) len = true) (h : stp oo K md mi (.ior) len pc l st S k = some rv) (hk : ∀ (pc : Nat) (l : Lc) (st : List V) (S : SD), k pc l st S = some rv → SM CT p lc e R s m args below meth c Q G L xs md N0 U0 nL rv pc l st S) : SM CT p lc e R s m args below meth c Q G L xs md N0 U0 nL rv pc l st S := by
  cases len_of (n := 1) ho
  obtain ⟨x, y, r, hst, h9⟩ := p2_spec h
  subst hst
  replace h := h9
  have h : k (pc + 1) l (vi (ior x y) :: r) S = some rv := h
  unfold ior at h
  refine SM_pure (hk _ _ _ _ h) (fun hl hs => ⟨hl, okc (r32_i _) (oks (oks hs).2).2⟩) (fun ct hl hs H locs ls a a2 h6 kk => ?_)
  obtain ⟨hx, hb⟩ := hxb ct
  refine lv_ior hx hb hd ?_
  have := kk ls h6
  simp only [List.map_cons, tv, Int32.ofInt_toInt] at this
  exact this

theorem s_ixor (hxb : CT → p.tables.exec = Jvm.exec ∧ c.code = cc) (hd : decode cc pc = .ok (.ixor, len)) (ho : okI pc (.ixor) len = true) (h : stp oo K md mi (.ixor) len pc l st S k = some rv) (hk : ∀ (pc : Nat) (l : Lc) (st : List V) (S : SD), k pc l st S = some rv → SM CT p lc e R s m args below meth c Q G L xs md N0 U0 nL rv pc l st S) : SM CT p lc e R s m args below meth c Q G L xs md N0 U0 nL rv pc l st S := by
  cases len_of (n := 1) ho
  obtain ⟨x, y, r, hst, h9⟩ := p2_spec h
  subst hst
  replace h := h9
  have h : k (pc + 1) l (vi (ixor x y) :: r) S = some rv := h
  unfold ixor at h
  refine SM_pure (hk _ _ _ _ h) (fun hl hs => ⟨hl, okc (r32_i _) (oks (oks hs).2).2⟩) (fun ct hl hs H locs ls a a2 h6 kk => ?_)
  obtain ⟨hx, hb⟩ := hxb ct
  refine lv_ixor hx hb hd ?_
  have := kk ls h6
  simp only [List.map_cons, tv, Int32.ofInt_toInt] at this
  exact this

theorem s_ishl (hxb : CT → p.tables.exec = Jvm.exec ∧ c.code = cc) (hd : decode cc pc = .ok (.ishl, len)) (ho : okI pc (.ishl) len = true) (h : stp oo K md mi (.ishl) len pc l st S k = some rv) (hk : ∀ (pc : Nat) (l : Lc) (st : List V) (S : SD), k pc l st S = some rv → SM CT p lc e R s m args below meth c Q G L xs md N0 U0 nL rv pc l st S) : SM CT p lc e R s m args below meth c Q G L xs md N0 U0 nL rv pc l st S := by
  cases len_of (n := 1) ho
  obtain ⟨x, y, r, hst, h9⟩ := p2_spec h
  subst hst
  replace h := h9
  have h : k (pc + 1) l (vi (ishl x y) :: r) S = some rv := h
  unfold ishl at h
  refine SM_pure (hk _ _ _ _ h) (fun hl hs => ⟨hl, okc (r32_i _) (oks (oks hs).2).2⟩) (fun ct hl hs H locs ls a a2 h6 kk => ?_)
  obtain ⟨hx, hb⟩ := hxb ct
  refine lv_ishl hx hb hd ?_
  have := kk ls h6
  simp only [List.map_cons, tv, Int32.ofInt_toInt] at this
  exact this

theorem s_ishr (hxb : CT → p.tables.exec = Jvm.exec ∧ c.code = cc) (hd : decode cc pc = .ok (.ishr, len)) (ho : okI pc (.ishr) len = true) (h : stp oo K md mi (.ishr) len pc l st S k = some rv) (hk : ∀ (pc : Nat) (l : Lc) (st : List V) (S : SD), k pc l st S = some rv → SM CT p lc e R s m args below meth c Q G L xs md N0 U0 nL rv pc l st S) : SM CT p lc e R s m args below meth c Q G L xs md N0 U0 nL rv pc l st S := by
  cases len_of (n := 1) ho
  obtain ⟨x, y, r, hst, h9⟩ := p2_spec h
  subst hst
  replace h := h9
  have h : k (pc + 1) l (vi (ishr x y) :: r) S = some rv := h
  unfold ishr at h
  refine SM_pure (hk _ _ _ _ h) (fun hl hs => ⟨hl, okc (r32_i _) (oks (oks hs).2).2⟩) (fun ct hl hs H locs ls a a2 h6 kk => ?_)
  obtain ⟨hx, hb⟩ := hxb ct
  refine lv_ishr hx hb hd ?_
  have := kk ls h6
  simp only [List.map_cons, tv, Int32.ofInt_toInt] at this
  exact this

theorem s_ladd (hxb : CT → p.tables.exec = Jvm.exec ∧ c.code = cc) (hd : decode cc pc = .ok (.ladd, len)) (ho : okI pc (.ladd) len = true) (h : stp oo K md mi (.ladd) len pc l st S k = some rv) (hk : ∀ (pc : Nat) (l : Lc) (st : List V) (S : SD), k pc l st S = some rv → SM CT p lc e R s m args below meth c Q G L xs md N0 U0 nL rv pc l st S) : SM CT p lc e R s m args below meth c Q G L xs md N0 U0 nL rv pc l st S := by
  cases len_of (n := 1) ho
  obtain ⟨x, y, r, hst, h9⟩ := q2_spec h
  subst hst
  replace h := h9
  refine SM_pure (hk _ _ _ _ h) (fun hl hs => ⟨hl, okc (r64_w _) (oks (oks hs).2).2⟩) (fun ct hl hs H locs ls a a2 h6 kk => ?_)
  obtain ⟨hx, hb⟩ := hxb ct
  refine lv_ladd hx hb hd ?_
  rw [← a_addL x y]
  exact kk ls h6

theorem s_lmul (hxb : CT → p.tables.exec = Jvm.exec ∧ c.code = cc) (hd : decode cc pc = .ok (.lmul, len)) (ho : okI pc (.lmul) len = true) (h : stp oo K md mi (.lmul) len pc l st S k = some rv) (hk : ∀ (pc : Nat) (l : Lc) (st : List V) (S : SD), k pc l st S = some rv → SM CT p lc e R s m args below meth c Q G L xs md N0 U0 nL rv pc l st S) : SM CT p lc e R s m args below meth c Q G L xs md N0 U0 nL rv pc l st S := by
  cases len_of (n := 1) ho
  obtain ⟨x, y, r, hst, h9⟩ := q2_spec h
  subst hst
  replace h := h9
  refine SM_pure (hk _ _ _ _ h) (fun hl hs => ⟨hl, okc (r64_w _) (oks (oks hs).2).2⟩) (fun ct hl hs H locs ls a a2 h6 kk => ?_)
  obtain ⟨hx, hb⟩ := hxb ct
  refine lv_lmul hx hb hd ?_
  rw [← a_mulL x y]
  exact kk ls h6

theorem s_ldiv (hxb : CT → p.tables.exec = Jvm.exec ∧ c.code = cc) (hd : decode cc pc = .ok (.ldiv, len)) (ho : okI pc (.ldiv) len = true) (h : stp oo K md mi (.ldiv) len pc l st S k = some rv) (hk : ∀ (pc : Nat) (l : Lc) (st : List V) (S : SD), k pc l st S = some rv → SM CT p lc e R s m args below meth c Q G L xs md N0 U0 nL rv pc l st S) : SM CT p lc e R s m args below meth c Q G L xs md N0 U0 nL rv pc l st S := by
  cases len_of (n := 1) ho
  obtain ⟨x, y, r, hst, h9⟩ := q2_spec h
  subst hst
  replace h := h9
  have h : ¬ y = 0 ∧ k (pc + 1) l (vl (w64 (Int.tdiv x y)) :: r) S = some rv := by
    by_cases hy : y = 0
    · rw [if_pos hy] at h; cases h
    · rw [if_neg hy] at h; exact ⟨hy, h⟩
  obtain ⟨hy, h⟩ := h
  refine SM_pure (hk _ _ _ _ h) (fun hl hs => ⟨hl, okc (r64_w _) (oks (oks hs).2).2⟩) (fun ct hl hs H locs ls a a2 h6 kk => ?_)
  obtain ⟨hx, hb⟩ := hxb ct
  have hy1 : r64 y := (oks hs).1
  have hx1 : r64 x := (oks (oks hs).2).1
  refine lv_ldiv hx hb hd (fun q => hy ((a_eqL (y := 0) hy1 (by unfold r64; omega)).mp q)) ?_
  rw [← a_divL hx1 hy1]
  exact kk ls h6

theorem s_land (hxb : CT → p.tables.exec = Jvm.exec ∧ c.code = cc) (hd : decode cc pc = .ok (.land, len)) (ho : okI pc (.land) len = true) (h : stp oo K md mi (.land) len pc l st S k = some rv) (hk : ∀ (pc : Nat) (l : Lc) (st : List V) (S : SD), k pc l st S = some rv → SM CT p lc e R s m args below meth c Q G L xs md N0 U0 nL rv pc l st S) : SM CT p lc e R s m args below meth c Q G L xs md N0 U0 nL rv pc l st S := by
  cases len_of (n := 1) ho
  obtain ⟨x, y, r, hst, h9⟩ := q2_spec h
  subst hst
  replace h := h9
  have h : k (pc + 1) l (vl (land x y) :: r) S = some rv := h
  unfold land at h
  refine SM_pure (hk _ _ _ _ h) (fun hl hs => ⟨hl, okc (r64_i _) (oks (oks hs).2).2⟩) (fun ct hl hs H locs ls a a2 h6 kk => ?_)
  obtain ⟨hx, hb⟩ := hxb ct
  refine lv_land hx hb hd ?_
  have := kk ls h6
  simp only [List.map_cons, tv, Int64.ofInt_toInt] at this
  exact this

theorem s_lor (hxb : CT → p.tables.exec = Jvm.exec ∧ c.code = cc) (hd : decode cc pc = .ok (.lor, len)) (ho : okI pc (.lor) len = true) (h : stp oo K md mi (.lor) len pc l st S k = some rv) (hk : ∀ (pc : Nat) (l : Lc) (st : List V) (S : SD), k pc l st S = some rv → SM CT p lc e R s m args below meth c Q G L xs md N0 U0 nL rv pc l st S) : SM CT p lc e R s m args below meth c Q G L xs md N0 U0 nL rv pc l st S := by
  cases len_of (n := 1) ho
  obtain ⟨x, y, r, hst, h9⟩ := q2_spec h
  subst hst
  replace h := h9
  have h : k (pc + 1) l (vl (lor x y) :: r) S = some rv := h
  unfold lor at h
  refine SM_pure (hk _ _ _ _ h) (fun hl hs => ⟨hl, okc (r64_i _) (oks (oks hs).2).2⟩) (fun ct hl hs H locs ls a a2 h6 kk => ?_)
  obtain ⟨hx, hb⟩ := hxb ct
  refine lv_lor hx hb hd ?_
  have := kk ls h6
  simp only [List.map_cons, tv, Int64.ofInt_toInt] at this
  exact this

theorem s_lshl (hxb : CT → p.tables.exec = Jvm.exec ∧ c.code = cc) (hd : decode cc pc = .ok (.lshl, len)) (ho : okI pc (.lshl) len = true) (h : stp oo K md mi (.lshl) len pc l st S k = some rv) (hk : ∀ (pc : Nat) (l : Lc) (st : List V) (S : SD), k pc l st S = some rv → SM CT p lc e R s m args below meth c Q G L xs md N0 U0 nL rv pc l st S) : SM CT p lc e R s m args below meth c Q G L xs md N0 U0 nL rv pc l st S := by
  cases len_of (n := 1) ho
  obtain ⟨x, y, r, rfl, h⟩ := lsh_spec h
  have h : k (pc + 1) l (vl (lshl x y) :: r) S = some rv := h
  unfold lshl at h
  refine SM_pure (hk _ _ _ _ h) (fun hl hs => ⟨hl, okc (r64_i _) (oks (oks hs).2).2⟩) (fun ct hl hs H locs ls a a2 h6 kk => ?_)
  obtain ⟨hx, hb⟩ := hxb ct
  refine lv_lshl hx hb hd rfl ?_
  have := kk ls h6
  simp only [List.map_cons, tv, Int64.ofInt_toInt] at this
  exact this

theorem s_lshr (hxb : CT → p.tables.exec = Jvm.exec ∧ c.code = cc) (hd : decode cc pc = .ok (.lshr, len)) (ho : okI pc (.lshr) len = true) (h : stp oo K md mi (.lshr) len pc l st S k = some rv) (hk : ∀ (pc : Nat) (l : Lc) (st : List V) (S : SD), k pc l st S = some rv → SM CT p lc e R s m args below meth c Q G L xs md N0 U0 nL rv pc l st S) : SM CT p lc e R s m args below meth c Q G L xs md N0 U0 nL rv pc l st S := by
  cases len_of (n := 1) ho
  obtain ⟨x, y, r, rfl, h⟩ := lsh_spec h
  have h : k (pc + 1) l (vl (lshr x y) :: r) S = some rv := h
  unfold lshr at h
  refine SM_pure (hk _ _ _ _ h) (fun hl hs => ⟨hl, okc (r64_i _) (oks (oks hs).2).2⟩) (fun ct hl hs H locs ls a a2 h6 kk => ?_)
  obtain ⟨hx, hb⟩ := hxb ct
  refine lv_lshr hx hb hd rfl ?_
  have := kk ls h6
  simp only [List.map_cons, tv, Int64.ofInt_toInt] at this
  exact this

theorem s_lcmp (hxb : CT → p.tables.exec = Jvm.exec ∧ c.code = cc) (hd : decode cc pc = .ok (.lcmp, len)) (ho : okI pc (.lcmp) len = true) (h : stp oo K md mi (.lcmp) len pc l st S k = some rv) (hk : ∀ (pc : Nat) (l : Lc) (st : List V) (S : SD), k pc l st S = some rv → SM CT p lc e R s m args below meth c Q G L xs md N0 U0 nL rv pc l st S) : SM CT p lc e R s m args below meth c Q G L xs md N0 U0 nL rv pc l st S := by
  cases len_of (n := 1) ho
  obtain ⟨x, y, r, hst, h9⟩ := q2_spec h
  subst hst
  replace h := h9
  refine SM_pure (hk _ _ _ _ h) (fun hl hs => ⟨hl, okc (r32_lcm _ _) (oks (oks hs).2).2⟩) (fun ct hl hs H locs ls a a2 h6 kk => ?_)
  obtain ⟨hx, hb⟩ := hxb ct
  refine W.lcmp hx hb hd ?_
  rw [← a_cmp (oks (oks hs).2).1 (oks hs).1]
  exact kk ls h6

theorem s_i2l (hxb : CT → p.tables.exec = Jvm.exec ∧ c.code = cc) (hd : decode cc pc = .ok (.i2l, len)) (ho : okI pc (.i2l) len = true) (h : stp oo K md mi (.i2l) len pc l st S k = some rv) (hk : ∀ (pc : Nat) (l : Lc) (st : List V) (S : SD), k pc l st S = some rv → SM CT p lc e R s m args below meth c Q G L xs md N0 U0 nL rv pc l st S) : SM CT p lc e R s m args below meth c Q G L xs md N0 U0 nL rv pc l st S := by
  cases len_of (n := 1) ho
  obtain ⟨x, r, hst, h9⟩ := p1_spec h
  subst hst
  replace h := h9
  refine SM_pure (hk _ _ _ _ h) (fun hl hs => ⟨hl, okc (r32_64 (oks hs).1) (oks hs).2⟩) (fun ct hl hs H locs ls a a2 h6 kk => ?_)
  obtain ⟨hx, hb⟩ := hxb ct
  exact lv_i2l hx hb hd (a_i2l (oks hs).1) (kk ls h6)

theorem s_i2b (hxb : CT → p.tables.exec = Jvm.exec ∧ c.code = cc) (hd : decode cc pc = .ok (.i2b, len)) (ho : okI pc (.i2b) len = true) (h : stp oo K md mi (.i2b) len pc l st S k = some rv) (hk : ∀ (pc : Nat) (l : Lc) (st : List V) (S : SD), k pc l st S = some rv → SM CT p lc e R s m args below meth c Q G L xs md N0 U0 nL rv pc l st S) : SM CT p lc e R s m args below meth c Q G L xs md N0 U0 nL rv pc l st S := by
  cases len_of (n := 1) ho
  obtain ⟨x, r, hst, h9⟩ := p1_spec h
  subst hst
  replace h := h9
  refine SM_pure (hk _ _ _ _ h) (fun hl hs => ⟨hl, okc (show r32 (Int.bmod x 256) from by have := r32_b x; unfold r32; omega) (oks hs).2⟩) (fun ct hl hs H locs ls a a2 h6 kk => ?_)
  obtain ⟨hx, hb⟩ := hxb ct
  exact lv_i2b hx hb hd (a_i2b (oks hs).1) (kk ls h6)

theorem s_dup (hxb : CT → p.tables.exec = Jvm.exec ∧ c.code = cc) (hd : decode cc pc = .ok (.dup, len)) (ho : okI pc (.dup) len = true) (h : stp oo K md mi (.dup) len pc l st S k = some rv) (hk : ∀ (pc : Nat) (l : Lc) (st : List V) (S : SD), k pc l st S = some rv → SM CT p lc e R s m args below meth c Q G L xs md N0 U0 nL rv pc l st S) : SM CT p lc e R s m args below meth c Q G L xs md N0 U0 nL rv pc l st S := by
  cases len_of (n := 1) ho
  have h : ∃ v r, st = v :: r ∧ cat2 v = false ∧ k (pc + 1) l (v :: v :: r) S = some rv := by
    simp only [stp] at h
    split at h
    · next v r => cases hv : cat2 v <;> rw [hv] at h <;> first | exact ⟨v, r, rfl, hv, h⟩ | cases h
    · cases h
  obtain ⟨v, r, rfl, hv, h⟩ := h
  refine SM_pure (hk _ _ _ _ h) (fun hl hs => ⟨hl, okc (oks hs).1 hs⟩) (fun ct hl hs H locs ls a a2 h6 kk => ?_)
  obtain ⟨hx, hb⟩ := hxb ct
  exact lv_dup hx hb hd (tv_cat1 G hv) (kk ls h6)

theorem s_pop (hxb : CT → p.tables.exec = Jvm.exec ∧ c.code = cc) (hd : decode cc pc = .ok (.pop, len)) (ho : okI pc (.pop) len = true) (h : stp oo K md mi (.pop) len pc l st S k = some rv) (hk : ∀ (pc : Nat) (l : Lc) (st : List V) (S : SD), k pc l st S = some rv → SM CT p lc e R s m args below meth c Q G L xs md N0 U0 nL rv pc l st S) : SM CT p lc e R s m args below meth c Q G L xs md N0 U0 nL rv pc l st S := by
  cases len_of (n := 1) ho
  have h : ∃ v r, st = v :: r ∧ cat2 v = false ∧ k (pc + 1) l (r) S = some rv := by
    simp only [stp] at h
    split at h
    · next v r => cases hv : cat2 v <;> rw [hv] at h <;> first | exact ⟨v, r, rfl, hv, h⟩ | cases h
    · cases h
  obtain ⟨v, r, rfl, hv, h⟩ := h
  refine SM_pure (hk _ _ _ _ h) (fun hl hs => ⟨hl, (oks hs).2⟩) (fun ct hl hs H locs ls a a2 h6 kk => ?_)
  obtain ⟨hx, hb⟩ := hxb ct
  exact lv_pop hx hb hd (tv_cat1 G hv) (kk ls h6)

theorem s_dup2 (hxb : CT → p.tables.exec = Jvm.exec ∧ c.code = cc) (hd : decode cc pc = .ok (.dup2, len)) (ho : okI pc (.dup2) len = true) (h : stp oo K md mi (.dup2) len pc l st S k = some rv) (hk : ∀ (pc : Nat) (l : Lc) (st : List V) (S : SD), k pc l st S = some rv → SM CT p lc e R s m args below meth c Q G L xs md N0 U0 nL rv pc l st S) : SM CT p lc e R s m args below meth c Q G L xs md N0 U0 nL rv pc l st S := by
  cases len_of (n := 1) ho
  have h : ∃ v w r, st = v :: w :: r ∧ cat2 v = false ∧ cat2 w = false ∧ k (pc + 1) l (v :: w :: v :: w :: r) S = some rv := by
    simp only [stp] at h
    split at h
    · next v w r => cases hv : cat2 v <;> cases hw : cat2 w <;> rw [hv, hw] at h <;> first | exact ⟨v, w, r, rfl, hv, hw, h⟩ | cases h
    · cases h
  obtain ⟨v, w, r, rfl, hv, hw, h⟩ := h
  refine SM_pure (hk _ _ _ _ h) (fun hl hs => ⟨hl, okc (oks hs).1 (okc (oks (oks hs).2).1 hs)⟩) (fun ct hl hs H locs ls a a2 h6 kk => ?_)
  obtain ⟨hx, hb⟩ := hxb ct
  exact lv_dup2_11 hx hb hd (tv_cat1 G hv) (tv_cat1 G hw) (kk ls h6)

theorem s_goto {off : Int} (hxb : CT → p.tables.exec = Jvm.exec ∧ c.code = cc) (hd : decode cc pc = .ok (.goto off, len)) (ho : okI pc (.goto off) len = true) (h : stp oo K md mi (.goto off) len pc l st S k = some rv) (hk : ∀ (pc : Nat) (l : Lc) (st : List V) (S : SD), k pc l st S = some rv → SM CT p lc e R s m args below meth c Q G L xs md N0 U0 nL rv pc l st S) : SM CT p lc e R s m args below meth c Q G L xs md N0 U0 nL rv pc l st S := by
  obtain ⟨ho1, ho2⟩ := ko ho
  cases len_of (n := 3) ho1

  refine SM_pure (hk _ _ _ _ h) (fun hl hs => ⟨hl, hs⟩) (fun ct hl hs H locs ls a a2 h6 kk => ?_)
  obtain ⟨hx, hb⟩ := hxb ct
  exact lv_goto hx hb hd (jmp_of ho2) (kk ls h6)

theorem s_ifCond_eq {off : Int} (hxb : CT → p.tables.exec = Jvm.exec ∧ c.code = cc) (hd : decode cc pc = .ok (.ifCond .eq off, len)) (ho : okI pc (.ifCond .eq off) len = true) (h : stp oo K md mi (.ifCond .eq off) len pc l st S k = some rv) (hk : ∀ (pc : Nat) (l : Lc) (st : List V) (S : SD), k pc l st S = some rv → SM CT p lc e R s m args below meth c Q G L xs md N0 U0 nL rv pc l st S) : SM CT p lc e R s m args below meth c Q G L xs md N0 U0 nL rv pc l st S := by
  obtain ⟨ho1, ho2⟩ := ko ho
  cases len_of (n := 3) ho1
  obtain ⟨x, r, hst, h9⟩ := p1_spec h
  subst hst
  replace h := h9
  simp only [cnd] at h
  by_cases hc : x = 0
  · rw [if_pos hc] at h
    refine SM_pure (hk _ _ _ _ h) (fun hl hs => ⟨hl, (oks hs).2⟩) (fun ct hl hs H locs ls a a2 h6 kk => ?_)
    obtain ⟨hx, hb⟩ := hxb ct
    have hy1 : r32 0 := by unfold r32; omega
    have hx1 : r32 x := (oks hs).1
    exact lv_if_eq hx hb hd (jmp_of ho2) (fun _ => kk ls h6) (fun q => absurd ((a_eq hx1 hy1).mpr hc) q)
  · rw [if_neg hc] at h
    refine SM_pure (hk _ _ _ _ h) (fun hl hs => ⟨hl, (oks hs).2⟩) (fun ct hl hs H locs ls a a2 h6 kk => ?_)
    obtain ⟨hx, hb⟩ := hxb ct
    have hy1 : r32 0 := by unfold r32; omega
    have hx1 : r32 x := (oks hs).1
    exact lv_if_eq hx hb hd (jmp_of ho2) (fun q => absurd ((a_eq hx1 hy1).mp q) hc) (fun _ => kk ls h6)

theorem s_ifCond_ne {off : Int} (hxb : CT → p.tables.exec = Jvm.exec ∧ c.code = cc) (hd : decode cc pc = .ok (.ifCond .ne off, len)) (ho : okI pc (.ifCond .ne off) len = true) (h : stp oo K md mi (.ifCond .ne off) len pc l st S k = some rv) (hk : ∀ (pc : Nat) (l : Lc) (st : List V) (S : SD), k pc l st S = some rv → SM CT p lc e R s m args below meth c Q G L xs md N0 U0 nL rv pc l st S) : SM CT p lc e R s m args below meth c Q G L xs md N0 U0 nL rv pc l st S := by
  obtain ⟨ho1, ho2⟩ := ko ho
  cases len_of (n := 3) ho1
  obtain ⟨x, r, hst, h9⟩ := p1_spec h
  subst hst
  replace h := h9
  simp only [cnd] at h
  by_cases hc : x = 0
  · rw [if_pos hc] at h
    refine SM_pure (hk _ _ _ _ h) (fun hl hs => ⟨hl, (oks hs).2⟩) (fun ct hl hs H locs ls a a2 h6 kk => ?_)
    obtain ⟨hx, hb⟩ := hxb ct
    have hy1 : r32 0 := by unfold r32; omega
    have hx1 : r32 x := (oks hs).1
    exact lv_if_ne hx hb hd (jmp_of ho2) (fun q => absurd ((a_eq hx1 hy1).mpr hc) q) (fun _ => kk ls h6)
  · rw [if_neg hc] at h
    refine SM_pure (hk _ _ _ _ h) (fun hl hs => ⟨hl, (oks hs).2⟩) (fun ct hl hs H locs ls a a2 h6 kk => ?_)
    obtain ⟨hx, hb⟩ := hxb ct
    have hy1 : r32 0 := by unfold r32; omega
    have hx1 : r32 x := (oks hs).1
    exact lv_if_ne hx hb hd (jmp_of ho2) (fun _ => kk ls h6) (fun q => absurd ((a_eq hx1 hy1).mp q) hc)

theorem s_ifCond_lt {off : Int} (hxb : CT → p.tables.exec = Jvm.exec ∧ c.code = cc) (hd : decode cc pc = .ok (.ifCond .lt off, len)) (ho : okI pc (.ifCond .lt off) len = true) (h : stp oo K md mi (.ifCond .lt off) len pc l st S k = some rv) (hk : ∀ (pc : Nat) (l : Lc) (st : List V) (S : SD), k pc l st S = some rv → SM CT p lc e R s m args below meth c Q G L xs md N0 U0 nL rv pc l st S) : SM CT p lc e R s m args below meth c Q G L xs md N0 U0 nL rv pc l st S := by
  obtain ⟨ho1, ho2⟩ := ko ho
  cases len_of (n := 3) ho1
  obtain ⟨x, r, hst, h9⟩ := p1_spec h
  subst hst
  replace h := h9
  simp only [cnd] at h
  by_cases hc : x < 0
  · rw [if_pos hc] at h
    refine SM_pure (hk _ _ _ _ h) (fun hl hs => ⟨hl, (oks hs).2⟩) (fun ct hl hs H locs ls a a2 h6 kk => ?_)
    obtain ⟨hx, hb⟩ := hxb ct
    have hy1 : r32 0 := by unfold r32; omega
    have hx1 : r32 x := (oks hs).1
    exact lv_if_lt hx hb hd (jmp_of ho2) (fun _ => kk ls h6) (fun q => absurd ((a_lt hx1 hy1).mpr hc) q)
  · rw [if_neg hc] at h
    refine SM_pure (hk _ _ _ _ h) (fun hl hs => ⟨hl, (oks hs).2⟩) (fun ct hl hs H locs ls a a2 h6 kk => ?_)
    obtain ⟨hx, hb⟩ := hxb ct
    have hy1 : r32 0 := by unfold r32; omega
    have hx1 : r32 x := (oks hs).1
    exact lv_if_lt hx hb hd (jmp_of ho2) (fun q => absurd ((a_lt hx1 hy1).mp q) hc) (fun _ => kk ls h6)

theorem s_ifCond_ge {off : Int} (hxb : CT → p.tables.exec = Jvm.exec ∧ c.code = cc) (hd : decode cc pc = .ok (.ifCond .ge off, len)) (ho : okI pc (.ifCond .ge off) len = true) (h : stp oo K md mi (.ifCond .ge off) len pc l st S k = some rv) (hk : ∀ (pc : Nat) (l : Lc) (st : List V) (S : SD), k pc l st S = some rv → SM CT p lc e R s m args below meth c Q G L xs md N0 U0 nL rv pc l st S) : SM CT p lc e R s m args below meth c Q G L xs md N0 U0 nL rv pc l st S := by
  obtain ⟨ho1, ho2⟩ := ko ho
  cases len_of (n := 3) ho1
  obtain ⟨x, r, hst, h9⟩ := p1_spec h
  subst hst
  replace h := h9
  simp only [cnd] at h
  by_cases hc : x < 0
  · rw [if_pos hc] at h
    refine SM_pure (hk _ _ _ _ h) (fun hl hs => ⟨hl, (oks hs).2⟩) (fun ct hl hs H locs ls a a2 h6 kk => ?_)
    obtain ⟨hx, hb⟩ := hxb ct
    have hy1 : r32 0 := by unfold r32; omega
    have hx1 : r32 x := (oks hs).1
    exact lv_if_ge hx hb hd (jmp_of ho2) (fun q => absurd ((a_le hy1 hx1).mp q) (by omega)) (fun _ => kk ls h6)
  · rw [if_neg hc] at h
    refine SM_pure (hk _ _ _ _ h) (fun hl hs => ⟨hl, (oks hs).2⟩) (fun ct hl hs H locs ls a a2 h6 kk => ?_)
    obtain ⟨hx, hb⟩ := hxb ct
    have hy1 : r32 0 := by unfold r32; omega
    have hx1 : r32 x := (oks hs).1
    exact lv_if_ge hx hb hd (jmp_of ho2) (fun _ => kk ls h6) (fun q => absurd ((a_le hy1 hx1).mpr (by omega)) q)

theorem s_ifCond_gt {off : Int} (hxb : CT → p.tables.exec = Jvm.exec ∧ c.code = cc) (hd : decode cc pc = .ok (.ifCond .gt off, len)) (ho : okI pc (.ifCond .gt off) len = true) (h : stp oo K md mi (.ifCond .gt off) len pc l st S k = some rv) (hk : ∀ (pc : Nat) (l : Lc) (st : List V) (S : SD), k pc l st S = some rv → SM CT p lc e R s m args below meth c Q G L xs md N0 U0 nL rv pc l st S) : SM CT p lc e R s m args below meth c Q G L xs md N0 U0 nL rv pc l st S := by
  obtain ⟨ho1, ho2⟩ := ko ho
  cases len_of (n := 3) ho1
  obtain ⟨x, r, hst, h9⟩ := p1_spec h
  subst hst
  replace h := h9
  simp only [cnd] at h
  by_cases hc : 0 < x
  · rw [if_pos hc] at h
    refine SM_pure (hk _ _ _ _ h) (fun hl hs => ⟨hl, (oks hs).2⟩) (fun ct hl hs H locs ls a a2 h6 kk => ?_)
    obtain ⟨hx, hb⟩ := hxb ct
    have hy1 : r32 0 := by unfold r32; omega
    have hx1 : r32 x := (oks hs).1
    exact lv_if_gt hx hb hd (jmp_of ho2) (fun _ => kk ls h6) (fun q => absurd ((a_lt hy1 hx1).mpr hc) q)
  · rw [if_neg hc] at h
    refine SM_pure (hk _ _ _ _ h) (fun hl hs => ⟨hl, (oks hs).2⟩) (fun ct hl hs H locs ls a a2 h6 kk => ?_)
    obtain ⟨hx, hb⟩ := hxb ct
    have hy1 : r32 0 := by unfold r32; omega
    have hx1 : r32 x := (oks hs).1
    exact lv_if_gt hx hb hd (jmp_of ho2) (fun q => absurd ((a_lt hy1 hx1).mp q) hc) (fun _ => kk ls h6)

theorem s_ifCond_le {off : Int} (hxb : CT → p.tables.exec = Jvm.exec ∧ c.code = cc) (hd : decode cc pc = .ok (.ifCond .le off, len)) (ho : okI pc (.ifCond .le off) len = true) (h : stp oo K md mi (.ifCond .le off) len pc l st S k = some rv) (hk : ∀ (pc : Nat) (l : Lc) (st : List V) (S : SD), k pc l st S = some rv → SM CT p lc e R s m args below meth c Q G L xs md N0 U0 nL rv pc l st S) : SM CT p lc e R s m args below meth c Q G L xs md N0 U0 nL rv pc l st S := by
  obtain ⟨ho1, ho2⟩ := ko ho
  cases len_of (n := 3) ho1
  obtain ⟨x, r, hst, h9⟩ := p1_spec h
  subst hst
  replace h := h9
  simp only [cnd] at h
  by_cases hc : 0 < x
  · rw [if_pos hc] at h
    refine SM_pure (hk _ _ _ _ h) (fun hl hs => ⟨hl, (oks hs).2⟩) (fun ct hl hs H locs ls a a2 h6 kk => ?_)
    obtain ⟨hx, hb⟩ := hxb ct
    have hy1 : r32 0 := by unfold r32; omega
    have hx1 : r32 x := (oks hs).1
    exact lv_if_le hx hb hd (jmp_of ho2) (fun q => absurd ((a_le hx1 hy1).mp q) (by omega)) (fun _ => kk ls h6)
  · rw [if_neg hc] at h
    refine SM_pure (hk _ _ _ _ h) (fun hl hs => ⟨hl, (oks hs).2⟩) (fun ct hl hs H locs ls a a2 h6 kk => ?_)
    obtain ⟨hx, hb⟩ := hxb ct
    have hy1 : r32 0 := by unfold r32; omega
    have hx1 : r32 x := (oks hs).1
    exact lv_if_le hx hb hd (jmp_of ho2) (fun _ => kk ls h6) (fun q => absurd ((a_le hx1 hy1).mpr (by omega)) q)

theorem s_if_icmp_eq {off : Int} (hxb : CT → p.tables.exec = Jvm.exec ∧ c.code = cc) (hd : decode cc pc = .ok (.if_icmp .eq off, len)) (ho : okI pc (.if_icmp .eq off) len = true) (h : stp oo K md mi (.if_icmp .eq off) len pc l st S k = some rv) (hk : ∀ (pc : Nat) (l : Lc) (st : List V) (S : SD), k pc l st S = some rv → SM CT p lc e R s m args below meth c Q G L xs md N0 U0 nL rv pc l st S) : SM CT p lc e R s m args below meth c Q G L xs md N0 U0 nL rv pc l st S := by
  obtain ⟨ho1, ho2⟩ := ko ho
  cases len_of (n := 3) ho1
  obtain ⟨x, y, r, hst, h9⟩ := p2_spec h
  subst hst
  replace h := h9
  simp only [cnd] at h
  by_cases hc : x = y
  · rw [if_pos hc] at h
    refine SM_pure (hk _ _ _ _ h) (fun hl hs => ⟨hl, (oks (oks hs).2).2⟩) (fun ct hl hs H locs ls a a2 h6 kk => ?_)
    obtain ⟨hx, hb⟩ := hxb ct
    have hy1 : r32 y := (oks hs).1
    have hx1 : r32 x := (oks (oks hs).2).1
    exact lv_icmp_eq hx hb hd (jmp_of ho2) (fun _ => kk ls h6) (fun q => absurd ((a_eq hx1 hy1).mpr hc) q)
  · rw [if_neg hc] at h
    refine SM_pure (hk _ _ _ _ h) (fun hl hs => ⟨hl, (oks (oks hs).2).2⟩) (fun ct hl hs H locs ls a a2 h6 kk => ?_)
    obtain ⟨hx, hb⟩ := hxb ct
    have hy1 : r32 y := (oks hs).1
    have hx1 : r32 x := (oks (oks hs).2).1
    exact lv_icmp_eq hx hb hd (jmp_of ho2) (fun q => absurd ((a_eq hx1 hy1).mp q) hc) (fun _ => kk ls h6)

theorem s_if_icmp_ne {off : Int} (hxb : CT → p.tables.exec = Jvm.exec ∧ c.code = cc) (hd : decode cc pc = .ok (.if_icmp .ne off, len)) (ho : okI pc (.if_icmp .ne off) len = true) (h : stp oo K md mi (.if_icmp .ne off) len pc l st S k = some rv) (hk : ∀ (pc : Nat) (l : Lc) (st : List V) (S : SD), k pc l st S = some rv → SM CT p lc e R s m args below meth c Q G L xs md N0 U0 nL rv pc l st S) : SM CT p lc e R s m args below meth c Q G L xs md N0 U0 nL rv pc l st S := by
  obtain ⟨ho1, ho2⟩ := ko ho
  cases len_of (n := 3) ho1
  obtain ⟨x, y, r, hst, h9⟩ := p2_spec h
  subst hst
  replace h := h9
  simp only [cnd] at h
  by_cases hc : x = y
  · rw [if_pos hc] at h
    refine SM_pure (hk _ _ _ _ h) (fun hl hs => ⟨hl, (oks (oks hs).2).2⟩) (fun ct hl hs H locs ls a a2 h6 kk => ?_)
    obtain ⟨hx, hb⟩ := hxb ct
    have hy1 : r32 y := (oks hs).1
    have hx1 : r32 x := (oks (oks hs).2).1
    exact lv_icmp_ne hx hb hd (jmp_of ho2) (fun q => absurd ((a_eq hx1 hy1).mpr hc) q) (fun _ => kk ls h6)
  · rw [if_neg hc] at h
    refine SM_pure (hk _ _ _ _ h) (fun hl hs => ⟨hl, (oks (oks hs).2).2⟩) (fun ct hl hs H locs ls a a2 h6 kk => ?_)
    obtain ⟨hx, hb⟩ := hxb ct
    have hy1 : r32 y := (oks hs).1
    have hx1 : r32 x := (oks (oks hs).2).1
    exact lv_icmp_ne hx hb hd (jmp_of ho2) (fun _ => kk ls h6) (fun q => absurd ((a_eq hx1 hy1).mp q) hc)

theorem s_if_icmp_lt {off : Int} (hxb : CT → p.tables.exec = Jvm.exec ∧ c.code = cc) (hd : decode cc pc = .ok (.if_icmp .lt off, len)) (ho : okI pc (.if_icmp .lt off) len = true) (h : stp oo K md mi (.if_icmp .lt off) len pc l st S k = some rv) (hk : ∀ (pc : Nat) (l : Lc) (st : List V) (S : SD), k pc l st S = some rv → SM CT p lc e R s m args below meth c Q G L xs md N0 U0 nL rv pc l st S) : SM CT p lc e R s m args below meth c Q G L xs md N0 U0 nL rv pc l st S := by
  obtain ⟨ho1, ho2⟩ := ko ho
  cases len_of (n := 3) ho1
  obtain ⟨x, y, r, hst, h9⟩ := p2_spec h
  subst hst
  replace h := h9
  simp only [cnd] at h
  by_cases hc : x < y
  · rw [if_pos hc] at h
    refine SM_pure (hk _ _ _ _ h) (fun hl hs => ⟨hl, (oks (oks hs).2).2⟩) (fun ct hl hs H locs ls a a2 h6 kk => ?_)
    obtain ⟨hx, hb⟩ := hxb ct
    have hy1 : r32 y := (oks hs).1
    have hx1 : r32 x := (oks (oks hs).2).1
    exact lv_icmp_lt hx hb hd (jmp_of ho2) (fun _ => kk ls h6) (fun q => absurd ((a_lt hx1 hy1).mpr hc) q)
  · rw [if_neg hc] at h
    refine SM_pure (hk _ _ _ _ h) (fun hl hs => ⟨hl, (oks (oks hs).2).2⟩) (fun ct hl hs H locs ls a a2 h6 kk => ?_)
    obtain ⟨hx, hb⟩ := hxb ct
    have hy1 : r32 y := (oks hs).1
    have hx1 : r32 x := (oks (oks hs).2).1
    exact lv_icmp_lt hx hb hd (jmp_of ho2) (fun q => absurd ((a_lt hx1 hy1).mp q) hc) (fun _ => kk ls h6)

theorem s_if_icmp_ge {off : Int} (hxb : CT → p.tables.exec = Jvm.exec ∧ c.code = cc) (hd : decode cc pc = .ok (.if_icmp .ge off, len)) (ho : okI pc (.if_icmp .ge off) len = true) (h : stp oo K md mi (.if_icmp .ge off) len pc l st S k = some rv) (hk : ∀ (pc : Nat) (l : Lc) (st : List V) (S : SD), k pc l st S = some rv → SM CT p lc e R s m args below meth c Q G L xs md N0 U0 nL rv pc l st S) : SM CT p lc e R s m args below meth c Q G L xs md N0 U0 nL rv pc l st S := by
  obtain ⟨ho1, ho2⟩ := ko ho
  cases len_of (n := 3) ho1
  obtain ⟨x, y, r, hst, h9⟩ := p2_spec h
  subst hst
  replace h := h9
  simp only [cnd] at h
  by_cases hc : x < y
  · rw [if_pos hc] at h
    refine SM_pure (hk _ _ _ _ h) (fun hl hs => ⟨hl, (oks (oks hs).2).2⟩) (fun ct hl hs H locs ls a a2 h6 kk => ?_)
    obtain ⟨hx, hb⟩ := hxb ct
    have hy1 : r32 y := (oks hs).1
    have hx1 : r32 x := (oks (oks hs).2).1
    exact lv_icmp_ge hx hb hd (jmp_of ho2) (fun q => absurd ((a_le hy1 hx1).mp q) (by omega)) (fun _ => kk ls h6)
  · rw [if_neg hc] at h
    refine SM_pure (hk _ _ _ _ h) (fun hl hs => ⟨hl, (oks (oks hs).2).2⟩) (fun ct hl hs H locs ls a a2 h6 kk => ?_)
    obtain ⟨hx, hb⟩ := hxb ct
    have hy1 : r32 y := (oks hs).1
    have hx1 : r32 x := (oks (oks hs).2).1
    exact lv_icmp_ge hx hb hd (jmp_of ho2) (fun _ => kk ls h6) (fun q => absurd ((a_le hy1 hx1).mpr (by omega)) q)

theorem s_if_icmp_gt {off : Int} (hxb : CT → p.tables.exec = Jvm.exec ∧ c.code = cc) (hd : decode cc pc = .ok (.if_icmp .gt off, len)) (ho : okI pc (.if_icmp .gt off) len = true) (h : stp oo K md mi (.if_icmp .gt off) len pc l st S k = some rv) (hk : ∀ (pc : Nat) (l : Lc) (st : List V) (S : SD), k pc l st S = some rv → SM CT p lc e R s m args below meth c Q G L xs md N0 U0 nL rv pc l st S) : SM CT p lc e R s m args below meth c Q G L xs md N0 U0 nL rv pc l st S := by
  obtain ⟨ho1, ho2⟩ := ko ho
  cases len_of (n := 3) ho1
  obtain ⟨x, y, r, hst, h9⟩ := p2_spec h
  subst hst
  replace h := h9
  simp only [cnd] at h
  by_cases hc : y < x
  · rw [if_pos hc] at h
    refine SM_pure (hk _ _ _ _ h) (fun hl hs => ⟨hl, (oks (oks hs).2).2⟩) (fun ct hl hs H locs ls a a2 h6 kk => ?_)
    obtain ⟨hx, hb⟩ := hxb ct
    have hy1 : r32 y := (oks hs).1
    have hx1 : r32 x := (oks (oks hs).2).1
    exact lv_icmp_gt hx hb hd (jmp_of ho2) (fun _ => kk ls h6) (fun q => absurd ((a_lt hy1 hx1).mpr hc) q)
  · rw [if_neg hc] at h
    refine SM_pure (hk _ _ _ _ h) (fun hl hs => ⟨hl, (oks (oks hs).2).2⟩) (fun ct hl hs H locs ls a a2 h6 kk => ?_)
    obtain ⟨hx, hb⟩ := hxb ct
    have hy1 : r32 y := (oks hs).1
    have hx1 : r32 x := (oks (oks hs).2).1
    exact lv_icmp_gt hx hb hd (jmp_of ho2) (fun q => absurd ((a_lt hy1 hx1).mp q) hc) (fun _ => kk ls h6)

theorem s_if_icmp_le {off : Int} (hxb : CT → p.tables.exec = Jvm.exec ∧ c.code = cc) (hd : decode cc pc = .ok (.if_icmp .le off, len)) (ho : okI pc (.if_icmp .le off) len = true) (h : stp oo K md mi (.if_icmp .le off) len pc l st S k = some rv) (hk : ∀ (pc : Nat) (l : Lc) (st : List V) (S : SD), k pc l st S = some rv → SM CT p lc e R s m args below meth c Q G L xs md N0 U0 nL rv pc l st S) : SM CT p lc e R s m args below meth c Q G L xs md N0 U0 nL rv pc l st S := by
  obtain ⟨ho1, ho2⟩ := ko ho
  cases len_of (n := 3) ho1
  obtain ⟨x, y, r, hst, h9⟩ := p2_spec h
  subst hst
  replace h := h9
  simp only [cnd] at h
  by_cases hc : y < x
  · rw [if_pos hc] at h
    refine SM_pure (hk _ _ _ _ h) (fun hl hs => ⟨hl, (oks (oks hs).2).2⟩) (fun ct hl hs H locs ls a a2 h6 kk => ?_)
    obtain ⟨hx, hb⟩ := hxb ct
    have hy1 : r32 y := (oks hs).1
    have hx1 : r32 x := (oks (oks hs).2).1
    exact lv_icmp_le hx hb hd (jmp_of ho2) (fun q => absurd ((a_le hx1 hy1).mp q) (by omega)) (fun _ => kk ls h6)
  · rw [if_neg hc] at h
    refine SM_pure (hk _ _ _ _ h) (fun hl hs => ⟨hl, (oks (oks hs).2).2⟩) (fun ct hl hs H locs ls a a2 h6 kk => ?_)
    obtain ⟨hx, hb⟩ := hxb ct
    have hy1 : r32 y := (oks hs).1
    have hx1 : r32 x := (oks (oks hs).2).1
    exact lv_icmp_le hx hb hd (jmp_of ho2) (fun _ => kk ls h6) (fun q => absurd ((a_le hx1 hy1).mpr (by omega)) q)

theorem s_ifnull {off : Int} (hxb : CT → p.tables.exec = Jvm.exec ∧ c.code = cc) (hd : decode cc pc = .ok (.ifnull off, len)) (ho : okI pc (.ifnull off) len = true) (h : stp oo K md mi (.ifnull off) len pc l st S k = some rv) (hk : ∀ (pc : Nat) (l : Lc) (st : List V) (S : SD), k pc l st S = some rv → SM CT p lc e R s m args below meth c Q G L xs md N0 U0 nL rv pc l st S) : SM CT p lc e R s m args below meth c Q G L xs md N0 U0 nL rv pc l st S := by
  obtain ⟨ho1, ho2⟩ := ko ho
  cases len_of (n := 3) ho1
  simp only [stp, pN] at h
  split at h
  · refine SM_pure (hk _ _ _ _ h) (fun hl hs => ⟨hl, (oks hs).2⟩) (fun ct hl hs H locs ls a a2 h6 kk => ?_)
    obtain ⟨hx, hb⟩ := hxb ct
    exact lv_ifnull hx hb hd (kk ls h6)
  · refine SM_pure (hk _ _ _ _ h) (fun hl hs => ⟨hl, (oks hs).2⟩) (fun ct hl hs H locs ls a a2 h6 kk => ?_)
    obtain ⟨hx, hb⟩ := hxb ct
    exact lv_ifnullN hx hb hd (jmp_of ho2) (kk ls h6)
  · cases h

theorem s_ifnonnull {off : Int} (hxb : CT → p.tables.exec = Jvm.exec ∧ c.code = cc) (hd : decode cc pc = .ok (.ifnonnull off, len)) (ho : okI pc (.ifnonnull off) len = true) (h : stp oo K md mi (.ifnonnull off) len pc l st S k = some rv) (hk : ∀ (pc : Nat) (l : Lc) (st : List V) (S : SD), k pc l st S = some rv → SM CT p lc e R s m args below meth c Q G L xs md N0 U0 nL rv pc l st S) : SM CT p lc e R s m args below meth c Q G L xs md N0 U0 nL rv pc l st S := by
  obtain ⟨ho1, ho2⟩ := ko ho
  cases len_of (n := 3) ho1
  simp only [stp, pN] at h
  split at h
  · refine SM_pure (hk _ _ _ _ h) (fun hl hs => ⟨hl, (oks hs).2⟩) (fun ct hl hs H locs ls a a2 h6 kk => ?_)
    obtain ⟨hx, hb⟩ := hxb ct
    exact lv_ifnonnull hx hb hd (jmp_of ho2) (kk ls h6)
  · refine SM_pure (hk _ _ _ _ h) (fun hl hs => ⟨hl, (oks hs).2⟩) (fun ct hl hs H locs ls a a2 h6 kk => ?_)
    obtain ⟨hx, hb⟩ := hxb ct
    exact lv_ifnonnullN hx hb hd (kk ls h6)
  · cases h

theorem swk_spec {x : Int} {d : Option RR} {f : Int → Option RR} : ∀ (lo : Int) (os : List Int), swk x d f lo os = some rv → (∃ i : Nat, ∃ o : Int, os[i]? = some o ∧ x = lo + i ∧ f o = some rv) ∨ ((x < lo ∨ lo + os.length ≤ x) ∧ d = some rv)
  | lo, [], h => Or.inr ⟨by simp; omega, h⟩
  | lo, o :: t, h => by
    unfold swk at h
    by_cases hc : x = lo
    · rw [if_pos hc] at h
      exact Or.inl ⟨0, o, rfl, by simp [hc], h⟩
    · rw [if_neg hc] at h
      rcases swk_spec (lo + 1) t h with ⟨i, q, h1, h2, h3⟩ | ⟨h1, h2⟩
      · exact Or.inl ⟨i + 1, q, by simpa using h1, by rw [h2]; push_cast; omega, h3⟩
      · exact Or.inr ⟨by simp only [List.length_cons]; push_cast; omega, h2⟩
theorem s_tableswitch {d lo hi : Int} {offs : Array Int} (hxb : CT → p.tables.exec = Jvm.exec ∧ c.code = cc) (hd : decode cc pc = .ok (.tableswitch d lo hi offs, len)) (ho : okI pc (.tableswitch d lo hi offs) len = true) (h : stp oo K md mi (.tableswitch d lo hi offs) len pc l st S k = some rv) (hk : ∀ (pc : Nat) (l : Lc) (st : List V) (S : SD), k pc l st S = some rv → SM CT p lc e R s m args below meth c Q G L xs md N0 U0 nL rv pc l st S) : SM CT p lc e R s m args below meth c Q G L xs md N0 U0 nL rv pc l st S := by
  obtain ⟨ho1, ho2⟩ := ko ho
  obtain ⟨ho2, ho3⟩ := ko ho2
  have ho3 := of_decide_eq_true ho3
  obtain ⟨x, r, hst, h9⟩ := p1_spec h
  subst hst
  replace h := h9
  rcases swk_spec lo offs.toList h with ⟨i, q, h1, h2, h⟩ | ⟨h1, h⟩
  · refine SM_pure (hk _ _ _ _ h) (fun hl hs => ⟨hl, (oks hs).2⟩) (fun ct hl hs H locs ls a a2 h6 kk => ?_)
    obtain ⟨hx, hb⟩ := hxb ct
    have hx1 : (Int32.ofInt x).toInt = x := i32_to (oks hs).1
    have hi := (List.getElem?_eq_some_iff.mp h1).1
    exact lv_tableIn (off := q) hx hb hd (by rw [hx1]; omega) (by rw [hx1]; omega) (by rw [hx1, show (x - lo).toNat = i by omega, ← Array.getElem?_toList]; exact h1) (jmp_of (List.all_eq_true.mp ho2 q (List.mem_of_getElem? h1))) (kk ls h6)
  · refine SM_pure (hk _ _ _ _ h) (fun hl hs => ⟨hl, (oks hs).2⟩) (fun ct hl hs H locs ls a a2 h6 kk => ?_)
    obtain ⟨hx, hb⟩ := hxb ct
    have hx1 : (Int32.ofInt x).toInt = x := i32_to (oks hs).1
    exact lv_tableOut hx hb hd (by rw [hx1]; omega) (jmp_of ho1) (kk ls h6)
end
