/-! names of classes by number; what the pools' entries need -/
def cnm (c : Nat) : String := (vwCl.map (·.1)).getD c RL
def cT (c : Nat) : u_T := (vwCl.map (·.2.1)).getD c (fun _ => ("", "", "", false))
def cty (c : Nat) : Nat → FieldType := [tyX0, tyX1, tyX2, tyX3, tyX4, tyX5, tyX6, tyX7, tyX8, tyX9, tyX10, tyX11, tyX12].getD c (fun _ => .int)
theorem lt13 {P : Nat → Prop} (h0 : P 0) (h1 : P 1) (h2 : P 2) (h3 : P 3) (h4 : P 4) (h5 : P 5) (h6 : P 6) (h7 : P 7) (h8 : P 8) (h9 : P 9) (h10 : P 10) (h11 : P 11) (h12 : P 12) : ∀ c, c < 13 → P c
  | 0, _ => h0
  | 1, _ => h1
  | 2, _ => h2
  | 3, _ => h3
  | 4, _ => h4
  | 5, _ => h5
  | 6, _ => h6
  | 7, _ => h7
  | 8, _ => h8
  | 9, _ => h9
  | 10, _ => h10
  | 11, _ => h11
  | 12, _ => h12
  | n + 13, h => absurd h (by omega)
theorem cl_at : ∀ c, c < 13 → vwCl[c]? = some (cnm c, cT c, nf c) := lt13 rfl rfl rfl rfl rfl rfl rfl rfl rfl rfl rfl rfl rfl
theorem cty_ok : ∀ c, c < 13 → ∀ k, k < nf c → parseFieldDescriptor (cT c k).2.2.1 = some (cty c k) := lt13 tyX0_ok tyX1_ok tyX2_ok tyX3_ok tyX4_ok tyX5_ok tyX6_ok tyX7_ok tyX8_ok tyX9_ok tyX10_ok tyX11_ok tyX12_ok
theorem cnm_ok : ∀ c, c < 13 → ∀ a, a < nf c → ∀ b, b < nf c → a ≠ b → (cT c a).2.1 ≠ (cT c b).2.1 := lt13 nmX0 nmX1 nmX2 nmX3 nmX4 nmX5 nmX6 nmX7 nmX8 nmX9 nmX10 nmX11 nmX12
def isR : FieldType → Bool
  | .object _ => true
  | .array _ => true
  | _ => false
def ftq (c k : Nat) : Bool := match cty c k with
  | .int => Nat.beq (fty c k) 0
  | .boolean => Nat.beq (fty c k) 1
  | .long => Nat.beq (fty c k) 2
  | .object _ => Nat.beq (fty c k) 3
  | .array _ => Nat.beq (fty c k) 3
  | _ => false
theorem ftq_ok : ∀ c, c < 13 → ∀ k, k < nf c → ftq c k = true := by decide +kernel
theorem ft_0 {c k : Nat} (hc : c < 13) (hk : k < nf c) (h : fty c k = 0) : cty c k = .int := by
  have := ftq_ok c hc k hk
  unfold ftq at this
  rw [h] at this
  split at this <;> first | assumption | cases this
theorem ft_1 {c k : Nat} (hc : c < 13) (hk : k < nf c) (h : fty c k = 1) : cty c k = .boolean := by
  have := ftq_ok c hc k hk
  unfold ftq at this
  rw [h] at this
  split at this <;> first | assumption | cases this
theorem ft_2 {c k : Nat} (hc : c < 13) (hk : k < nf c) (h : fty c k = 2) : cty c k = .long := by
  have := ftq_ok c hc k hk
  unfold ftq at this
  rw [h] at this
  split at this <;> first | assumption | cases this
theorem ft_3 {c k : Nat} (hc : c < 13) (hk : k < nf c) (h : fty c k = 3) : isR (cty c k) = true := by
  have := ftq_ok c hc k hk
  unfold ftq at this
  rw [h] at this
  split at this <;> first | (rename_i e; rw [e]; rfl) | cases this
theorem isR_fit {t : FieldType} {v : Value} (h : isR t = true) (hv : v = .null ∨ ∃ a, v = .ref a) : narrow t v = v ∧ fits t v = true := by
  unfold isR at h
  split at h
  · rcases hv with rfl | ⟨a, rfl⟩ <;> exact ⟨rfl, rfl⟩
  · rcases hv with rfl | ⟨a, rfl⟩ <;> exact ⟨rfl, rfl⟩
  · cases h
def pwd (c idx : Nat) : PE → Prop
  | (0, ci, k, ty, fin, _) => ci < 13 ∧ k < nf ci ∧ ty = fty ci k ∧ (cT ci k).2.2.2 = !(Nat.beq fin 0) ∧ (cT ci k).1 = cnm ci ∧ (Cond.fieldLink (cnm c) idx (cnm ci) (cT ci k).2.1 (cT ci k).2.2.1) ∈ TBL ∧ ∀ w ∈ u_ws (cnm ci) (cT ci) (nf ci), w ∈ TBL
  | (2, 0, _, _, _, _) => (Cond.methodLink (cnm c) idx Lib.objectInit) ∈ TBL ∧ (Cond.instanceMethod Lib.objectInit) ∈ TBL ∧ (Cond.code Lib.objectInit ⟨#[0xb1]⟩ 1 none) ∈ TBL
  | (2, 1, _, _, _, _) => (Cond.methodLink (cnm c) idx Lib.Math.max.name) ∈ TBL ∧ (Cond.static Lib.Math.max.name) ∈ TBL ∧ (Cond.initialized "java/lang/Math") ∈ TBL ∧ (Cond.code Lib.Math.max.name Lib.Math.max.code 2 (some .int)) ∈ TBL
  | (2, 2, _, _, _, _) => (Cond.methodLink (cnm c) idx Lib.Math.min.name) ∈ TBL ∧ (Cond.static Lib.Math.min.name) ∈ TBL ∧ (Cond.initialized "java/lang/Math") ∈ TBL ∧ (Cond.code Lib.Math.min.name Lib.Math.min.code 2 (some .int)) ∈ TBL
  | (2, 3, _, _, _, _) => (Cond.methodLink (cnm c) idx arraycopyName) ∈ TBL ∧ (Cond.native arraycopyName) ∈ TBL ∧ (Cond.static arraycopyName) ∈ TBL ∧ (Cond.initialized "java/lang/System") ∈ TBL
  | (3, ci, _, _, _, _) => ci < 13 ∧ (Cond.classLink (cnm c) idx (cnm ci)) ∈ TBL ∧ (Cond.instantiable (cnm ci) (nf ci)) ∈ TBL ∧ (Cond.initialized (cnm ci)) ∈ TBL ∧ ∀ w ∈ u_ws (cnm ci) (cT ci) (nf ci), w ∈ TBL
  | (4, _, _, _, _, v) => r32 v ∧ (Cond.constant (cnm c) idx (Int32.ofInt v)) ∈ TBL
  | (5, _, _, _, _, v) => r64 v ∧ (Cond.constantLong (cnm c) idx (Int64.ofInt v)) ∈ TBL
  | _ => True
def Cx (p : Program) (R : Room) (s : State) (m : MethodId) (args : Array Value) (c : Code) (G : GE) (L : Nat) (xs : Nat → Int32) (N0 nL own : Nat) (cc : ByteArray) : Prop :=
  p.tables.exec = Jvm.exec ∧ c.code = cc ∧ c.maxLocals = nL ∧ s.vm.findClass (cnm own) = some m.cls ∧ (∀ w ∈ TBL, w.before args s = true) ∧ va_K G.2.2.2.1 vwCl (tyl G) s ∧ va_X G.2.1 L xs s s.heap ∧ G.2.1 < s.heap.size ∧ G.2.1 < G.1 ∧ s.heap.size = G.1 + N0
theorem isObj_spec {f ci : Nat} (h : isObj f ci = true) : fk f = 2 ∧ fc f = ci := by
  unfold isObj at h
  obtain ⟨h1, h2⟩ := ko h
  exact ⟨Nat.eq_of_beq_eq_true h1, Nat.eq_of_beq_eq_true h2⟩
theorem live_of {S : SD} {f j : Nat} (h : vok S (.inr (.inr (some (f, j))))) (h0 : fk f ≠ 0) (h1 : fk f ≠ 1) : live S (f, j) := by
  rcases h with h | h | h
  · cases h; exact absurd rfl h0
  · have e : f = 1 := h.1
    subst e; exact absurd rfl h1
  · exact h
theorem en_obj {G : GE} {S : SD} {f j : Nat} (h : fk f = 2) : en G S (f, j) = .inr (fc f, flds G S (f, j)) := by
  unfold en; rw [if_pos h]
theorem en_lng {G : GE} {S : SD} {f j : Nat} (h : fk f = 6) : en G S (f, j) = .inl (G.2.2.2.2 6, (fn f).toNat, .inr (.inl fun k => Int64.ofInt (S.1 f j k))) := by
  unfold en
  have h' : fk (f, j).1 = 6 := h
  rw [if_neg (by rw [h']; decide), if_pos h']
theorem en_ref {G : GE} {S : SD} {f j : Nat} (h : fk f = 7) : en G S (f, j) = .inl (G.2.2.2.2 7, (fn f).toNat, .inr (.inr (.inr (.inr fun k => (S.2.1 f j k).map (ad G))))) := by
  unfold en
  have h' : fk (f, j).1 = 7 := h
  rw [if_neg (by rw [h']; decide), if_neg (by rw [h']; decide), if_pos h']
theorem en_int {G : GE} {S : SD} {f j t : Nat} (h : fk f = t) (h2 : t ≠ 2) (h6 : t ≠ 6) (h7 : t ≠ 7) : en G S (f, j) = .inl (G.2.2.2.2 t, (fn f).toNat, .inl fun k => Int32.ofInt (S.1 f j k)) := by
  unfold en
  have h' : fk (f, j).1 = t := h
  rw [if_neg (by rw [h']; exact h2), if_neg (by rw [h']; exact h6), if_neg (by rw [h']; exact h7), h']
section
variable {CT : Prop} {p : Program} {lc : Launch} {e : Env} {R : Room} {s : State} {m : MethodId} {args : Array Value} {below : List Frame} {meth : Method} {c : Code} {Q : State → Prop} {G : GE} {L : Nat} {xs : Nat → Int32} {md : Bool} {N0 U0 nL : Nat} {rv : RR} {cc : ByteArray} {pc pc' len own : Nat} {l l' : Lc} {st st' : List V} {S S' : SD} {K : KT} {mi : MI} {k : Nat → Lc → List V → SD → Option RR}
/-- a step that may write to the heap, and makes nothing -/
theorem SM_heap (hn : SM CT p lc e R s m args below meth c Q G L xs md N0 U0 nL rv pc' l' st' S') (hmo : S'.2.2.1 = S.2.2.1 ∧ S'.2.2.2 = S.2.2.2) (ok : DI md L xs S → (∀ q ∈ l, vok S q.2) → (∀ v ∈ st, vok S v) → DI md L xs S' ∧ (∀ q ∈ l', vok S' q.2) ∧ (∀ v ∈ st', vok S' v))
    (row : CT → DI md L xs S → (∀ q ∈ l, vok S q.2) → (∀ v ∈ st, vok S v) → ∀ (H : Heap) (locs : List Loc) (ls : Array Slot) (a n : Nat), va_P G.2.2.2.1 vwCl (wl G S) H → va_S (fun q => G.1 ≤ q) s.heap H locs → lv_has ls nL (l.map (tp G)) → (∀ (H1 : Heap) (locs1 : List Loc) (ls' : Array Slot), va_P G.2.2.2.1 vwCl (wl G S') H1 → va_S (fun q => G.1 ≤ q) s.heap H1 locs1 → lv_has ls' nL (l'.map (tp G)) → W p lc e R s m args below meth c H1 locs1 a n Q (F0 m pc' ls' (st'.map (tv G)))) → W p lc e R s m args below meth c H locs a n Q (F0 m pc ls (st.map (tv G)))) : SM CT p lc e R s m args below meth c Q G L xs md N0 U0 nL rv pc l st S := by
  refine ⟨by rw [← hmo.1, ← hmo.2]; exact hn.1, fun hd hl hs => ?_⟩
  obtain ⟨o0, o1, o2⟩ := ok hd hl hs
  have h2 := hn.2 o0 o1 o2
  refine ⟨h2.1, fun ct a b H locs ls h3 h5 h6 => row ct hd hl hs H locs ls _ _ h3 h5 h6 (fun H1 locs1 ls' g1 g2 g3 => ?_)⟩
  have := h2.2 ct (by rw [hmo.1]; exact a) (by rw [hmo.2]; exact b) H1 locs1 ls' g1 g2 g3
  rw [hmo.1, hmo.2] at this
  exact this
theorem s_ldc {n : Nat} (C0 : CT → Cx p R s m args c G L xs N0 nL own cc) (hw : ∀ q, mi.2.1 n = some q → pwd own n q) (hstr : ∀ (j : Nat) (H : Heap) (locs : List Loc) (ls : Array Slot) (a b : Nat) (rest : List Value) (w1 w2 w3 : Nat) (w4 : Int), mi.2.1 n = some (6, j, w1, w2, w3, w4) → j < 12 ∧ (CT → W p lc e R s m args below meth c H locs a b Q (F0 m (pc + 2) ls (.ref (ad G (1, j)) :: rest)) → W p lc e R s m args below meth c H locs a b Q (F0 m pc ls rest)))
    (hd : decode cc pc = .ok (.ldc n, len)) (ho : okI pc (.ldc n) len = true) (h : stp oo K md mi (.ldc n) len pc l st S k = some rv) (hk : ∀ (pc : Nat) (l : Lc) (st : List V) (S : SD), k pc l st S = some rv → SM CT p lc e R s m args below meth c Q G L xs md N0 U0 nL rv pc l st S) : SM CT p lc e R s m args below meth c Q G L xs md N0 U0 nL rv pc l st S := by
  cases len_of (n := 2) ho
  simp only [stp] at h
  split at h
  · next a1 a2 a3 a4 v e1 =>
    have hp := hw _ e1
    refine SM_pure (hk _ _ _ _ h) (fun hl hs => ⟨hl, okc hp.1 hs⟩) (fun ct hl hs H locs ls a a2 h6 kk => ?_)
    obtain ⟨hx, hb, hml, hown, hts, hK, hX, hbl, hbg, hs0⟩ := C0 ct
    exact lv_ldc hx hb hown (hts _ hp.2) hd (kk ls h6)
  · next j a1 a2 a3 v e1 =>
    have h9 := fun (H : Heap) (locs : List Loc) (ls : Array Slot) (a b : Nat) (rest : List Value) => hstr j H locs ls a b rest _ _ _ _ e1
    refine SM_pure (hk _ _ _ _ h) (fun hl hs => ⟨hl, okc (Or.inr (Or.inl ⟨rfl, (h9 #[] [] #[] 0 0 []).1⟩)) hs⟩) (fun ct hl hs H locs ls a a2 h6 kk => ?_)
    obtain ⟨hx, hb, hml, hown, hts, hK, hX, hbl, hbg, hs0⟩ := C0 ct
    exact (h9 H locs ls a a2 _).2 ct (kk ls h6)
  · cases h
theorem s_ldc_w {n : Nat} (C0 : CT → Cx p R s m args c G L xs N0 nL own cc) (hw : ∀ q, mi.2.1 n = some q → pwd own n q)
    (hd : decode cc pc = .ok (.ldc_w n, len)) (ho : okI pc (.ldc_w n) len = true) (h : stp oo K md mi (.ldc_w n) len pc l st S k = some rv) (hk : ∀ (pc : Nat) (l : Lc) (st : List V) (S : SD), k pc l st S = some rv → SM CT p lc e R s m args below meth c Q G L xs md N0 U0 nL rv pc l st S) : SM CT p lc e R s m args below meth c Q G L xs md N0 U0 nL rv pc l st S := by
  cases len_of (n := 3) ho
  simp only [stp] at h
  split at h
  · next a1 a2 a3 a4 v e1 =>
    have hp := hw _ e1
    refine SM_pure (hk _ _ _ _ h) (fun hl hs => ⟨hl, okc hp.1 hs⟩) (fun ct hl hs H locs ls a a2 h6 kk => ?_)
    obtain ⟨hx, hb, hml, hown, hts, hK, hX, hbl, hbg, hs0⟩ := C0 ct
    exact lv_ldcw hx hb hown (hts _ hp.2) hd (kk ls h6)
  · cases h
theorem s_ldc2_w {n : Nat} (C0 : CT → Cx p R s m args c G L xs N0 nL own cc) (hw : ∀ q, mi.2.1 n = some q → pwd own n q)
    (hd : decode cc pc = .ok (.ldc2_w n, len)) (ho : okI pc (.ldc2_w n) len = true) (h : stp oo K md mi (.ldc2_w n) len pc l st S k = some rv) (hk : ∀ (pc : Nat) (l : Lc) (st : List V) (S : SD), k pc l st S = some rv → SM CT p lc e R s m args below meth c Q G L xs md N0 U0 nL rv pc l st S) : SM CT p lc e R s m args below meth c Q G L xs md N0 U0 nL rv pc l st S := by
  cases len_of (n := 3) ho
  simp only [stp] at h
  split at h
  · next a1 a2 a3 a4 v e1 =>
    have hp := hw _ e1
    refine SM_pure (hk _ _ _ _ h) (fun hl hs => ⟨hl, okc hp.1 hs⟩) (fun ct hl hs H locs ls a a2 h6 kk => ?_)
    obtain ⟨hx, hb, hml, hown, hts, hK, hX, hbl, hbg, hs0⟩ := C0 ct
    exact lv_ldc2 hx hb hown (hts _ hp.2) hd (kk ls h6)
  · cases h
/-- reading a field, whatever it holds -/
theorem getrow {n f j ci kq ty fin : Nat} {z : Int} {r : List V} {H : Heap} {locs : List Loc} {ls : Array Slot} {a b : Nat} (C0 : Cx p R s m args c G L xs N0 nL own cc) (hp : pwd own n (0, ci, kq, ty, fin, z)) (hd : decode cc pc = .ok (.getfield n, 3)) (ho : isObj f ci = true) (hl : live S (f, j)) (hP : va_P G.2.2.2.1 vwCl (wl G S) H)
    (kk : W p lc e R s m args below meth c H locs a b Q (F0 m (pc + 3) ls (tv G (fld S (f, j) ty kq) :: r.map (tv G)))) : W p lc e R s m args below meth c H locs a b Q (F0 m pc ls (.ref (ad G (f, j)) :: r.map (tv G))) := by
  obtain ⟨hx, hb, hml, hown, hts, hK, hX, hbl, hbg, hs0⟩ := C0
  obtain ⟨p1, p2, p3, p4, p5, p6, p7⟩ := hp
  obtain ⟨o1, rfl⟩ := isObj_spec ho
  have he := wl_at (G := G) hl
  rw [en_obj o1] at he
  refine va_get (C := cnm (fc f)) (T := cT (fc f)) (N := nf (fc f)) (ref := cnm (fc f)) hx hb hts p7 hown hK hP _ he (cl_at _ p1) kq p2 (hts _ p6) (fun x hx => by rw [p5] at hx; exact hx) (v := tv G (fld S (f, j) ty kq)) (by rw [p3]; exact flds_get p2) hd kk
theorem s_getfield {n : Nat} (C0 : CT → Cx p R s m args c G L xs N0 nL own cc) (hw : ∀ q, mi.2.1 n = some q → pwd own n q)
    (hd : decode cc pc = .ok (.getfield n, len)) (ho : okI pc (.getfield n) len = true) (h : stp oo K md mi (.getfield n) len pc l st S k = some rv) (hk : ∀ (pc : Nat) (l : Lc) (st : List V) (S : SD), k pc l st S = some rv → SM CT p lc e R s m args below meth c Q G L xs md N0 U0 nL rv pc l st S) : SM CT p lc e R s m args below meth c Q G L xs md N0 U0 nL rv pc l st S := by
  cases len_of (n := 3) ho
  obtain ⟨f, j, r, hst, h9⟩ := pR_spec h
  subst hst
  replace h := h9
  split at h
  · next ci kq ty fin z e1 =>
    have hp := hw _ e1
    obtain ⟨hob, h⟩ := bif_spec h
    obtain ⟨o1, o2⟩ := isObj_spec hob
    have hlive : (∀ v ∈ (.inr (.inr (some (f, j))) :: r : List V), vok S v) → live S (f, j) := fun hs => live_of (oks hs).1 (by rw [o1]; decide) (by rw [o1]; decide)
    by_cases t2 : ty = 2
    · subst t2
      simp only [Nat.beq_refl, cond_true] at h
      refine SM_heap (hk _ _ _ _ h) ⟨rfl, rfl⟩ (fun hdi hl hs => ⟨hdi, hl, okc ((hdi.1 f j kq).1 (by unfold lgt; rw [o1, o2, ← hp.2.2.1]; rfl)) (oks hs).2⟩) (fun ct hdi hl hs H locs ls a b hP hS h6 kk => ?_)
      obtain ⟨hx, hb, hml, hown, hts, hK, hX, hbl, hbg, hs0⟩ := C0 ct
      exact getrow (C0 ct) hp hd hob (hlive hs) hP (kk H locs ls hP hS h6)
    · rw [show Nat.beq ty 2 = false by rw [nbq]; simpa using t2, cond_false] at h
      by_cases t3 : ty = 3
      · subst t3
        simp only [Nat.beq_refl, cond_true] at h
        have hfld : fld S (f, j) 3 kq = vr (S.2.1 f j kq) := rfl
        have hrefs : DI md L xs S → vok S (vr (S.2.1 f j kq)) := by
          intro hdi
          cases hr : S.2.1 f j kq with
          | none => trivial
          | some g => exact Or.inr (Or.inr (hdi.2.1 f j kq g hr))
        have key : ∀ q : Option (Nat × Nat), (DI md L xs S → live S (f, j) → S.2.1 f j kq = q) → k (pc + 3) l (vr q :: r) S = some rv → SM CT p lc e R s m args below meth c Q G L xs md N0 U0 nL rv pc l (.inr (.inr (some (f, j))) :: r) S := by
          intro q hq h
          refine SM_heap (hk _ _ _ _ h) ⟨rfl, rfl⟩ (fun hdi hl hs => ⟨hdi, hl, okc (by rw [← hq hdi (hlive hs)]; exact hrefs hdi) (oks hs).2⟩) (fun ct hdi hl hs H locs ls a b hP hS h6 kk => ?_)
          obtain ⟨hx, hb, hml, hown, hts, hK, hX, hbl, hbg, hs0⟩ := C0 ct
          refine getrow (C0 ct) hp hd hob (hlive hs) hP ?_
          rw [hfld, hq hdi (hlive hs)]
          exact kk H locs ls hP hS h6
        cases hmd : md with
        | true =>
          subst hmd
          simp only [cond_true] at h
          exact key _ (fun _ _ => rfl) h
        | false =>
          subst hmd
          simp only [cond_false] at h
          split at h
          · next q e2 =>
            refine key q (fun hdi hli => hdi.2.2.2.2.2 rfl f j kq q e2 hli (fun q => ?_)) h
            exfalso
            rw [q] at o1
            cases o1
          · unfold rR at h
            split at h
            · next e3 => exact key none (fun _ _ => e3) h
            · next g i e3 =>
              obtain ⟨hg, h⟩ := if_spec h
              subst hg
              exact key _ (fun _ _ => e3) h
      · rw [show Nat.beq ty 3 = false by rw [nbq]; simpa using t3, cond_false] at h
        have hfld : fld S (f, j) ty kq = vi (S.1 f j kq) := by unfold fld; rw [if_neg t2, if_neg t3]
        refine SM_heap (hk _ _ _ _ h) ⟨rfl, rfl⟩ (fun hdi hl hs => ⟨hdi, hl, okc ((hdi.1 f j kq).2 (by unfold lgt; rw [o1, o2, ← hp.2.2.1]; show (false || (true && Nat.beq ty 2)) = false; rw [nbq]; simpa using t2)) (oks hs).2⟩) (fun ct hdi hl hs H locs ls a b hP hS h6 kk => ?_)
        obtain ⟨hx, hb, hml, hown, hts, hK, hX, hbl, hbg, hs0⟩ := C0 ct
        refine getrow (C0 ct) hp hd hob (hlive hs) hP ?_
        rw [hfld]
        exact kk H locs ls hP hS h6
  · cases h
end
