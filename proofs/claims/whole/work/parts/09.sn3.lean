section
variable {CT : Prop} {p : Program} {lc : Launch} {e : Env} {R : Room} {s : State} {m : MethodId} {args : Array Value} {below : List Frame} {meth : Method} {c : Code} {Q : State → Prop} {G : GE} {L : Nat} {xs : Nat → Int32} {md : Bool} {N0 U0 nL : Nat} {rv : RR} {cc : ByteArray} {pc pc' len own : Nat} {l l' : Lc} {st st' : List V} {S S' : SD} {K : KT} {mi : MI} {k : Nat → Lc → List V → SD → Option RR}

theorem ord_kind {S : SD} {f j : Nat} (h : live S (f, j)) : fk f ≠ 0 ∧ fk f ≠ 1 := by
  have hf : 2 ≤ f := h.1
  have key : ∀ f, f < 200 → 2 ≤ f → fk f ≠ 0 ∧ fk f ≠ 1 := by decide +kernel
  by_cases h2 : f < 200
  · exact key f h2 hf
  · have : fk f = 99 := by
      unfold fk
      have hb : ∀ n, n ≤ 171 → Nat.blt f n = false := fun n hn => by rw [← Bool.not_eq_true, Nat.blt_eq]; omega
      simp only [hb, Nat.reduceLeDiff, cond_false]
    rw [this]; decide

theorem tv_fits {t : FieldType} {v : V} (h : (t = .int ∧ ∃ x, v = .inl x) ∨ (t = .boolean ∧ ∃ x, v = .inl x ∧ (x = 0 ∨ x = 1)) ∨ (t = .long ∧ ∃ x, v = .inr (.inl x)) ∨ (isR t = true ∧ ∃ q, v = .inr (.inr q))) : narrow t (tv G v) = tv G v ∧ fits t (tv G v) = true := by
  rcases h with ⟨rfl, x, rfl⟩ | ⟨rfl, x, rfl, hx⟩ | ⟨rfl, x, rfl⟩ | ⟨hr, q, rfl⟩
  · exact ⟨rfl, rfl⟩
  · rcases hx with rfl | rfl <;> exact ⟨rfl, rfl⟩
  · exact ⟨rfl, rfl⟩
  · refine isR_fit hr ?_
    cases q with
    | none => exact Or.inl rfl
    | some g => exact Or.inr ⟨_, rfl⟩
/-- writing a field, whatever it holds -/
theorem putrow {n f j ci kq ty fin : Nat} {z : Int} {v : V} {r : List V} {H : Heap} {locs : List Loc} {ls : Array Slot} {a b : Nat} (C0 : Cx p R s m args c G L xs N0 nL own cc) (hp : pwd own n (0, ci, kq, ty, fin, z)) (hd : decode cc pc = .ok (.putfield n, 3)) (ho : isObj f ci = true) (hl : live S (f, j)) (hP : va_P G.2.2.2.1 vwCl (wl G S) H) (hS : va_S (fun q => G.1 ≤ q) s.heap H locs)
    (hfin : fin = 0 ∨ (meth.name = "<init>" ∧ cnm ci = cnm own)) (ht : (cty ci kq = .int ∧ ∃ x, v = .inl x) ∨ (cty ci kq = .boolean ∧ ∃ x, v = .inl x ∧ (x = 0 ∨ x = 1)) ∨ (cty ci kq = .long ∧ ∃ x, v = .inr (.inl x)) ∨ (isR (cty ci kq) = true ∧ ∃ q, v = .inr (.inr q)))
    (hN : S'.2.2.1 = S.2.2.1) (ho2 : ∀ h : Nat × Nat, h ≠ (f, j) → S'.1 h.1 h.2 = S.1 h.1 h.2 ∧ S'.2.1 h.1 h.2 = S.2.1 h.1 h.2) (ho3 : ∀ i, i ≠ kq → S'.1 f j i = S.1 f j i ∧ S'.2.1 f j i = S.2.1 f j i) (hv : fld S' (f, j) ty kq = v)
    (kk : ∀ (H1 : Heap) (locs1 : List Loc), va_P G.2.2.2.1 vwCl (wl G S') H1 → va_S (fun q => G.1 ≤ q) s.heap H1 locs1 → W p lc e R s m args below meth c H1 locs1 a b Q (F0 m (pc + 3) ls (r.map (tv G)))) : W p lc e R s m args below meth c H locs a b Q (F0 m pc ls (tv G v :: .ref (ad G (f, j)) :: r.map (tv G))) := by
  obtain ⟨hx, hb, hml, hown, hts, hK, hX, hbl, hbg, hs0⟩ := C0
  obtain ⟨p1, p2, p3, p4, p5, p6, p7⟩ := hp
  obtain ⟨o1, rfl⟩ := isObj_spec ho
  have he := wl_at (G := G) hl
  rw [en_obj o1] at he
  obtain ⟨f1, f2⟩ := tv_fits (G := G) ht
  have hlen : kq < (flds G S (f, j)).length := by simp [flds]; exact p2
  have hset : (wl G S).set (numF f j) (ad G (f, j), .inr (fc f, (flds G S (f, j)).set kq (tv G v))) = wl G S' := by
    rw [← wl_set (g := (f, j)) hl hN ho2, en_obj o1, ← hv, p3, flds_set (S' := S') (g := (f, j)) p2 ho3]
  have fin' : ∀ (H1 : Heap) (locs1 : List Loc), va_P G.2.2.2.1 vwCl ((wl G S).set (numF f j) (ad G (f, j), .inr (fc f, (flds G S (f, j)).set kq (tv G v)))) H1 → va_D (fun q => G.1 ≤ q) ((wl G S).set (numF f j) (ad G (f, j), .inr (fc f, (flds G S (f, j)).set kq (tv G v)))) → va_S (fun q => G.1 ≤ q) s.heap H1 locs1 → W p lc e R s m args below meth c H1 locs1 a b Q (F0 m (pc + 3) ls (r.map (tv G))) := by
    intro H1 locs1 g1 _ g3
    rw [hset] at g1
    exact kk H1 locs1 g1 g3
  by_cases hf : fin = 0
  · subst hf
    exact va_put (C := cnm (fc f)) (T := cT (fc f)) (N := nf (fc f)) (ref := cnm (fc f)) hx hb hts p7 (cty (fc f)) (cty_ok _ p1) (cnm_ok _ p1) hown hK hP (wl_D G S) hS _ he (cl_at _ p1) kq p2 (hts _ p6) (fun x hx => by rw [p5] at hx; exact hx) (by rw [p4]; rfl) (cty_ok _ p1 kq p2) f1 f2 hlen hd fin'
  · obtain ⟨i1, i2⟩ := hfin.resolve_left hf
    exact va_putF (C := cnm (fc f)) (T := cT (fc f)) (N := nf (fc f)) (ref := cnm (fc f)) hx hb hts p7 (cty (fc f)) (cty_ok _ p1) (cnm_ok _ p1) hown hK hP (wl_D G S) hS _ he (cl_at _ p1) kq p2 (hts _ p6) (fun x hx => by rw [p5] at hx; exact hx) (by rw [p4, nbq]; simpa using hf) i1 (by rw [p5]; exact i2) (cty_ok _ p1 kq p2) f1 f2 hlen hd fin'
theorem s_putfield {n : Nat} (C0 : CT → Cx p R s m args c G L xs N0 nL own cc) (hw : ∀ q, mi.2.1 n = some q → pwd own n q) (hini : CT → mi.2.2.2.2.2.1 = true → meth.name = "<init>") (hmo : mi.2.2.2.2.1 = own)
    (hd : decode cc pc = .ok (.putfield n, len)) (ho : okI pc (.putfield n) len = true) (h : stp oo K md mi (.putfield n) len pc l st S k = some rv) (hk : ∀ (pc : Nat) (l : Lc) (st : List V) (S : SD), k pc l st S = some rv → SM CT p lc e R s m args below meth c Q G L xs md N0 U0 nL rv pc l st S) : SM CT p lc e R s m args below meth c Q G L xs md N0 U0 nL rv pc l st S := by
  cases len_of (n := 3) ho
  simp only [stp] at h
  split at h
  · next v f j r =>
    split at h
    · next ci kq ty fin z e1 =>
      have hp := hw _ e1
      obtain ⟨hob, h⟩ := bif_spec h
      obtain ⟨hob, hfi⟩ := ko hob
      obtain ⟨o1, o2⟩ := isObj_spec hob
      have hlive : (∀ w ∈ (v :: .inr (.inr (some (f, j))) :: r : List V), vok S w) → live S (f, j) := fun hs => live_of (oks (oks hs).2).1 (by rw [o1]; decide) (by rw [o1]; decide)
      have hfin : CT → fin = 0 ∨ (meth.name = "<init>" ∧ cnm ci = cnm own) := by
        intro ct
        by_cases hf : fin = 0
        · exact Or.inl hf
        · rw [show Nat.beq fin 0 = false by rw [nbq]; simpa using hf] at hfi
          obtain ⟨g1, g2⟩ := ko hfi
          exact Or.inr ⟨hini ct g1, by rw [← hmo, Nat.eq_of_beq_eq_true g2]⟩
      have hwd : ∀ (x : Int), ty ≠ 3 → (∀ i, i ≠ kq → (wD S f j kq x).1 f j i = S.1 f j i ∧ (wD S f j kq x).2.1 f j i = S.2.1 f j i) := fun x _ i hi => ⟨by rw [wD_at, if_neg hi], rfl⟩
      have hlg : (ty = 2 → lgt f kq = true) ∧ (ty ≠ 2 → lgt f kq = false) := by
        constructor
        · intro h2; unfold lgt; rw [o1, o2, ← hp.2.2.1, h2]; rfl
        · intro h2; unfold lgt; rw [o1, o2, ← hp.2.2.1]; show (false || (true && Nat.beq ty 2)) = false; rw [nbq]; simpa using h2
      have keyD : ∀ (x : Int), (ty = 0 ∧ v = .inl x) ∨ (ty = 1 ∧ v = .inl x ∧ (x = 0 ∨ x = 1)) ∨ (ty = 2 ∧ v = .inr (.inl x)) → k (pc + 3) l r (wD S f j kq x) = some rv → SM CT p lc e R s m args below meth c Q G L xs md N0 U0 nL rv pc l (v :: .inr (.inr (some (f, j))) :: r) S := by
        intro x hv h
        have t3 : ty ≠ 3 := by rcases hv with q | q | q <;> omega
        refine SM_heap (hk _ _ _ _ h) ⟨rfl, rfl⟩ (fun hdi hl hs => ⟨DI_wD hdi (hlive hs) (fun q => ?_) (fun q => ?_), hl, (oks (oks hs).2).2⟩) (fun ct hdi hl hs H locs ls a b hP hS h6 kk => ?_)
        · have hv1 := (oks hs).1
          rcases hv with ⟨q1, rfl⟩ | ⟨q1, rfl, -⟩ | ⟨q1, rfl⟩
          · exact r32_64 hv1
          · exact r32_64 hv1
          · exact hv1
        · have hv1 := (oks hs).1
          rcases hv with ⟨q1, rfl⟩ | ⟨q1, rfl, -⟩ | ⟨q1, rfl⟩
          · exact hv1
          · exact hv1
          · rw [hlg.1 q1] at q; cases q
        · refine putrow (S' := wD S f j kq x) (C0 ct) hp hd hob (hlive hs) hP hS (hfin ct) ?_ rfl (fun h hh => wD_ne hh) (hwd x t3) ?_ (fun H1 locs1 g1 g2 => kk H1 locs1 ls g1 g2 h6)
          · rcases hv with ⟨q1, rfl⟩ | ⟨q1, rfl, q2⟩ | ⟨q1, rfl⟩
            · exact Or.inl ⟨ft_0 hp.1 hp.2.1 (hp.2.2.1 ▸ q1), _, rfl⟩
            · exact Or.inr (Or.inl ⟨ft_1 hp.1 hp.2.1 (hp.2.2.1 ▸ q1), _, rfl, q2⟩)
            · exact Or.inr (Or.inr (Or.inl ⟨ft_2 hp.1 hp.2.1 (hp.2.2.1 ▸ q1), _, rfl⟩))
          · rcases hv with ⟨q1, rfl⟩ | ⟨q1, rfl, q2⟩ | ⟨q1, rfl⟩
            · subst q1; show vi ((wD S f j kq x).1 f j kq) = _; rw [wD_at, if_pos rfl]
            · subst q1; show vi ((wD S f j kq x).1 f j kq) = _; rw [wD_at, if_pos rfl]
            · subst q1; show vl ((wD S f j kq x).1 f j kq) = _; rw [wD_at, if_pos rfl]
      have keyR : ∀ (q : Option (Nat × Nat)), ty = 3 → okp q = true → v = .inr (.inr q) → (md = false → tR f j kq = none) → k (pc + 3) l r (wR S f j kq q) = some rv → SM CT p lc e R s m args below meth c Q G L xs md N0 U0 nL rv pc l (v :: .inr (.inr (some (f, j))) :: r) S := by
        intro q t3 hok hv ht h8
        subst hv
        refine SM_heap (hk _ _ _ _ h8) ⟨rfl, rfl⟩ (fun hdi hl hs => ⟨DI_wR hdi (hlive hs) (fun g hg => ?_) ht, hl, (oks (oks hs).2).2⟩) (fun ct hdi hl hs H locs ls a b hP hS h6 kk => ?_)
        · subst hg
          rcases (oks hs).1 with h1 | h1 | h1
          · subst h1; cases hok
          · obtain ⟨g1, g2⟩ := g
            have : g1 = 1 := h1.1
            subst this; cases hok
          · exact h1
        · refine putrow (S' := wR S f j kq q) (C0 ct) hp hd hob (hlive hs) hP hS (hfin ct) (Or.inr (Or.inr (Or.inr ⟨ft_3 hp.1 hp.2.1 (hp.2.2.1 ▸ t3), _, rfl⟩))) rfl (fun h hh => wR_ne hh) (fun i hi => ⟨rfl, by rw [wR_at, if_neg hi]⟩) ?_ (fun H1 locs1 g1 g2 => kk H1 locs1 ls g1 g2 h6)
          subst t3
          show vr ((wR S f j kq q).2.1 f j kq) = _
          rw [wR_at, if_pos rfl]
      rcases v with x | x | q
      · dsimp only at h
        by_cases t0 : ty = 0
        · subst t0
          exact keyD x (Or.inl ⟨rfl, rfl⟩) h
        · rw [show Nat.beq ty 0 = false by rw [nbq]; simpa using t0, cond_false] at h
          obtain ⟨t1, h⟩ := bif_spec h
          obtain ⟨hx, h⟩ := if_spec h
          exact keyD x (Or.inr (Or.inl ⟨Nat.eq_of_beq_eq_true t1, rfl, hx⟩)) h
      · dsimp only at h
        obtain ⟨t2, h⟩ := bif_spec h
        exact keyD x (Or.inr (Or.inr ⟨Nat.eq_of_beq_eq_true t2, rfl⟩)) h
      · dsimp only at h
        obtain ⟨t3, h⟩ := bif_spec h
        obtain ⟨t3, hok⟩ := ko t3
        cases hmd : md with
        | true =>
          subst hmd
          exact keyR q (Nat.eq_of_beq_eq_true t3) hok rfl (fun z => by cases z) h
        | false =>
          subst hmd
          simp only [cond_false] at h
          split at h
          · cases h
          · next e2 => exact keyR q (Nat.eq_of_beq_eq_true t3) hok rfl (fun _ => e2) h
    · cases h
  · cases h

theorem bnd_spec {f : Nat} {i : Int} {x : Option RR} (h : bndI S f i x = some rv) : (fk f = 0 ∧ (0 ≤ i ∧ i < gD S 0 1 0) ∧ x = some rv) ∨ (fk f ≠ 0 ∧ (0 ≤ i ∧ i < fn f) ∧ x = some rv) := by
  unfold bndI at h
  by_cases h0 : fk f = 0
  · rw [show Nat.beq (fk f) 0 = true by rw [h0]; rfl, cond_true] at h
    obtain ⟨a, b⟩ := if_spec h
    exact Or.inl ⟨h0, a, b⟩
  · rw [show Nat.beq (fk f) 0 = false by rw [nbq]; simpa using h0, cond_false] at h
    obtain ⟨a, b⟩ := if_spec h
    exact Or.inr ⟨h0, a, b⟩
theorem fn_in {f : Nat} {i : Int} (h : 0 ≤ i ∧ i < fn f) (hi : r32 i) : vp_in (Int32.ofInt i) (fn f).toNat := a_in ⟨h.1, by omega⟩ hi
theorem s_iaload (C0 : CT → Cx p R s m args c G L xs N0 nL own cc)
    (hd : decode cc pc = .ok (.iaload, len)) (ho : okI pc (.iaload) len = true) (h : stp oo K md mi (.iaload) len pc l st S k = some rv) (hk : ∀ (pc : Nat) (l : Lc) (st : List V) (S : SD), k pc l st S = some rv → SM CT p lc e R s m args below meth c Q G L xs md N0 U0 nL rv pc l st S) : SM CT p lc e R s m args below meth c Q G L xs md N0 U0 nL rv pc l st S := by
  cases len_of (n := 1) ho
  obtain ⟨i, r, hst, h9⟩ := p1_spec h
  subst hst
  replace h := h9
  obtain ⟨f, j, r, hst, h7⟩ := pR_spec h
  subst hst
  replace h := h7
  obtain ⟨hkd, h⟩ := bif_spec h
  rcases bnd_spec h with ⟨h0, hin, h⟩ | ⟨h0, hin, h⟩
  · have hf : (∀ v ∈ (.inl i :: .inr (.inr (some (f, j))) :: r : List V), vok S v) → (f, j) = (0, 0) := by
      intro hs
      rcases (oks (oks hs).2).1 with q | q | q
      · exact q
      · have q1 : f = 1 := q.1
        subst q1
        cases h0
      · exact absurd h0 (ord_kind q).1
    refine SM_heap (hk _ _ _ _ h) ⟨rfl, rfl⟩ (fun hdi hl hs => ⟨hdi, hl, okc ((hdi.1 f j _).2 (by unfold lgt; rw [h0]; rfl)) (oks (oks hs).2).2⟩) (fun ct hdi hl hs H locs ls a b hP hS h6 kk => ?_)
    obtain ⟨hx, hb, hml, hown, hts, hK, hX, hbl, hbg, hs0⟩ := C0 ct
    have e0 := hf hs
    cases e0
    have hi := (oks hs).1
    have hlt : i.toNat < L := by have := hdi.2.2.2.2.1.2; unfold gD at hin; omega
    refine va_sld hx hb hX hbl (by show ¬ G.1 ≤ G.2.1; omega) hS (a_in (n := L) ⟨hin.1, by have := hdi.2.2.2.2.1.2; unfold gD at hin; omega⟩ hi) hd ?_
    have := kk H locs ls hP hS h6
    rw [List.map_cons] at this
    show W p lc e R s m args below meth c H locs a b Q (F0 m (pc + 1) ls (.int (xs (Int32.ofInt i).toNatClampNeg) :: r.map (tv G)))
    rw [a_nat hin.1 hi]
    have e1 : tv G (vi (gD S 0 0 i.toNat)) = .int (xs i.toNat) := by
      show Value.int (Int32.ofInt (S.1 0 0 i.toNat)) = _
      rw [hdi.2.2.2.2.1.1 _ hlt, Int32.ofInt_toInt]
    rw [e1] at this
    exact this
  · have h3 : fk f = 3 := by
      rw [nbq, nbq] at hkd
      simp at hkd
      rcases hkd with q | q
      · exact q
      · exact absurd q h0
    refine SM_heap (hk _ _ _ _ h) ⟨rfl, rfl⟩ (fun hdi hl hs => ⟨hdi, hl, okc ((hdi.1 f j _).2 (by unfold lgt; rw [h3]; rfl)) (oks (oks hs).2).2⟩) (fun ct hdi hl hs H locs ls a b hP hS h6 kk => ?_)
    obtain ⟨hx, hb, hml, hown, hts, hK, hX, hbl, hbg, hs0⟩ := C0 ct
    have hl2 := live_of (oks (oks hs).2).1 h0 (by rw [h3]; decide)
    have hi := (oks hs).1
    have he := wl_at (G := G) hl2
    rw [en_int h3 (by decide) (by decide) (by decide)] at he
    refine va_iald hx hb hK hP _ 0 he rfl (fn_in hin hi) hd ?_
    rw [a_nat hin.1 hi]
    exact kk H locs ls hP hS h6

end
