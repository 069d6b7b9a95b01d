section
variable {CT : Prop} {p : Program} {lc : Launch} {e : Env} {R : Room} {s : State} {m : MethodId} {args : Array Value} {below : List Frame} {meth : Method} {c : Code} {Q : State → Prop} {G : GE} {L : Nat} {xs : Nat → Int32} {md : Bool} {N0 U0 nL : Nat} {rv : RR} {cc : ByteArray} {pc pc' len own : Nat} {l l' : Lc} {st st' : List V} {S S' : SD} {K : KT} {mi : MI} {k : Nat → Lc → List V → SD → Option RR}

theorem s_baload (C0 : CT → Cx p R s m args c G L xs N0 nL own cc) 
    (hd : decode cc pc = .ok (.baload, len)) (ho : okI pc (.baload) len = true) (h : stp oo K md mi (.baload) len pc l st S k = some rv) (hk : ∀ (pc : Nat) (l : Lc) (st : List V) (S : SD), k pc l st S = some rv → SM CT p lc e R s m args below meth c Q G L xs md N0 U0 nL rv pc l st S) : SM CT p lc e R s m args below meth c Q G L xs md N0 U0 nL rv pc l st S := by
  cases len_of (n := 1) ho
  obtain ⟨i, r, hst, h9⟩ := p1_spec h
  subst hst
  replace h := h9
  obtain ⟨f, j, r, hst, h7⟩ := pR_spec h
  subst hst
  replace h := h7
  obtain ⟨hkd, h⟩ := bif_spec h
  rcases bnd_spec h with ⟨h0, hin, h⟩ | ⟨h0, hin, h⟩
  · rw [nbq, nbq] at hkd
    simp [h0] at hkd
  · have h3 : fk f = 4 ∨ fk f = 5 := by
      rw [nbq, nbq] at hkd
      simpa using hkd
    refine SM_heap (hk _ _ _ _ h) ⟨rfl, rfl⟩ (fun hdi hl hs => ⟨hdi, hl, okc ((hdi.1 f j _).2 (by unfold lgt; rcases h3 with h3 | h3 <;> rw [h3] <;> rfl)) (oks (oks hs).2).2⟩) (fun ct hdi hl hs H locs ls a b hP hS h6 kk => ?_)
    obtain ⟨hx, hb, hml, hown, hts, hK, hX, hbl, hbg, hs0⟩ := C0 ct
    have hl2 := live_of (oks (oks hs).2).1 h0 (by rcases h3 with h3 | h3 <;> rw [h3] <;> decide)
    have hi := (oks hs).1
    have he := wl_at (G := G) hl2
    have hk9 := kk H locs ls hP hS h6
    rcases h3 with h3 | h3
    · rw [en_int h3 (by decide) (by decide) (by decide)] at he
      refine va_zald hx hb hK hP _ 1 he rfl (fn_in hin hi) hd ?_
      rw [a_nat hin.1 hi]
      exact hk9
    · rw [en_int h3 (by decide) (by decide) (by decide)] at he
      refine va_bald hx hb hK hP _ 2 he rfl (fn_in hin hi) hd ?_
      rw [a_nat hin.1 hi]
      exact hk9

theorem s_laload (C0 : CT → Cx p R s m args c G L xs N0 nL own cc) 
    (hd : decode cc pc = .ok (.laload, len)) (ho : okI pc (.laload) len = true) (h : stp oo K md mi (.laload) len pc l st S k = some rv) (hk : ∀ (pc : Nat) (l : Lc) (st : List V) (S : SD), k pc l st S = some rv → SM CT p lc e R s m args below meth c Q G L xs md N0 U0 nL rv pc l st S) : SM CT p lc e R s m args below meth c Q G L xs md N0 U0 nL rv pc l st S := by
  cases len_of (n := 1) ho
  obtain ⟨i, r, hst, h9⟩ := p1_spec h
  subst hst
  replace h := h9
  obtain ⟨f, j, r, hst, h7⟩ := pR_spec h
  subst hst
  replace h := h7
  obtain ⟨hkd, h⟩ := bif_spec h
  rcases bnd_spec h with ⟨h0, hin, h⟩ | ⟨h0, hin, h⟩
  · rw [nbq] at hkd
    simp [h0] at hkd
  · have h3 : fk f = 6 := Nat.eq_of_beq_eq_true hkd
    refine SM_heap (hk _ _ _ _ h) ⟨rfl, rfl⟩ (fun hdi hl hs => ⟨hdi, hl, okc ((hdi.1 f j _).1 (by unfold lgt; rw [h3]; rfl)) (oks (oks hs).2).2⟩) (fun ct hdi hl hs H locs ls a b hP hS h6 kk => ?_)
    obtain ⟨hx, hb, hml, hown, hts, hK, hX, hbl, hbg, hs0⟩ := C0 ct
    have hl2 := live_of (oks (oks hs).2).1 h0 (by rw [h3]; decide)
    have hi := (oks hs).1
    have he := wl_at (G := G) hl2
    rw [en_lng h3] at he
    refine va_lald hx hb hK hP _ 3 he rfl (fn_in hin hi) hd ?_
    rw [a_nat hin.1 hi]
    exact kk H locs ls hP hS h6

theorem s_aaload (C0 : CT → Cx p R s m args c G L xs N0 nL own cc) (hfam : ∀ f, fk f = 7 → f = 42)
    (hd : decode cc pc = .ok (.aaload, len)) (ho : okI pc (.aaload) len = true) (h : stp oo K md mi (.aaload) len pc l st S k = some rv) (hk : ∀ (pc : Nat) (l : Lc) (st : List V) (S : SD), k pc l st S = some rv → SM CT p lc e R s m args below meth c Q G L xs md N0 U0 nL rv pc l st S) : SM CT p lc e R s m args below meth c Q G L xs md N0 U0 nL rv pc l st S := by
  cases len_of (n := 1) ho
  obtain ⟨i, r, hst, h9⟩ := p1_spec h
  subst hst
  replace h := h9
  obtain ⟨f, j, r, hst, h7⟩ := pR_spec h
  subst hst
  replace h := h7
  obtain ⟨hkd, h⟩ := bif_spec h
  rcases bnd_spec h with ⟨h0, hin, h⟩ | ⟨h0, hin, h⟩
  · rw [nbq] at hkd
    simp [h0] at hkd
  · have h3 : fk f = 7 := Nat.eq_of_beq_eq_true hkd
    have key : ∀ q : Option (Nat × Nat), (DI md L xs S → live S (f, j) → S.2.1 f j i.toNat = q) → k (pc + 1) l (vr q :: r) S = some rv → SM CT p lc e R s m args below meth c Q G L xs md N0 U0 nL rv pc l (.inl i :: .inr (.inr (some (f, j))) :: r) S := by
      intro q hq h
      have hlive : (∀ v ∈ (.inl i :: .inr (.inr (some (f, j))) :: r : List V), vok S v) → live S (f, j) := fun hs => live_of (oks (oks hs).2).1 h0 (by rw [h3]; decide)
      refine SM_heap (hk _ _ _ _ h) ⟨rfl, rfl⟩ (fun hdi hl hs => ⟨hdi, hl, okc ?_ (oks (oks hs).2).2⟩) (fun ct hdi hl hs H locs ls a b hP hS h6 kk => ?_)
      · rw [← hq hdi (hlive hs)]
        cases hr : S.2.1 f j i.toNat with
        | none => trivial
        | some g => exact Or.inr (Or.inr (hdi.2.1 f j _ g hr))
      · obtain ⟨hx, hb, hml, hown, hts, hK, hX, hbl, hbg, hs0⟩ := C0 ct
        have hi := (oks hs).1
        have he := wl_at (G := G) (hlive hs)
        rw [en_ref h3] at he
        refine va_aldq hx hb hK hP _ 4 he rfl (fn_in hin hi) hd ?_
        rw [a_nat hin.1 hi]
        have e1 := hq hdi (hlive hs)
        have := kk H locs ls hP hS h6
        rw [e1]
        cases q with
        | none => exact this
        | some g => exact this
    cases hmd : md with
    | true =>
      subst hmd
      exact key _ (fun _ _ => rfl) h
    | false =>
      subst hmd
      simp only [cond_false] at h
      split at h
      · next q e2 =>
        refine key q (fun hdi hli => hdi.2.2.2.2.2 rfl f j _ q e2 hli (fun q => ?_)) h
        subst q
        have : fn 42 = 20 := by decide +kernel
        omega
      · cases h

theorem s_iastore (C0 : CT → Cx p R s m args c G L xs N0 nL own cc) 
    (hd : decode cc pc = .ok (.iastore, len)) (ho : okI pc (.iastore) len = true) (h : stp oo K md mi (.iastore) len pc l st S k = some rv) (hk : ∀ (pc : Nat) (l : Lc) (st : List V) (S : SD), k pc l st S = some rv → SM CT p lc e R s m args below meth c Q G L xs md N0 U0 nL rv pc l st S) : SM CT p lc e R s m args below meth c Q G L xs md N0 U0 nL rv pc l st S := by
  cases len_of (n := 1) ho
  obtain ⟨i, x, r, hst, h9⟩ := p2_spec h
  subst hst
  replace h := h9
  obtain ⟨f, j, r, hst, h7⟩ := pR_spec h
  subst hst
  replace h := h7
  obtain ⟨hkd, h⟩ := bif_spec h
  have h3 : fk f = 3 := Nat.eq_of_beq_eq_true hkd
  rcases bnd_spec h with ⟨h0, hin, h⟩ | ⟨h0, hin, h⟩
  · rw [h3] at h0; cases h0
  · refine SM_heap (hk _ _ _ _ h) ⟨rfl, rfl⟩ (fun hdi hl hs => ⟨DI_wD hdi (live_of (oks (oks (oks hs).2).2).1 h0 (by rw [h3]; decide)) (fun q => by unfold lgt at q; rw [h3] at q; cases q) (fun q => (oks hs).1), hl, (oks (oks (oks hs).2).2).2⟩) (fun ct hdi hl hs H locs ls a b hP hS h6 kk => ?_)
    obtain ⟨hx, hb, hml, hown, hts, hK, hX, hbl, hbg, hs0⟩ := C0 ct
    have hl2 := live_of (oks (oks (oks hs).2).2).1 h0 (by rw [h3]; decide)
    have hi := (oks (oks hs).2).1
    have he := wl_at (G := G) hl2
    rw [en_int h3 (by decide) (by decide) (by decide)] at he
    refine va_iast hx hb hK hP (wl_D G S) hS _ 0 he rfl (fn_in hin hi) hd (fun H1 locs1 g1 _ g3 => kk H1 locs1 ls ?_ g3 h6)
    rw [a_nat hin.1 hi] at g1
    rw [← wl_set (S' := wD S f j i.toNat x) (g := (f, j)) hl2 rfl (fun h hh => wD_ne hh), en_int h3 (by decide) (by decide) (by decide)]
    refine Eq.mp (congrArg (fun z => va_P G.2.2.2.1 vwCl ((wl G S).set (numF f j) (ad G (f, j), .inl (G.2.2.2.2 3, (fn f).toNat, .inl z))) H1) ?_) g1
    funext q
    show (if q = i.toNat then _ else _) = Int32.ofInt ((wD S f j i.toNat x).1 f j q)
    rw [wD_at]
    split <;> rfl
    
theorem s_bastore (C0 : CT → Cx p R s m args c G L xs N0 nL own cc) 
    (hd : decode cc pc = .ok (.bastore, len)) (ho : okI pc (.bastore) len = true) (h : stp oo K md mi (.bastore) len pc l st S k = some rv) (hk : ∀ (pc : Nat) (l : Lc) (st : List V) (S : SD), k pc l st S = some rv → SM CT p lc e R s m args below meth c Q G L xs md N0 U0 nL rv pc l st S) : SM CT p lc e R s m args below meth c Q G L xs md N0 U0 nL rv pc l st S := by
  cases len_of (n := 1) ho
  obtain ⟨i, x, r, hst, h9⟩ := p2_spec h
  subst hst
  replace h := h9
  obtain ⟨f, j, r, hst, h7⟩ := pR_spec h
  subst hst
  replace h := h7
  by_cases h3 : fk f = 4
  · rw [show Nat.beq (fk f) 4 = true by rw [h3]; rfl, cond_true] at h
    rcases bnd_spec h with ⟨h0, hin, h⟩ | ⟨h0, hin, h⟩
    · rw [h3] at h0; cases h0
    · obtain ⟨hxx, h⟩ := if_spec h
      refine SM_heap (hk _ _ _ _ h) ⟨rfl, rfl⟩ (fun hdi hl hs => ⟨DI_wD hdi (live_of (oks (oks (oks hs).2).2).1 h0 (by rw [h3]; decide)) (fun q => by unfold lgt at q; rw [h3] at q; cases q) (fun q => (oks hs).1), hl, (oks (oks (oks hs).2).2).2⟩) (fun ct hdi hl hs H locs ls a b hP hS h6 kk => ?_)
      obtain ⟨hx, hb, hml, hown, hts, hK, hX, hbl, hbg, hs0⟩ := C0 ct
      have hl2 := live_of (oks (oks (oks hs).2).2).1 h0 (by rw [h3]; decide)
      have hi := (oks (oks hs).2).1
      have he := wl_at (G := G) hl2
      rw [en_int h3 (by decide) (by decide) (by decide)] at he
      refine va_zast hx hb hK hP (wl_D G S) hS _ 1 he rfl (fn_in hin hi) hd (fun H1 locs1 g1 _ g3 => kk H1 locs1 ls ?_ g3 h6)
      rw [a_nat hin.1 hi] at g1
      rw [← wl_set (S' := wD S f j i.toNat x) (g := (f, j)) hl2 rfl (fun h hh => wD_ne hh), en_int h3 (by decide) (by decide) (by decide)]
      rw [a_bool hxx] at g1
      refine Eq.mp (congrArg (fun z => va_P G.2.2.2.1 vwCl ((wl G S).set (numF f j) (ad G (f, j), .inl (G.2.2.2.2 4, (fn f).toNat, .inl z))) H1) ?_) g1
      funext q
      show (if q = i.toNat then _ else _) = Int32.ofInt ((wD S f j i.toNat x).1 f j q)
      rw [wD_at]
      split <;> rfl
      
  · rw [show Nat.beq (fk f) 4 = false by rw [nbq]; simpa using h3, cond_false] at h
    obtain ⟨hkd, h⟩ := bif_spec h
    have h3 : fk f = 5 := Nat.eq_of_beq_eq_true hkd
    rcases bnd_spec h with ⟨h0, hin, h⟩ | ⟨h0, hin, h⟩
    · rw [h3] at h0; cases h0
    · obtain ⟨hxx, h⟩ := if_spec h
      refine SM_heap (hk _ _ _ _ h) ⟨rfl, rfl⟩ (fun hdi hl hs => ⟨DI_wD hdi (live_of (oks (oks (oks hs).2).2).1 h0 (by rw [h3]; decide)) (fun q => by unfold lgt at q; rw [h3] at q; cases q) (fun q => (oks hs).1), hl, (oks (oks (oks hs).2).2).2⟩) (fun ct hdi hl hs H locs ls a b hP hS h6 kk => ?_)
      obtain ⟨hx, hb, hml, hown, hts, hK, hX, hbl, hbg, hs0⟩ := C0 ct
      have hl2 := live_of (oks (oks (oks hs).2).2).1 h0 (by rw [h3]; decide)
      have hi := (oks (oks hs).2).1
      have he := wl_at (G := G) hl2
      rw [en_int h3 (by decide) (by decide) (by decide)] at he
      refine va_bast hx hb hK hP (wl_D G S) hS _ 2 he rfl (fn_in hin hi) hd (fun H1 locs1 g1 _ g3 => kk H1 locs1 ls ?_ g3 h6)
      rw [a_nat hin.1 hi] at g1
      rw [← wl_set (S' := wD S f j i.toNat x) (g := (f, j)) hl2 rfl (fun h hh => wD_ne hh), en_int h3 (by decide) (by decide) (by decide)]
      rw [a_byte hxx] at g1
      refine Eq.mp (congrArg (fun z => va_P G.2.2.2.1 vwCl ((wl G S).set (numF f j) (ad G (f, j), .inl (G.2.2.2.2 5, (fn f).toNat, .inl z))) H1) ?_) g1
      funext q
      show (if q = i.toNat then _ else _) = Int32.ofInt ((wD S f j i.toNat x).1 f j q)
      rw [wD_at]
      split <;> rfl
      
theorem s_lastore (C0 : CT → Cx p R s m args c G L xs N0 nL own cc) 
    (hd : decode cc pc = .ok (.lastore, len)) (ho : okI pc (.lastore) len = true) (h : stp oo K md mi (.lastore) len pc l st S k = some rv) (hk : ∀ (pc : Nat) (l : Lc) (st : List V) (S : SD), k pc l st S = some rv → SM CT p lc e R s m args below meth c Q G L xs md N0 U0 nL rv pc l st S) : SM CT p lc e R s m args below meth c Q G L xs md N0 U0 nL rv pc l st S := by
  cases len_of (n := 1) ho
  obtain ⟨x, r, hst, h9⟩ := q1_spec h
  subst hst
  replace h := h9
  obtain ⟨i, r, hst, h8⟩ := p1_spec h
  subst hst
  replace h := h8
  obtain ⟨f, j, r, hst, h7⟩ := pR_spec h
  subst hst
  replace h := h7
  obtain ⟨hkd, h⟩ := bif_spec h
  have h3 : fk f = 6 := Nat.eq_of_beq_eq_true hkd
  rcases bnd_spec h with ⟨h0, hin, h⟩ | ⟨h0, hin, h⟩
  · rw [h3] at h0; cases h0
  · refine SM_heap (hk _ _ _ _ h) ⟨rfl, rfl⟩ (fun hdi hl hs => ⟨DI_wD hdi (live_of (oks (oks (oks hs).2).2).1 h0 (by rw [h3]; decide)) (fun q => (oks hs).1) (fun q => by unfold lgt at q; rw [h3] at q; cases q), hl, (oks (oks (oks hs).2).2).2⟩) (fun ct hdi hl hs H locs ls a b hP hS h6 kk => ?_)
    obtain ⟨hx, hb, hml, hown, hts, hK, hX, hbl, hbg, hs0⟩ := C0 ct
    have hl2 := live_of (oks (oks (oks hs).2).2).1 h0 (by rw [h3]; decide)
    have hi := (oks (oks hs).2).1
    have he := wl_at (G := G) hl2
    rw [en_lng h3] at he
    refine va_last hx hb hK hP (wl_D G S) hS _ 3 he rfl (fn_in hin hi) hd (fun H1 locs1 g1 _ g3 => kk H1 locs1 ls ?_ g3 h6)
    rw [a_nat hin.1 hi] at g1
    rw [← wl_set (S' := wD S f j i.toNat x) (g := (f, j)) hl2 rfl (fun h hh => wD_ne hh), en_lng h3]
    refine Eq.mp (congrArg (fun z => va_P G.2.2.2.1 vwCl ((wl G S).set (numF f j) (ad G (f, j), .inl (G.2.2.2.2 6, (fn f).toNat, .inr (.inl z)))) H1) ?_) g1
    funext q
    show (if q = i.toNat then _ else _) = Int64.ofInt ((wD S f j i.toNat x).1 f j q)
    rw [wD_at]
    split <;> rfl
    
theorem s_aastore (C0 : CT → Cx p R s m args c G L xs N0 nL own cc) (hfam : ∀ f, fk f = 7 → f = 42)
    (hd : decode cc pc = .ok (.aastore, len)) (ho : okI pc (.aastore) len = true) (h : stp oo K md mi (.aastore) len pc l st S k = some rv) (hk : ∀ (pc : Nat) (l : Lc) (st : List V) (S : SD), k pc l st S = some rv → SM CT p lc e R s m args below meth c Q G L xs md N0 U0 nL rv pc l st S) : SM CT p lc e R s m args below meth c Q G L xs md N0 U0 nL rv pc l st S := by
  cases len_of (n := 1) ho
  simp only [stp] at h
  obtain ⟨hmd, h6⟩ := bif_spec h
  clear h
  subst hmd
  split at h6
  · next g0 gj i f j r =>
    obtain ⟨hkd, h⟩ := bif_spec h6
    obtain ⟨hkd, hob⟩ := ko hkd
    have h3 : fk f = 7 := Nat.eq_of_beq_eq_true hkd
    obtain ⟨o1, o2⟩ := isObj_spec hob
    rcases bnd_spec h with ⟨h0, hin, h⟩ | ⟨h0, hin, h⟩
    · rw [h3] at h0; cases h0
    · have hlv : (∀ v ∈ (.inr (.inr (some (g0, gj))) :: .inl i :: .inr (.inr (some (f, j))) :: r : List V), vok S v) → live S (g0, gj) := fun hs => live_of (oks hs).1 (by rw [o1]; decide) (by rw [o1]; decide)
      refine SM_heap (hk _ _ _ _ h) ⟨rfl, rfl⟩ (fun hdi hl hs => ⟨DI_wR hdi (live_of (oks (oks (oks hs).2).2).1 h0 (by rw [h3]; decide)) (fun g hg => by cases hg; exact hlv hs) (fun q => by cases q), hl, (oks (oks (oks hs).2).2).2⟩) (fun ct hdi hl hs H locs ls a b hP hS h6 kk => ?_)
      obtain ⟨hx, hb, hml, hown, hts, hK, hX, hbl, hbg, hs0⟩ := C0 ct
      have hl2 := live_of (oks (oks (oks hs).2).2).1 h0 (by rw [h3]; decide)
      have hi := (oks (oks hs).2).1
      have he := wl_at (G := G) hl2
      rw [en_ref h3] at he
      have hv := wl_at (G := G) (hlv hs)
      rw [en_obj o1, o2] at hv
      have hcl : fc f = 4 := by
        have := hfam f h3
        subst this
        decide +kernel
      rw [hcl] at hv
      refine va_astq hx hb hK hP (wl_D G S) hS _ 4 _ 4 he (r := (RX4, TX4, 19)) rfl hv rfl (fn_in hin hi) hd (fun H1 locs1 g1 _ g3 => kk H1 locs1 ls ?_ g3 h6)
      rw [a_nat hin.1 hi] at g1
      rw [← wl_set (S' := wR S f j i.toNat (some (g0, gj))) (g := (f, j)) hl2 rfl (fun h hh => wR_ne hh), en_ref h3]
      refine Eq.mp (congrArg (fun z => va_P G.2.2.2.1 vwCl ((wl G S).set (numF f j) (ad G (f, j), .inl (G.2.2.2.2 7, (fn f).toNat, .inr (.inr (.inr (.inr z)))))) H1) ?_) g1
      funext q
      show (if q = i.toNat then _ else _) = ((wR S f j i.toNat (some (g0, gj))).2.1 f j q).map (ad G)
      rw [wR_at]
      split <;> rfl
  · cases h6

theorem s_arraylength (C0 : CT → Cx p R s m args c G L xs N0 nL own cc) 
    (hd : decode cc pc = .ok (.arraylength, len)) (ho : okI pc (.arraylength) len = true) (h : stp oo K md mi (.arraylength) len pc l st S k = some rv) (hk : ∀ (pc : Nat) (l : Lc) (st : List V) (S : SD), k pc l st S = some rv → SM CT p lc e R s m args below meth c Q G L xs md N0 U0 nL rv pc l st S) : SM CT p lc e R s m args below meth c Q G L xs md N0 U0 nL rv pc l st S := by
  cases len_of (n := 1) ho
  obtain ⟨f, j, r, hst, h7⟩ := pR_spec h
  subst hst
  replace h := h7
  obtain ⟨hkd, h⟩ := bif_spec h
  have h0 : fk f = 0 := Nat.eq_of_beq_eq_true hkd
  refine SM_heap (hk _ _ _ _ h) ⟨rfl, rfl⟩ (fun hdi hl hs => ⟨hdi, hl, okc ((hdi.1 0 1 0).2 (by decide +kernel)) (oks hs).2⟩) (fun ct hdi hl hs H locs ls a b hP hS h6 kk => ?_)
  obtain ⟨hx, hb, hml, hown, hts, hK, hX, hbl, hbg, hs0⟩ := C0 ct
  have e0 : (f, j) = (0, 0) := by
    rcases (oks hs).1 with q | q | q
    · exact q
    · have q1 : f = 1 := q.1
      subst q1
      cases h0
    · exact absurd h0 (ord_kind q).1
  cases e0
  refine va_slen hx hb hX hbl (by show ¬ G.1 ≤ G.2.1; omega) hS hd ?_
  have := kk H locs ls hP hS h6
  have e1 : tv G (vi (gD S 0 1 0)) = .int (Int32.ofNat L) := by
    show Value.int (Int32.ofInt (S.1 0 1 0)) = _
    rw [hdi.2.2.2.2.1.2, Int32.ofInt_eq_ofNat]
  rw [List.map_cons, e1] at this
  exact this

end
