/-! the lists of writes answer as the functions do -/
def Rel (A : ES) (S : SD) : Prop := (∀ f j k v, eD A.1 f j k = some v → S.1 f j k = v) ∧ (∀ f j k, S.2.1 f j k = eR A.2.1 f j k) ∧ S.2.2.1 = A.2.2.1 ∧ S.2.2.2 = A.2.2.2
def KR (KE : EK) (K : KT) : Prop := ∀ z a A S v A', Rel A S → KE z a A = some (v, A') → ∃ S', K z a S = some (v, S') ∧ Rel A' S'
theorem bifA {α : Type} {b : Bool} {x : Option α} {v : α} (h : (bif b then x else none) = some v) : b = true ∧ x = some v := by
  cases b
  · cases h
  · exact ⟨rfl, h⟩
theorem ifA {α : Type} {b : Prop} [Decidable b] {x : Option α} {v : α} (h : (if b then x else none) = some v) : b ∧ x = some v := by
  by_cases hb : b
  · rw [if_pos hb] at h; exact ⟨hb, h⟩
  · rw [if_neg hb] at h; cases h
theorem e3_eq {a b c f j k : Nat} : (Nat.beq a f && (Nat.beq b j && Nat.beq c k)) = true ↔ (f = a ∧ j = b ∧ k = c) := by
  simp only [nbq, Bool.and_eq_true, beq_iff_eq]
  exact ⟨fun ⟨x, y, z⟩ => ⟨x.symm, y.symm, z.symm⟩, fun ⟨x, y, z⟩ => ⟨x.symm, y.symm, z.symm⟩⟩
theorem rel_W {A : ES} {S : SD} {f j k : Nat} {v : Int} (h : Rel A S) : Rel (eW A f j k v) (wD S f j k v) := by
  refine ⟨fun f' j' k' v' h' => ?_, h.2.1, h.2.2⟩
  show (if f' = f ∧ j' = j ∧ k' = k then v else S.1 f' j' k') = v'
  have h' : (bif Nat.beq f f' && (Nat.beq j j' && Nat.beq k k') then some v else eD A.1 f' j' k') = some v' := h'
  by_cases hc : f' = f ∧ j' = j ∧ k' = k
  · rw [e3_eq.mpr hc] at h'
    rw [if_pos hc]
    exact Option.some.inj h'
  · rw [show (Nat.beq f f' && (Nat.beq j j' && Nat.beq k k')) = false by rw [← Bool.not_eq_true, e3_eq]; exact hc] at h'
    rw [if_neg hc]
    exact h.1 _ _ _ _ h'
theorem rel_P {A : ES} {S : SD} {f j k : Nat} {v : Option (Nat × Nat)} (h : Rel A S) : Rel (eP A f j k v) (wR S f j k v) := by
  refine ⟨h.1, fun f' j' k' => ?_, h.2.2⟩
  show (if f' = f ∧ j' = j ∧ k' = k then v else S.2.1 f' j' k') = (bif Nat.beq f f' && (Nat.beq j j' && Nat.beq k k') then v else eR A.2.1 f' j' k')
  by_cases hc : f' = f ∧ j' = j ∧ k' = k
  · rw [e3_eq.mpr hc, if_pos hc]; rfl
  · rw [show (Nat.beq f f' && (Nat.beq j j' && Nat.beq k k')) = false by rw [← Bool.not_eq_true, e3_eq]; exact hc, if_neg hc]
    exact h.2.1 _ _ _
theorem rel_N {A : ES} {S : SD} {u : Nat} (h : Rel A S) : Rel (eN A u) (wN S u) := ⟨h.1, h.2.1, congrArg (· + 1) h.2.2.1, congrArg (· + u) h.2.2.2⟩
theorem bnd_t {S : SD} {f t : Nat} {i : Int} {x : Option RR} (h : fk f = t) (ht : t ≠ 0) (hb : 0 ≤ i ∧ i < fn f) : bndI S f i x = x := by
  unfold bndI
  rw [show Nat.beq (fk f) 0 = false by rw [h, nbq]; simpa using ht, cond_false, if_pos hb]
theorem est_simG {Φ : Option RR → Prop} {KE : EK} {K : KT} {mi : MI} {ins : Instr} {len pc : Nat} {l : Lc} {st : List V} {A : ES} {S : SD} {r9 : ER} {k : Nat → Lc → List V → ES → Option ER} {k' : Nat → Lc → List V → SD → Option RR} (hA : Rel A S) (hK : KR KE K) (h : est KE mi ins len pc l st A k = some r9)
    (hret : ∀ A S, Rel A S → (some (vi 0, A) : Option ER) = some r9 → Φ (some (vi 0, S))) (hk : ∀ pc l st A S, Rel A S → k pc l st A = some r9 → Φ (k' pc l st S)) : Φ (stp oo K true mi ins len pc l st S k') := by
  cases ins with
  | iload_n n =>
    simp only [est] at h
    split at h
    · next x e =>
      simp only [stp, lI, e]
      exact hk _ _ _ _ _ hA h
    · cases h
  | iload n =>
    simp only [est] at h
    split at h
    · next x e =>
      simp only [stp, lI, e]
      exact hk _ _ _ _ _ hA h
    · cases h
  | aload_n n =>
    simp only [est] at h
    split at h
    · next x e =>
      simp only [stp, lR, e]
      exact hk _ _ _ _ _ hA h
    · cases h
  | istore_n n =>
    simp only [est] at h
    split at h
    · next x r =>
      obtain ⟨h1, h⟩ := bifA h
      simp only [stp, p1, h1, cond_true]
      exact hk _ _ _ _ _ hA h
    · cases h
  | istore n =>
    simp only [est] at h
    split at h
    · next x r =>
      obtain ⟨h1, h⟩ := bifA h
      simp only [stp, p1, h1, cond_true]
      exact hk _ _ _ _ _ hA h
    · cases h
  | astore_n n =>
    simp only [est] at h
    split at h
    · next x r =>
      obtain ⟨h1, h⟩ := bifA h
      simp only [stp, h1, cond_true]
      exact hk _ _ _ _ _ hA h
    · cases h
  | iinc n c =>
    simp only [est] at h
    split at h
    · next x e =>
      obtain ⟨h1, h⟩ := bifA h
      simp only [stp, lI, e, h1, cond_true]
      exact hk _ _ _ _ _ hA h
    · cases h
  | iconst a =>
    exact hk _ _ _ _ _ hA h
  | bipush a =>
    exact hk _ _ _ _ _ hA h
  | sipush a =>
    exact hk _ _ _ _ _ hA h
  | lconst a =>
    exact hk _ _ _ _ _ hA h
  | goto a =>
    exact hk _ _ _ _ _ hA h
  | ldc2_w n =>
    simp only [est] at h
    split at h
    · next a1 a2 a3 a4 x e =>
      simp only [stp, e]
      exact hk _ _ _ _ _ hA h
    · cases h
  | iadd =>
    simp only [est] at h
    split at h
    · exact hk _ _ _ _ _ hA h
    · cases h
  | isub =>
    simp only [est] at h
    split at h
    · exact hk _ _ _ _ _ hA h
    · cases h
  | imul =>
    simp only [est] at h
    split at h
    · exact hk _ _ _ _ _ hA h
    · cases h
  | ladd =>
    simp only [est] at h
    split at h
    · exact hk _ _ _ _ _ hA h
    · cases h
  | if_icmp c off =>
    cases c with
    | gt =>
      simp only [est] at h
      split at h
      · next y x r =>
        simp only [stp, p2, cnd]
        by_cases hc : y < x
        · rw [if_pos hc] at h ⊢
          exact hk _ _ _ _ _ hA h
        · rw [if_neg hc] at h ⊢
          exact hk _ _ _ _ _ hA h
      · cases h
    | ge =>
      simp only [est] at h
      split at h
      · next y x r =>
        simp only [stp, p2, cnd]
        by_cases hc : x < y
        · rw [if_pos hc] at h ⊢
          exact hk _ _ _ _ _ hA h
        · rw [if_neg hc] at h ⊢
          exact hk _ _ _ _ _ hA h
      · cases h
    | _ => cases h
  | dup =>
    simp only [est] at h
    split at h
    · next v r =>
      simp only [stp]
      cases hc : cat2 v
      · rw [hc] at h
        exact hk _ _ _ _ _ hA h
      · rw [hc] at h; cases h
    · cases h
  | getfield n =>
    simp only [est] at h
    split at h
    · next f j r =>
      split at h
      · next ci kk ty a1 a2 e =>
        obtain ⟨h1, h9⟩ := bifA h
        obtain ⟨h2, h3⟩ := ko h1
        have h3 := Nat.eq_of_beq_eq_true h3
        subst h3
        simp only [stp, pR, e, h2, cond_true]
        refine hk _ _ _ _ _ hA ?_
        show k _ _ (vr (S.2.1 f j kk) :: r) A = some r9
        rw [hA.2.1]
        exact h9
      · cases h
    · cases h
  | putfield n =>
    simp only [est] at h
    split at h
    · next v f j r =>
      split at h
      · next ci kk ty fin a2 e =>
        obtain ⟨h1, h⟩ := bifA h
        simp only [stp, e, h1, cond_true]
        split at h
        · next x =>
          by_cases t0 : ty = 0
          · subst t0
            exact hk _ _ _ _ _ (rel_W hA) h
          · rw [show Nat.beq ty 0 = false by rw [nbq]; simpa using t0] at h ⊢
            by_cases t1 : ty = 1
            · subst t1
              obtain ⟨h4, h⟩ := ifA h
              simp only [Nat.beq_refl, cond_true, cond_false]
              rw [if_pos h4]
              exact hk _ _ _ _ _ (rel_W hA) h
            · rw [show Nat.beq ty 1 = false by rw [nbq]; simpa using t1] at h; cases h
        · next x =>
          obtain ⟨h4, h⟩ := bifA h
          simp only [h4, cond_true]
          exact hk _ _ _ _ _ (rel_W hA) h
        · next q =>
          obtain ⟨h4, h⟩ := bifA h
          simp only [h4, cond_true]
          exact hk _ _ _ _ _ (rel_P hA) h
      · cases h
    · cases h
  | laload =>
    simp only [est] at h
    split at h
    · next i f j r =>
      obtain ⟨h1, h⟩ := bifA h
      obtain ⟨h4, h⟩ := ifA h
      split at h
      · next x e =>
        simp only [stp, p1, pR, h1, cond_true]
        rw [bnd_t (Nat.eq_of_beq_eq_true h1) (by decide) h4]
        refine hk _ _ _ _ _ hA ?_
        show k _ _ (vl (S.1 f j i.toNat) :: r) A = some r9
        rw [hA.1 _ _ _ _ e]
        exact h
      · cases h
    · cases h
  | iastore =>
    simp only [est] at h
    split at h
    · next x i f j r =>
      obtain ⟨h1, h⟩ := bifA h
      obtain ⟨h4, h⟩ := ifA h
      simp only [stp, p2, pR, h1, cond_true]
      rw [bnd_t (Nat.eq_of_beq_eq_true h1) (by decide) h4]
      exact hk _ _ _ _ _ (rel_W hA) h
    · cases h
  | lastore =>
    simp only [est] at h
    split at h
    · next x i f j r =>
      obtain ⟨h1, h⟩ := bifA h
      obtain ⟨h4, h⟩ := ifA h
      simp only [stp, q1, p1, pR, h1, cond_true]
      rw [bnd_t (Nat.eq_of_beq_eq_true h1) (by decide) h4]
      exact hk _ _ _ _ _ (rel_W hA) h
    · cases h
  | aastore =>
    simp only [est] at h
    split at h
    · next g h9 i f j r =>
      obtain ⟨h1, h⟩ := bifA h
      obtain ⟨h4, h⟩ := ifA h
      simp only [stp, h1, cond_true]
      rw [bnd_t (Nat.eq_of_beq_eq_true (ko h1).1) (by decide) h4]
      exact hk _ _ _ _ _ (rel_P hA) h
    · cases h
  | return_ =>
    simp only [est] at h
    split at h
    · obtain ⟨h1, h⟩ := bifA h
      simp only [stp, h1, cond_true]
      exact hret _ _ hA h
    · cases h
  | invokespecial n =>
    simp only [est] at h
    split at h
    · next z ac ci rk a2 e =>
      split at h
      · next f j r e2 =>
        obtain ⟨h1, h⟩ := bifA h
        split at h
        · next w A2 e3 =>
          obtain ⟨S2, k1, k2⟩ := hK _ _ _ _ _ _ hA e3
          simp only [stp, e, cond_true, pR, e2, h1, cal, Nat.beq_refl, bV, k1]
          exact hk _ _ _ _ _ k2 h
        · cases h
      · cases h
    · next z ac ci rk a2 e =>
      split at h
      · next f j r e2 =>
        obtain ⟨h1, h⟩ := bifA h
        split at h
        · next w A2 e3 =>
          obtain ⟨S2, k1, k2⟩ := hK _ _ _ _ _ _ hA e3
          simp only [stp, e, cond_true, pR, e2, h1, cal, Nat.beq_refl, bV, k1]
          exact hk _ _ _ _ _ k2 h
        · cases h
      · cases h
    · next a1 a2 a3 a4 e =>
      split at h
      · next r =>
        obtain ⟨h1, h⟩ := bifA h
        simp only [stp, e, pR, h1, cond_true]
        exact hk _ _ _ _ _ hA h
      · cases h
    · cases h
  | new n =>
    simp only [est] at h
    split at h
    · next ci a1 a2 a3 a4 e =>
      obtain ⟨h1, h⟩ := bifA h
      have hn := hA.2.2.1
      rw [← hn] at h1 h
      simp only [stp, e]
      rw [show (true && isObj (ordN S.2.2.1).1 ci && Nat.blt S.2.2.1 321) = true by simpa using h1]
      exact hk _ _ _ _ _ (rel_N hA) h
    · cases h
  | newarray t =>
    simp only [est] at h
    split at h
    · next n r =>
      obtain ⟨h1, h⟩ := bifA h
      have hn := hA.2.2.1
      rw [← hn] at h1 h
      obtain ⟨h2, h⟩ := ifA h
      simp only [stp, p1]
      rw [show (true && Nat.beq (fk (ordN S.2.2.1).1) (akind t) && Nat.blt S.2.2.1 321) = true by simpa using h1, cond_true, if_pos h2]
      exact hk _ _ _ _ _ (rel_N hA) h
    · cases h
  | anewarray n =>
    simp only [est] at h
    split at h
    · next m r =>
      split at h
      · next ci a1 a2 a3 a4 e =>
        obtain ⟨h1, h⟩ := bifA h
        have hn := hA.2.2.1
        rw [← hn] at h1 h
        obtain ⟨h2, h⟩ := ifA h
        simp only [stp, p1, e]
        rw [show (true && Nat.beq (fk (ordN S.2.2.1).1) 7 && Nat.beq (fc (ordN S.2.2.1).1) ci && Nat.blt S.2.2.1 321) = true by simpa using h1, cond_true, if_pos h2]
        exact hk _ _ _ _ _ (rel_N hA) h
      · cases h
    · cases h
  | _ => cases h
theorem est_sim {KE : EK} {K : KT} {mi : MI} {ins : Instr} {len pc : Nat} {l : Lc} {st : List V} {A A' : ES} {S : SD} {v : V} {k : Nat → Lc → List V → ES → Option ER} {k' : Nat → Lc → List V → SD → Option RR} (hA : Rel A S) (hK : KR KE K) (h : est KE mi ins len pc l st A k = some (v, A'))
    (hk : ∀ pc l st A S, Rel A S → k pc l st A = some (v, A') → ∃ S', k' pc l st S = some (v, S') ∧ Rel A' S') : ∃ S', stp oo K true mi ins len pc l st S k' = some (v, S') ∧ Rel A' S' :=
  est_simG (Φ := fun x => ∃ S', x = some (v, S') ∧ Rel A' S') hA hK h (fun A S hA e => by cases e; exact ⟨S, rfl, hA⟩) hk
theorem ebk_sim {KE : EK} {K : KT} {mi : MI} {v : V} {A' : ES} (hK : KR KE K) {bk : Nat → Lc → List V → ES → Option ER} {bk' : Nat → Lc → List V → SD → Option RR} (hb : ∀ pc l st A S, Rel A S → bk pc l st A = some (v, A') → ∃ S', bk' pc l st S = some (v, S') ∧ Rel A' S') : ∀ (b pc : Nat) (l : Lc) (st : List V) (A : ES) (S : SD), Rel A S → ebk KE mi bk b pc l st A = some (v, A') → ∃ S', blk oo K true mi bk' b pc l st S = some (v, S') ∧ Rel A' S' := by
  intro b
  induction b with
  | zero => intro pc l st A S hA h; cases h
  | succ b ih =>
    intro pc l st A S hA h
    simp only [ebk] at h
    simp only [blk]
    split at h
    · cases h
    · next ins len e1 =>
      rw [e1]
      refine est_sim hA hK h (fun pc l st A S hA h => ?_)
      split at h
      · next ks e2 => rw [e2]; exact hb _ _ _ _ _ hA h
      · next e2 => rw [e2]; exact ih _ _ _ _ _ hA h
theorem ern_sim {KE : EK} {K : KT} {mi : MI} (hK : KR KE K) : ∀ (n pc : Nat) (l : Lc) (st : List V) (A : ES) (S : SD) (v : V) (A' : ES), Rel A S → ern KE mi n pc l st A = some (v, A') → ∃ S', run oo K true mi n pc l st S = some (v, S') ∧ Rel A' S' := by
  intro n
  induction n with
  | zero => intro pc l st A S v A' hA h; cases h
  | succ n ih => intro pc l st A S v A' hA h; exact ebk_sim hK (bk := ern KE mi n) (bk' := run oo K true mi n) (fun pc l st A S hA h => ih _ _ _ _ _ _ _ hA h) 800 pc l st A S hA h
/-- n blocks on, at a known place -/
def eqW : EW → EW → Bool
  | [], [] => true
  | (a, b, c, v) :: s, (a1, b1, c1, v1) :: t => Nat.beq a a1 && (Nat.beq b b1 && (Nat.beq c c1 && (decide (v = v1) && eqW s t)))
  | _, _ => false
def eqO : Option (Nat × Nat) → Option (Nat × Nat) → Bool
  | none, none => true
  | some (a, b), some (c, d) => Nat.beq a c && Nat.beq b d
  | _, _ => false
def eqP : EP → EP → Bool
  | [], [] => true
  | (a, b, c, v) :: s, (a1, b1, c1, v1) :: t => Nat.beq a a1 && (Nat.beq b b1 && (Nat.beq c c1 && (eqO v v1 && eqP s t)))
  | _, _ => false
theorem eqW_eq : ∀ a b : EW, eqW a b = true → a = b
  | [], [], _ => rfl
  | [], _ :: _, h => by cases h
  | _ :: _, [], h => by cases h
  | (a, b, c, v) :: s, (a1, b1, c1, v1) :: t, h => by
    unfold eqW at h
    obtain ⟨h1, h⟩ := ko h
    obtain ⟨h2, h⟩ := ko h
    obtain ⟨h3, h⟩ := ko h
    obtain ⟨h4, h⟩ := ko h
    rw [Nat.eq_of_beq_eq_true h1, Nat.eq_of_beq_eq_true h2, Nat.eq_of_beq_eq_true h3, of_decide_eq_true h4, eqW_eq s t h]
theorem eqO_eq : ∀ {a b : Option (Nat × Nat)}, eqO a b = true → a = b
  | none, none, _ => rfl
  | none, some _, h => by cases h
  | some _, none, h => by cases h
  | some (a, b), some (c, d), h => by
    unfold eqO at h
    obtain ⟨h1, h2⟩ := ko h
    rw [Nat.eq_of_beq_eq_true h1, Nat.eq_of_beq_eq_true h2]
theorem eqP_eq : ∀ a b : EP, eqP a b = true → a = b
  | [], [], _ => rfl
  | [], _ :: _, h => by cases h
  | _ :: _, [], h => by cases h
  | (a, b, c, v) :: s, (a1, b1, c1, v1) :: t, h => by
    unfold eqP at h
    obtain ⟨h1, h⟩ := ko h
    obtain ⟨h2, h⟩ := ko h
    obtain ⟨h3, h⟩ := ko h
    obtain ⟨h4, h⟩ := ko h
    rw [Nat.eq_of_beq_eq_true h1, Nat.eq_of_beq_eq_true h2, Nat.eq_of_beq_eq_true h3, eqO_eq h4, eqP_eq s t h]
theorem eqL_eq : ∀ a b : Lc, eqL a b = true → a = b
  | [], [], _ => rfl
  | [], _ :: _, h => by cases h
  | _ :: _, [], h => by cases h
  | (i, v) :: s, (j, w) :: t, h => by
    unfold eqL at h
    obtain ⟨h1, h2⟩ := ko h
    obtain ⟨h3, h4⟩ := ko h2
    rw [Nat.eq_of_beq_eq_true h1, of_decide_eq_true h3, eqL_eq s t h4]
def eqE (A B : ES) : Bool := eqW A.1 B.1 && (eqP A.2.1 B.2.1 && (Nat.beq A.2.2.1 B.2.2.1 && Nat.beq A.2.2.2 B.2.2.2))
theorem eqE_eq {A B : ES} (h : eqE A B = true) : A = B := by
  obtain ⟨a, b, c, d⟩ := A
  obtain ⟨a1, b1, c1, d1⟩ := B
  unfold eqE at h
  obtain ⟨h1, h⟩ := ko h
  obtain ⟨h2, h⟩ := ko h
  obtain ⟨h3, h4⟩ := ko h
  have h1 := eqW_eq _ _ h1
  have h2 := eqP_eq _ _ h2
  have h3 := Nat.eq_of_beq_eq_true h3
  have h4 := Nat.eq_of_beq_eq_true h4
  simp only at h1 h2 h3 h4
  rw [h1, h2, h3, h4]
def eC (K : EK) (mi : MI) (pc0 : Nat) (l0 : Lc) (A0 : ES) : Nat → Nat → Lc → List V → ES → Option ER
  | 0 => fun pc l st A => bif Nat.beq pc pc0 && (eqL l l0 && (st.isEmpty && eqE A A0)) then some (vr none, ([], [], 0, 0)) else none
  | n + 1 => ebk K mi (eC K mi pc0 l0 A0 n) 800
theorem ebk_simG {Φ : Option RR → Prop} {KE : EK} {K : KT} {mi : MI} {r9 : ER} (hK : KR KE K) {bk : Nat → Lc → List V → ES → Option ER} {bk' : Nat → Lc → List V → SD → Option RR} (hret : ∀ A S, Rel A S → (some (vi 0, A) : Option ER) = some r9 → Φ (some (vi 0, S))) (hb : ∀ pc l st A S, Rel A S → bk pc l st A = some r9 → Φ (bk' pc l st S)) : ∀ (b pc : Nat) (l : Lc) (st : List V) (A : ES) (S : SD), Rel A S → ebk KE mi bk b pc l st A = some r9 → Φ (blk oo K true mi bk' b pc l st S) := by
  intro b
  induction b with
  | zero => intro pc l st A S hA h; cases h
  | succ b ih =>
    intro pc l st A S hA h
    simp only [ebk] at h
    simp only [blk]
    split at h
    · cases h
    · next ins len e1 =>
      rw [e1]
      refine est_simG hA hK h hret (fun pc l st A S hA h => ?_)
      split at h
      · next ks e2 => rw [e2]; exact hb _ _ _ _ _ hA h
      · next e2 => rw [e2]; exact ih _ _ _ _ _ hA h
theorem eC_sim {KE : EK} {K : KT} {mi : MI} {pc0 : Nat} {l0 : Lc} {A0 : ES} (hK : KR KE K) (m : Nat) : ∀ (n pc : Nat) (l : Lc) (st : List V) (A : ES) (S : SD), Rel A S → eC KE mi pc0 l0 A0 n pc l st A = some (vr none, ([], [], 0, 0)) → ∃ S', Rel A0 S' ∧ run oo K true mi (m + n) pc l st S = run oo K true mi m pc0 l0 [] S' := by
  intro n
  induction n with
  | zero =>
    intro pc l st A S hA h
    simp only [eC] at h
    obtain ⟨h1, -⟩ := bifA h
    obtain ⟨h2, h3⟩ := ko h1
    obtain ⟨h4, h5⟩ := ko h3
    obtain ⟨h6, h7⟩ := ko h5
    have h2 := Nat.eq_of_beq_eq_true h2
    have h4 := eqL_eq _ _ h4
    have h6 : st = [] := List.isEmpty_iff.mp h6
    have h7 := eqE_eq h7
    subst h2 h4 h6 h7
    exact ⟨S, hA, rfl⟩
  | succ n ih =>
    intro pc l st A S hA h
    exact ebk_simG (Φ := fun x => ∃ S', Rel A0 S' ∧ x = run oo K true mi m pc0 l0 [] S') hK (bk := eC KE mi pc0 l0 A0 n) (bk' := run oo K true mi (m + n)) (fun A S hA e => by cases e) (fun pc l st A S hA h => ih _ _ _ _ _ hA h) 800 pc l st A S hA h
def K0 : EK := fun _ _ _ => none
theorem KR_0 {K : KT} : KR K0 K := fun z a A S v A' hA h => by cases h
def isC (o : Option ER) : Bool := match o with
  | some (.inr (.inr none), [], [], 0, 0) => true
  | _ => false
theorem isC_eq {o : Option ER} (h : isC o = true) : o = some (vr none, ([], [], 0, 0)) := by
  unfold isC at h
  split at h
  · rfl
  · cases h
