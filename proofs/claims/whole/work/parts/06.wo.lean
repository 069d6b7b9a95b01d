/-! the abstract state as a world of cells -/
def TBL : List Jvm.Cond := lw_tbl.filter goodWord
/-- base, script's cell, strings' cells, classes and slots, array classes -/
abbrev GE : Type := Nat × Nat × (Nat → Nat) × va_G × (Nat → ClassId)
def ad (G : GE) (g : Nat × Nat) : Nat := if g.1 = 0 then G.2.1 else if g.1 = 1 then G.2.2.1 g.2 else G.1 + numF g.1 g.2
def tv (G : GE) (v : V) : Value := match v with
  | .inl x => .int (Int32.ofInt x)
  | .inr (.inl x) => .long (Int64.ofInt x)
  | .inr (.inr none) => .null
  | .inr (.inr (some g)) => .ref (ad G g)
def fld (S : SD) (g : Nat × Nat) (ty k : Nat) : V := if ty = 2 then vl (S.1 g.1 g.2 k) else if ty = 3 then vr (S.2.1 g.1 g.2 k) else vi (S.1 g.1 g.2 k)
def flds (G : GE) (S : SD) (g : Nat × Nat) : List Value := (List.range (nf (fc g.1))).map fun k => tv G (fld S g (fty (fc g.1) k) k)
def en (G : GE) (S : SD) (g : Nat × Nat) : va_E :=
  if fk g.1 = 2 then .inr (fc g.1, flds G S g)
  else if fk g.1 = 6 then .inl (G.2.2.2.2 6, (fn g.1).toNat, .inr (.inl fun k => Int64.ofInt (S.1 g.1 g.2 k)))
  else if fk g.1 = 7 then .inl (G.2.2.2.2 7, (fn g.1).toNat, .inr (.inr (.inr (.inr fun k => (S.2.1 g.1 g.2 k).map (ad G)))))
  else .inl (G.2.2.2.2 (fk g.1), (fn g.1).toNat, .inl fun k => Int32.ofInt (S.1 g.1 g.2 k))
def wl (G : GE) (S : SD) : va_W := (List.range S.2.2.1).map fun n => (G.1 + n, en G S (ordN n))
def tyl (G : GE) : List (ClassId × FieldType) := [(G.2.2.2.2 3, .int), (G.2.2.2.2 4, .boolean), (G.2.2.2.2 5, .byte), (G.2.2.2.2 6, .long), (G.2.2.2.2 7, .object RX4)]
def live (S : SD) (g : Nat × Nat) : Prop := 2 ≤ g.1 ∧ numF g.1 g.2 < S.2.2.1 ∧ ordN (numF g.1 g.2) = g
def vok (S : SD) (v : V) : Prop := match v with
  | .inl x => r32 x
  | .inr (.inl x) => r64 x
  | .inr (.inr none) => True
  | .inr (.inr (some g)) => g = (0, 0) ∨ (g.1 = 1 ∧ g.2 < 12) ∨ live S g
def lgt (f k : Nat) : Bool := Nat.beq (fk f) 6 || (Nat.beq (fk f) 2 && Nat.beq (fty (fc f) k) 2)
def DI (md : Bool) (L : Nat) (xs : Nat → Int32) (S : SD) : Prop :=
  (∀ f j k, (lgt f k = true → r64 (S.1 f j k)) ∧ (lgt f k = false → r32 (S.1 f j k))) ∧ (∀ f j k g, S.2.1 f j k = some g → live S g)
  ∧ (∀ f j, 2 ≤ f → ¬ live S (f, j) → ∀ k, S.1 f j k = 0 ∧ S.2.1 f j k = none) ∧ S.2.2.1 ≤ 321 ∧ ((∀ k, k < L → S.1 0 0 k = (xs k).toInt) ∧ S.1 0 1 0 = (L : Int))
  ∧ (md = false → ∀ f j k p, tR f j k = some p → live S (f, j) → (f = 42 → k < 20) → S.2.1 f j k = p)
theorem num_ord (n : Nat) : numF (ordN n).1 (ordN n).2 = n := by
  unfold ordN numF
  by_cases h1 : n < 45
  · rw [show Nat.blt n 45 = true by simpa [Nat.blt_eq] using h1]
    simp only [cond_true]
    rw [show Nat.blt (n + 2) 47 = true by simp [Nat.blt_eq]; omega]
    simp
  · rw [show Nat.blt n 45 = false by simpa [Nat.blt_eq, ← Bool.not_eq_true] using h1]
    by_cases h2 : n < 205
    · rw [show Nat.blt n 205 = true by simpa [Nat.blt_eq] using h2]
      simp only [cond_true, cond_false]
      rw [show Nat.blt (47 + (n - 45) % 8) 47 = false by simp [← Bool.not_eq_true, Nat.blt_eq], show Nat.blt (47 + (n - 45) % 8) 55 = true by simp [Nat.blt_eq]; omega]
      simp only [cond_true, cond_false]
      omega
    · rw [show Nat.blt n 205 = false by simpa [Nat.blt_eq, ← Bool.not_eq_true] using h2]
      simp only [cond_false]
      rw [show Nat.blt (n - 150) 47 = false by simp [← Bool.not_eq_true, Nat.blt_eq]; omega, show Nat.blt (n - 150) 55 = false by simp [← Bool.not_eq_true, Nat.blt_eq]; omega]
      simp only [cond_false]
      omega
theorem ord_ge2 (n : Nat) : 2 ≤ (ordN n).1 := by
  unfold ordN
  cases h1 : Nat.blt n 45 <;> cases h2 : Nat.blt n 205 <;> simp only [cond_true, cond_false]
  · have : ¬ n < 205 := by rw [← Nat.blt_eq, h2]; simp
    omega
  · omega
  · omega
  · omega
theorem wl_len (G : GE) (S : SD) : (wl G S).length = S.2.2.1 := by simp [wl]
theorem wl_get {G : GE} {S : SD} {n : Nat} (h : n < S.2.2.1) : (wl G S)[n]? = some (G.1 + n, en G S (ordN n)) := by
  simp [wl, h]
theorem ad_live {G : GE} {S : SD} {g : Nat × Nat} (h : live S g) : ad G g = G.1 + numF g.1 g.2 := by
  have := h.1
  unfold ad
  rw [if_neg (by omega), if_neg (by omega)]
theorem wl_at {G : GE} {S : SD} {g : Nat × Nat} (h : live S g) : (wl G S)[numF g.1 g.2]? = some (ad G g, en G S g) := by
  rw [wl_get h.2.1, ad_live h, h.2.2]
theorem wl_D (G : GE) (S : SD) : va_D (fun q => G.1 ≤ q) (wl G S) := by
  have key : ∀ (i : Nat) (p : Nat × va_E), (wl G S)[i]? = some p → p.1 = G.1 + i := by
    intro i p h
    have hi : i < S.2.2.1 := by
      have := (List.getElem?_eq_some_iff.mp h).1
      rwa [wl_len] at this
    rw [wl_get hi] at h
    cases h
    rfl
  refine ⟨fun i j p q hi hj hpq => ?_, fun k q hk => ?_⟩
  · have h1 := key i p hi
    have h2 := key j q hj
    omega
  · have h1 := key k q hk
    show G.1 ≤ q.1
    omega
theorem en_congr {G : GE} {S S' : SD} {h : Nat × Nat} (h1 : S'.1 h.1 h.2 = S.1 h.1 h.2) (h2 : S'.2.1 h.1 h.2 = S.2.1 h.1 h.2) : en G S' h = en G S h := by
  unfold en flds fld
  rw [h1, h2]
theorem wl_set {G : GE} {S S' : SD} {g : Nat × Nat} (hl : live S g) (hn : S'.2.2.1 = S.2.2.1) (ho : ∀ h : Nat × Nat, h ≠ g → S'.1 h.1 h.2 = S.1 h.1 h.2 ∧ S'.2.1 h.1 h.2 = S.2.1 h.1 h.2) :
    (wl G S).set (numF g.1 g.2) (ad G g, en G S' g) = wl G S' := by
  apply List.ext_getElem?
  intro n
  by_cases hN : n < S.2.2.1
  · rw [wl_get (by rw [hn]; exact hN)]
    by_cases e : n = numF g.1 g.2
    · subst e
      rw [List.getElem?_set_self (by rw [wl_len]; exact hN), ad_live hl, hl.2.2]
    · rw [List.getElem?_set_ne (Ne.symm e), wl_get hN]
      have hne : ordN n ≠ g := by
        intro h
        apply e
        rw [← h, num_ord]
      rw [en_congr (ho _ hne).1 (ho _ hne).2]
  · rw [List.getElem?_eq_none (by simp [wl_len]; omega), List.getElem?_eq_none (by rw [wl_len, hn]; omega)]
theorem wl_new (G : GE) (S : SD) (u : Nat) : wl G S ++ [(G.1 + S.2.2.1, en G S (ordN S.2.2.1))] = wl G (wN S u) := by
  show _ = (List.range (S.2.2.1 + 1)).map _
  rw [List.range_succ, List.map_append]
  rfl
theorem flds_get {G : GE} {S : SD} {g : Nat × Nat} {k : Nat} (h : k < nf (fc g.1)) : (flds G S g)[k]? = some (tv G (fld S g (fty (fc g.1) k) k)) := by
  simp [flds, h]
theorem flds_set {G : GE} {S S' : SD} {g : Nat × Nat} {k : Nat} (hk : k < nf (fc g.1)) (ho : ∀ i, i ≠ k → S'.1 g.1 g.2 i = S.1 g.1 g.2 i ∧ S'.2.1 g.1 g.2 i = S.2.1 g.1 g.2 i) :
    (flds G S g).set k (tv G (fld S' g (fty (fc g.1) k) k)) = flds G S' g := by
  apply List.ext_getElem?
  intro n
  by_cases hN : n < nf (fc g.1)
  · rw [flds_get hN]
    by_cases e : n = k
    · subst e
      rw [List.getElem?_set_self (by simp [flds]; exact hN)]
    · rw [List.getElem?_set_ne (Ne.symm e), flds_get hN]
      unfold fld
      rw [(ho n e).1, (ho n e).2]
  · rw [List.getElem?_eq_none (by simp [flds]; omega), List.getElem?_eq_none (by simp [flds]; omega)]
theorem wD_ne {S : SD} {f j k : Nat} {v : Int} {h : Nat × Nat} (hn : h ≠ (f, j)) : (wD S f j k v).1 h.1 h.2 = S.1 h.1 h.2 ∧ (wD S f j k v).2.1 h.1 h.2 = S.2.1 h.1 h.2 := by
  refine ⟨?_, rfl⟩
  funext i
  show (if h.1 = f ∧ h.2 = j ∧ i = k then v else S.1 h.1 h.2 i) = _
  rw [if_neg]
  rintro ⟨a, b, -⟩
  exact hn (Prod.ext a b)
theorem wR_ne {S : SD} {f j k : Nat} {v : Option (Nat × Nat)} {h : Nat × Nat} (hn : h ≠ (f, j)) : (wR S f j k v).1 h.1 h.2 = S.1 h.1 h.2 ∧ (wR S f j k v).2.1 h.1 h.2 = S.2.1 h.1 h.2 := by
  refine ⟨rfl, ?_⟩
  funext i
  show (if h.1 = f ∧ h.2 = j ∧ i = k then v else S.2.1 h.1 h.2 i) = _
  rw [if_neg]
  rintro ⟨a, b, -⟩
  exact hn (Prod.ext a b)
theorem wC_ne {S : SD} {f j dp n g i sp : Nat} {h : Nat × Nat} (hn : h ≠ (f, j)) : (wC S f j dp n g i sp).1 h.1 h.2 = S.1 h.1 h.2 ∧ (wC S f j dp n g i sp).2.1 h.1 h.2 = S.2.1 h.1 h.2 := by
  refine ⟨?_, rfl⟩
  funext q
  show (if h.1 = f ∧ h.2 = j ∧ dp ≤ q ∧ q < dp + n then _ else S.1 h.1 h.2 q) = _
  rw [if_neg]
  rintro ⟨a, b, -⟩
  exact hn (Prod.ext a b)
theorem wD_at (S : SD) (f j k i : Nat) (v : Int) : (wD S f j k v).1 f j i = if i = k then v else S.1 f j i := by
  show (if f = f ∧ j = j ∧ i = k then v else S.1 f j i) = _
  simp
theorem wR_at (S : SD) (f j k i : Nat) (v : Option (Nat × Nat)) : (wR S f j k v).2.1 f j i = if i = k then v else S.2.1 f j i := by
  show (if f = f ∧ j = j ∧ i = k then v else S.2.1 f j i) = _
  simp
theorem live_wD {S : SD} {f j k : Nat} {v : Int} {g : Nat × Nat} : live (wD S f j k v) g ↔ live S g := Iff.rfl
theorem live_wR {S : SD} {f j k : Nat} {v : Option (Nat × Nat)} {g : Nat × Nat} : live (wR S f j k v) g ↔ live S g := Iff.rfl
theorem live_wN {S : SD} {u : Nat} {g : Nat × Nat} (h : live S g) : live (wN S u) g := ⟨h.1, Nat.lt_succ_of_lt h.2.1, h.2.2⟩
theorem live_new (S : SD) (u : Nat) : live (wN S u) (ordN S.2.2.1) := ⟨ord_ge2 _, by rw [num_ord]; exact Nat.lt_succ_self _, by rw [num_ord]⟩
theorem vok_wN {S : SD} {u : Nat} {v : V} (h : vok S v) : vok (wN S u) v := by
  unfold vok at *
  split at h
  · exact h
  · exact h
  · trivial
  · rcases h with h | h | h
    · exact Or.inl h
    · exact Or.inr (Or.inl h)
    · exact Or.inr (Or.inr (live_wN h))
theorem DI_wD {md : Bool} {L : Nat} {xs : Nat → Int32} {S : SD} {f j k : Nat} {v : Int} (h : DI md L xs S) (hl : live S (f, j)) (h1 : lgt f k = true → r64 v) (h2 : lgt f k = false → r32 v) : DI md L xs (wD S f j k v) := by
  obtain ⟨a1, a3, a4, a5, a6, a7⟩ := h
  have hf : 2 ≤ f := hl.1
  refine ⟨fun f' j' k' => ?_, a3, fun f' j' hf' hn k' => ?_, a5, ⟨fun k' hk' => ?_, ?_⟩, a7⟩
  · show (lgt f' k' = true → r64 (if f' = f ∧ j' = j ∧ k' = k then v else S.1 f' j' k')) ∧ (lgt f' k' = false → r32 (if f' = f ∧ j' = j ∧ k' = k then v else S.1 f' j' k'))
    split
    · next e => obtain ⟨rfl, rfl, rfl⟩ := e; exact ⟨h1, h2⟩
    · exact a1 f' j' k'
  · have h3 := a4 f' j' hf' hn k'
    refine ⟨?_, h3.2⟩
    show (if f' = f ∧ j' = j ∧ k' = k then v else S.1 f' j' k') = 0
    rw [if_neg]
    · exact h3.1
    · rintro ⟨rfl, rfl, -⟩
      exact hn hl
  · show (if 0 = f ∧ 0 = j ∧ k' = k then v else S.1 0 0 k') = _
    rw [if_neg (by omega)]
    exact a6.1 k' hk'
  · show (if 0 = f ∧ 1 = j ∧ 0 = k then v else S.1 0 1 0) = _
    rw [if_neg (by omega)]
    exact a6.2
theorem DI_wR {md : Bool} {L : Nat} {xs : Nat → Int32} {S : SD} {f j k : Nat} {v : Option (Nat × Nat)} (h : DI md L xs S) (hl : live S (f, j)) (hv : ∀ g, v = some g → live S g) (ht : md = false → tR f j k = none) : DI md L xs (wR S f j k v) := by
  obtain ⟨a1, a3, a4, a5, a6, a7⟩ := h
  refine ⟨a1, fun f' j' k' g hg => ?_, fun f' j' hf' hn k' => ?_, a5, a6, fun hm f' j' k' p hp hlv hk => ?_⟩
  · have hg' : (if f' = f ∧ j' = j ∧ k' = k then v else S.2.1 f' j' k') = some g := hg
    split at hg'
    · exact hv g hg'
    · exact a3 f' j' k' g hg'
  · have h3 := a4 f' j' hf' hn k'
    refine ⟨h3.1, ?_⟩
    show (if f' = f ∧ j' = j ∧ k' = k then v else S.2.1 f' j' k') = none
    rw [if_neg]
    · exact h3.2
    · rintro ⟨rfl, rfl, -⟩
      exact hn hl
  · show (if f' = f ∧ j' = j ∧ k' = k then v else S.2.1 f' j' k') = p
    rw [if_neg]
    · exact a7 hm f' j' k' p hp hlv hk
    · rintro ⟨rfl, rfl, rfl⟩
      rw [ht hm] at hp
      cases hp
theorem DI_wC {md : Bool} {L : Nat} {xs : Nat → Int32} {S : SD} {f j dp n g i sp : Nat} (h : DI md L xs S) (hl : live S (f, j)) (h1 : fk f = 3) (h2 : fk g = 3) : DI md L xs (wC S f j dp n g i sp) := by
  obtain ⟨a1, a3, a4, a5, a6, a7⟩ := h
  have hf : 2 ≤ f := hl.1
  have lf : ∀ k, lgt f k = false := fun k => by rw [lgt, h1]; rfl
  have lg : ∀ k, lgt g k = false := fun k => by rw [lgt, h2]; rfl
  refine ⟨fun f' j' k' => ?_, a3, fun f' j' hf' hn k' => ?_, a5, ⟨fun k' hk' => ?_, ?_⟩, a7⟩
  · show (lgt f' k' = true → r64 (if f' = f ∧ j' = j ∧ dp ≤ k' ∧ k' < dp + n then S.1 g i (sp + (k' - dp)) else S.1 f' j' k')) ∧ (lgt f' k' = false → r32 (if f' = f ∧ j' = j ∧ dp ≤ k' ∧ k' < dp + n then S.1 g i (sp + (k' - dp)) else S.1 f' j' k'))
    split
    · next e => obtain ⟨rfl, rfl, -⟩ := e; exact ⟨fun q => absurd q (by rw [lf]; decide), fun _ => (a1 g i _).2 (lg _)⟩
    · exact a1 f' j' k'
  · have h3 := a4 f' j' hf' hn k'
    refine ⟨?_, h3.2⟩
    show (if f' = f ∧ j' = j ∧ dp ≤ k' ∧ k' < dp + n then _ else S.1 f' j' k') = 0
    rw [if_neg]
    · exact h3.1
    · rintro ⟨rfl, rfl, -⟩
      exact hn hl
  · show (if 0 = f ∧ 0 = j ∧ dp ≤ k' ∧ k' < dp + n then _ else S.1 0 0 k') = _
    rw [if_neg (by omega)]
    exact a6.1 k' hk'
  · show (if 0 = f ∧ 1 = j ∧ dp ≤ 0 ∧ 0 < dp + n then _ else S.1 0 1 0) = _
    rw [if_neg (by omega)]
    exact a6.2
theorem DI_wN {L : Nat} {xs : Nat → Int32} {S : SD} {u : Nat} (h : DI true L xs S) (hN : S.2.2.1 < 321) : DI true L xs (wN S u) := by
  obtain ⟨a1, a3, a4, a5, a6, a7⟩ := h
  exact ⟨a1, fun f j k g hg => live_wN (a3 f j k g hg), fun f j hf hn k => a4 f j hf (fun q => hn (live_wN q)) k, Nat.succ_le_of_lt hN, a6, fun q => by cases q⟩
theorem tv_cat (G : GE) (v : V) : ((tv G v).category = 2) = (cat2 v = true) := by
  unfold tv cat2
  split <;> simp [Value.category]
theorem tv_cat2 (G : GE) (v : V) : ((tv G v).category == 2) = cat2 v := by
  unfold tv cat2
  split <;> simp [Value.category]
theorem tv_cat1 (G : GE) {v : V} (h : cat2 v = false) : (tv G v).category = 1 := by
  unfold cat2 at h
  unfold tv
  split at h
  · cases h
  · split <;> first | rfl | (exfalso; simp_all)
theorem csum_tv (G : GE) : ∀ r : List V, ((r.map (tv G)).map fun v => v.category).sum = csum r
  | [] => rfl
  | v :: t => by
    simp only [List.map_cons, List.sum_cons, csum]
    rw [csum_tv G t]
    congr 1
    cases h : cat2 v
    · exact tv_cat1 G h
    · exact (tv_cat G v).mpr h
def tp (G : GE) (q : Nat × V) : Nat × Value := (q.1, tv G q.2)
theorem nbq (a b : Nat) : Nat.beq a b = (a == b) := by rw [Bool.eq_iff_iff, Nat.beq_eq, beq_iff_eq]
theorem st1_tp (G : GE) (l : Lc) (i : Nat) (v : V) : (st1 l i v).map (tp G) = (i, tv G v) :: (l.map (tp G)).filter (fun q => !(q.1 == i) && !(q.1 + 1 == i && q.2.category == 2)) := by
  unfold st1
  rw [List.map_cons, List.filter_map]
  congr 2
  apply List.filter_congr
  intro q _
  show _ = (!((tp G q).1 == i) && !((tp G q).1 + 1 == i && (tp G q).2.category == 2))
  show _ = (!(q.1 == i) && !(q.1 + 1 == i && (tv G q.2).category == 2))
  rw [tv_cat2]
  simp only [nbq]
theorem st2_tp (G : GE) (l : Lc) (i : Nat) (v : V) : (st2 l i v).map (tp G) = (i, tv G v) :: (l.map (tp G)).filter (fun q => !(q.1 == i) && (!(q.1 == i + 1) && !(q.1 + 1 == i && q.2.category == 2))) := by
  unfold st2
  rw [List.map_cons, List.filter_map]
  congr 2
  apply List.filter_congr
  intro q _
  show _ = (!(q.1 == i) && (!(q.1 == i + 1) && !(q.1 + 1 == i && (tv G q.2).category == 2)))
  rw [tv_cat2]
  simp only [nbq]
theorem lk_mem {l : Lc} {n : Nat} {v : V} (h : lk l n = some v) : (n, v) ∈ l := by
  induction l with
  | nil => cases h
  | cons q t ih =>
    obtain ⟨i, w⟩ := q
    unfold lk at h
    by_cases e : i = n
    · subst e
      simp at h
      subst h
      exact List.mem_cons_self
    · rw [show Nat.beq i n = false by simpa [← Bool.not_eq_true, Nat.beq_eq] using e] at h
      exact List.mem_cons_of_mem _ (ih h)
theorem lk_has {G : GE} {ls : Array Slot} {nL : Nat} {l : Lc} {n : Nat} {v : V} (hl : lv_has ls nL (l.map (tp G))) (h : lk l n = some v) : ls[n]? = some (.val (tv G v)) :=
  hl.2.2 (tp G (n, v)) (List.mem_map.mpr ⟨_, lk_mem h, rfl⟩)
theorem lk_place {G : GE} {l : Lc} {n : Nat} {v : V} (h : lk l n = some v) : ∃ k : Nat, (l.map (tp G))[k]? = some (n, tv G v) := by
  obtain ⟨k, hk⟩ := List.getElem?_of_mem (lk_mem h)
  exact ⟨k, by rw [List.getElem?_map, hk]; rfl⟩
theorem pick_has {G : GE} {ls : Array Slot} {nL : Nat} {l : Lc} {ks : List Nat} (hl : lv_has ls nL (l.map (tp G))) : lv_has ls nL ((pick ks l).map (tp G)) := by
  refine ⟨hl.1, hl.2.1, fun q hq => ?_⟩
  obtain ⟨w, hw, rfl⟩ := List.mem_map.mp hq
  obtain ⟨k, -, hk⟩ := List.mem_filterMap.mp hw
  cases hv : lk l k with
  | none => rw [hv] at hk; cases hk
  | some v =>
    rw [hv] at hk
    cases hk
    exact lk_has hl hv
theorem pick_ok {S : SD} {l : Lc} {ks : List Nat} (h : ∀ q ∈ l, vok S q.2) : ∀ q ∈ pick ks l, vok S q.2 := by
  intro q hq
  obtain ⟨k, -, hk⟩ := List.mem_filterMap.mp hq
  cases hv : lk l k with
  | none => rw [hv] at hk; cases hk
  | some v =>
    rw [hv] at hk
    cases hk
    exact h _ (lk_mem hv)
theorem st1_ok {S : SD} {l : Lc} {i : Nat} {v : V} (h : ∀ q ∈ l, vok S q.2) (hv : vok S v) : ∀ q ∈ st1 l i v, vok S q.2 := by
  intro q hq
  rcases List.mem_cons.mp hq with rfl | hq
  · exact hv
  · exact h q (List.mem_filter.mp hq).1
theorem st2_ok {S : SD} {l : Lc} {i : Nat} {v : V} (h : ∀ q ∈ l, vok S q.2) (hv : vok S v) : ∀ q ∈ st2 l i v, vok S q.2 := by
  intro q hq
  rcases List.mem_cons.mp hq with rfl | hq
  · exact hv
  · exact h q (List.mem_filter.mp hq).1
theorem argl_args (G : GE) : ∀ (i : Nat) (a : List V), (argl i a).map (tp G) = lv_args i (a.map (tv G))
  | _, [] => rfl
  | i, v :: t => by
    simp only [argl, List.map_cons, lv_args, argl_args]
    congr 2
    simp only [tv_cat]
    cases cat2 v <;> simp
theorem argl_mem : ∀ (i : Nat) (a : List V) (q : Nat × V), q ∈ argl i a → q.2 ∈ a
  | _, [], _, h => by cases h
  | i, v :: t, q, h => by
    rcases List.mem_cons.mp h with rfl | h
    · exact List.mem_cons_self
    · exact List.mem_cons_of_mem _ (argl_mem _ t q h)
