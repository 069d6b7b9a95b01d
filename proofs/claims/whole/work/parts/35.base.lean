/-! what every invariant has; the law from its parts -/
def G0 : GE := (0, 0, fun _ => 0, (fun _ => 0, fun _ _ => 0), fun _ => 0)
theorem EE_DI {d z L : Nat} {xs : Nat → Int32} {a : List V} {S S1 : SD} {v : V} (h : EE false d z a S = some (v, S1)) (hD : DI false L xs S) (ha : ∀ w ∈ a, vok S w) : DI false L xs S1 ∧ vok S1 v := by
  have q := SK_ok launch0 G0 L xs false d z a S v S1 h
  exact ⟨(q.2 hD ha).1, (q.2 hD ha).2.1⟩
def CB (L : Nat) (xs : Nat → Int32) (S : SD) : Prop := DI false L xs S ∧ S.2.2 = (321, 87280)
theorem LAW_ok_of {d L : Nat} {xs : Nat → Int32} {CI : Nat → SD → Prop} (hL : L ≤ 3584) (hd : d ≤ 1300) (hB : ∀ i S, CI i S → CB L xs S) (A : ALLP d CI) (hid : ∀ i S, i < 512 → CI i S → CI (i + 1) S) (h0 : ∀ S1, Rel A1 S1 → DI false L xs S1 → CI 0 S1) :
    ∀ S1 : SD, Rel A1 S1 → DI false L xs S1 → ∃ (n d : Nat) (S2 : SD), run oo (EE false d) false mi_307 n 18 LH [] S1 = some (vi 1, S2) ∧ S2.2.2.2 ≤ 7302250 ∧ d ≤ 1300 := fun S1 hR hD => by
  obtain ⟨S2, h1, h2⟩ := LAW_loop A hL (fun i S h => ⟨(hB i S h).1.2.2.2.2.1.1, (hB i S h).1.2.2.2.2.1.2, by rw [(hB i S h).2]; decide⟩) hid 4000 0 S1 (by omega) (by omega) (h0 S1 hR hD)
  have e : (7 * ((0 : Nat) : Int)) = 0 := by decide
  rw [e] at h1
  exact ⟨4000, d, S2, h1, h2, hd⟩
/-- frames: a write to one family leaves the others as they were -/
theorem wD_f {S : SD} {f j k g : Nat} {v : Int} (h : g ≠ f) : (wD S f j k v).1 g = S.1 g := by
  funext j1 k1
  show (if g = f ∧ j1 = j ∧ k1 = k then v else S.1 g j1 k1) = _
  rw [if_neg (fun q => h q.1)]
theorem wC_f {S : SD} {f j dp n g0 i sp g : Nat} (h : g ≠ f) : (wC S f j dp n g0 i sp).1 g = S.1 g := by
  funext j1 k1
  show (if g = f ∧ j1 = j ∧ dp ≤ k1 ∧ k1 < dp + n then S.1 g0 i (sp + (k1 - dp)) else S.1 g j1 k1) = _
  rw [if_neg (fun q => h q.1)]
theorem wD_r {S : SD} {f j k : Nat} {v : Int} : (wD S f j k v).2 = S.2 := rfl
theorem wR_d {S : SD} {f j k : Nat} {v : Option (Nat × Nat)} : (wR S f j k v).1 = S.1 := rfl
