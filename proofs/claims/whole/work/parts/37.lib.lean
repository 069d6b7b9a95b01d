/-! layer 2, the frame: what a call may change; two heaps side by side (the class's, the reference's) -/
def EqX (A : List Nat) (C : List (Nat × Nat)) (S S' : SD) : Prop := S'.2.2 = S.2.2 ∧ ∀ f j k, f ∉ A → (f, k) ∉ C → gD S' f j k = gD S f j k
theorem EqX_rf {A C} {S : SD} : EqX A C S S := ⟨rfl, fun _ _ _ _ _ => rfl⟩
theorem EqX_tr {A C} {S S1 S2 : SD} (h : EqX A C S S1) (h2 : EqX A C S1 S2) : EqX A C S S2 :=
  ⟨h2.1.trans h.1, fun f j k a b => (h2.2 f j k a b).trans (h.2 f j k a b)⟩
theorem EqX_mo {A C A' C'} {S S' : SD} (h : EqX A C S S') (hA : ∀ f, f ∈ A → f ∈ A') (hC : ∀ c, c ∈ C → c ∈ C' ∨ c.1 ∈ A') : EqX A' C' S S' :=
  ⟨h.1, fun f j k a b => h.2 f j k (fun q => a (hA f q)) (fun q => (hC _ q).elim b a)⟩
theorem EqX_wA {A C f j k v} {S S1 : SD} (h : EqX A C S S1) (hf : f ∈ A) : EqX A C S (wD S1 f j k v) :=
  ⟨h.1, fun f' j' k' a b => by
    rw [← h.2 f' j' k' a b]
    show (if f' = f ∧ j' = j ∧ k' = k then v else S1.1 f' j' k') = S1.1 f' j' k'
    have e : ¬ (f' = f ∧ j' = j ∧ k' = k) := fun q => a (by rw [q.1]; exact hf)
    rw [if_neg e]⟩
theorem EqX_wC {A C f j k v} {S S1 : SD} (h : EqX A C S S1) (hf : (f, k) ∈ C) : EqX A C S (wD S1 f j k v) :=
  ⟨h.1, fun f' j' k' a b => by
    rw [← h.2 f' j' k' a b]
    show (if f' = f ∧ j' = j ∧ k' = k then v else S1.1 f' j' k') = S1.1 f' j' k'
    have e : ¬ (f' = f ∧ j' = j ∧ k' = k) := fun q => b (by rw [q.1, q.2.2]; exact hf)
    rw [if_neg e]⟩
theorem EqX_wcp {A C f j dp n g i sp} {S S1 : SD} (h : EqX A C S S1) (hf : f ∈ A) : EqX A C S (wC S1 f j dp n g i sp) :=
  ⟨h.1, fun f' j' k' a b => by
    rw [← h.2 f' j' k' a b]
    show (if f' = f ∧ j' = j ∧ dp ≤ k' ∧ k' < dp + n then S1.1 g i (sp + (k' - dp)) else S1.1 f' j' k') = S1.1 f' j' k'
    have e : ¬ (f' = f ∧ j' = j ∧ dp ≤ k' ∧ k' < dp + n) := fun q => a (by rw [q.1]; exact hf)
    rw [if_neg e]⟩
theorem EqX_wR {A C f j k v} {S S1 : SD} (h : EqX A C S S1) : EqX A C S (wR S1 f j k v) := ⟨h.1, fun f' j' k' a b => h.2 f' j' k' a b⟩
/-- reads behind a frame -/
theorem EqX_a {A C} {S S' : SD} (h : EqX A C S S') (f : Nat) (hf : (!A.contains f && C.all (fun c => !(c.1 == f))) = true) (j k : Nat) : gD S' f j k = gD S f j k := by
  have hf := (Bool.and_eq_true _ _).mp hf
  refine h.2 f j k (fun q => ?_) (fun q => ?_)
  · have := hf.1
    rw [List.contains_iff_mem.mpr q] at this
    cases this
  · have := List.all_eq_true.mp hf.2 _ q
    simp at this
theorem EqX_c {A C} {S S' : SD} (h : EqX A C S S') (f k : Nat) (hf : (!A.contains f && !C.contains (f, k)) = true) (j : Nat) : gD S' f j k = gD S f j k := by
  have hf := (Bool.and_eq_true _ _).mp hf
  refine h.2 f j k (fun q => ?_) (fun q => ?_)
  · have := hf.1
    rw [List.contains_iff_mem.mpr q] at this
    cases this
  · have := hf.2
    rw [List.contains_iff_mem.mpr q] at this
    cases this
def AgA (fa : List Nat) (fc : List (Nat × Nat)) (S S' : SD) : Prop := (∀ f, f ∈ fa → ∀ j k, gD S' f j k = gD S f j k) ∧ (∀ c, c ∈ fc → ∀ j, gD S' c.1 j c.2 = gD S c.1 j c.2)
def frOK (fa : List Nat) (fc : List (Nat × Nat)) (A : List Nat) (C : List (Nat × Nat)) : Bool := fa.all (fun f => !A.contains f && C.all (fun c => !(c.1 == f))) && fc.all (fun c => !A.contains c.1 && !C.contains c)
theorem AgX {A C fa fc} {S S' : SD} (h : EqX A C S S') (hd : frOK fa fc A C = true) : AgA fa fc S S' := by
  have hd := (Bool.and_eq_true _ _).mp hd
  exact ⟨fun f hf => EqX_a h f (List.all_eq_true.mp hd.1 f hf), fun c hc => EqX_c h c.1 c.2 (List.all_eq_true.mp hd.2 c hc)⟩
theorem AgA_rf {fa fc} {S : SD} : AgA fa fc S S := ⟨fun _ _ _ _ => rfl, fun _ _ _ => rfl⟩
def EqC (S S' : SD) : Prop := S'.2.2 = S.2.2 ∧ (∀ j k, gD S' 0 j k = gD S 0 j k) ∧ ∀ f j k, 85 ≤ f → gD S' f j k = gD S f j k
def EqM (S S' : SD) : Prop := S'.2.2 = S.2.2 ∧ ∀ f j k, f < 85 → gD S' f j k = gD S f j k
theorem EqC_rf {S : SD} : EqC S S := ⟨rfl, fun _ _ => rfl, fun _ _ _ _ => rfl⟩
theorem EqM_rf {S : SD} : EqM S S := ⟨rfl, fun _ _ _ _ => rfl⟩
def inC (A : List Nat) (C : List (Nat × Nat)) : Bool := A.all (fun f => Nat.blt 0 f && Nat.blt f 85) && C.all (fun c => Nat.blt 0 c.1 && Nat.blt c.1 85)
def inM (A : List Nat) (C : List (Nat × Nat)) : Bool := A.all (fun f => Nat.ble 85 f) && C.all (fun c => Nat.ble 85 c.1)
theorem EqC_of {A C} {S S' : SD} (h : EqX A C S S') (hd : inC A C = true) : EqC S S' := by
  have hd := (Bool.and_eq_true _ _).mp hd
  have k1 : ∀ f, f ∈ A → 0 < f ∧ f < 85 := fun f hf => by
    have := (Bool.and_eq_true _ _).mp (List.all_eq_true.mp hd.1 f hf)
    exact ⟨Nat.blt_eq.mp this.1, Nat.blt_eq.mp this.2⟩
  have k2 : ∀ c, c ∈ C → 0 < c.1 ∧ c.1 < 85 := fun f hf => by
    have := (Bool.and_eq_true _ _).mp (List.all_eq_true.mp hd.2 f hf)
    exact ⟨Nat.blt_eq.mp this.1, Nat.blt_eq.mp this.2⟩
  refine ⟨h.1, fun j k => h.2 0 j k (fun q => ?_) (fun q => ?_), fun f j k hf => h.2 f j k (fun q => ?_) (fun q => ?_)⟩
  · have := k1 _ q; omega
  · have := k2 _ q; simp only at this; omega
  · have := k1 _ q; omega
  · have := k2 _ q; simp only at this; omega
theorem EqM_of {A C} {S S' : SD} (h : EqX A C S S') (hd : inM A C = true) : EqM S S' := by
  have hd := (Bool.and_eq_true _ _).mp hd
  have k1 : ∀ f, f ∈ A → 85 ≤ f := fun f hf => Nat.le_of_ble_eq_true (List.all_eq_true.mp hd.1 f hf)
  have k2 : ∀ c, c ∈ C → 85 ≤ c.1 := fun f hf => Nat.le_of_ble_eq_true (List.all_eq_true.mp hd.2 f hf)
  refine ⟨h.1, fun f j k hf => h.2 f j k (fun q => ?_) (fun q => ?_)⟩
  · have := k1 _ q; omega
  · have := k2 _ q; simp only at this; omega
/-- one pair of calls, on two heaps -/
def PI2 (d : Nat) (CI : Nat → SD → SD → Prop) (y z : Nat) (res : Int → V) (a : List V) : Prop := ∀ (i : Nat) (Sc Sm : SD), i < 512 → CI i Sc Sm → ∃ (x : Int) (Sc' Sm' : SD), EE false d y (vr (some (2, 0)) :: a) Sc = some (res x, Sc') ∧ EqC Sc Sc' ∧ EE false d z (vr (some (85, 0)) :: a) Sm = some (res x, Sm') ∧ EqM Sm Sm' ∧ CI (i + 1) Sc' Sm'
def CF (CI : Nat → SD → SD → Prop) : Prop := ∀ i Sc Sm Sc' Sm', CI i Sc Sm → (∀ f j k, 0 < f → f < 85 → gD Sc' f j k = gD Sc f j k) → (∀ f j k, 85 ≤ f → gD Sm' f j k = gD Sm f j k) → CI i Sc' Sm'
theorem PI_of2 {d y z L : Nat} {xs : Nat → Int32} {CI : Nat → SD → SD → Prop} {res : Int → V} {a : List V} (hF : CF CI) (ha : ∀ w ∈ a, ∀ S, vok S w) (H : PI2 d CI y z res a) : PI d (fun i S => CB L xs S ∧ CI i S S) y z res a := fun i S hi hc => by
  obtain ⟨hB, hC⟩ := hc
  obtain ⟨x, S1, Sm1, h1, h2, _, _, _⟩ := H i S S hi hC
  have hc1 : CI i S S1 := hF i S S S S1 hC (fun _ _ _ _ _ => rfl) (fun f j k hf => h2.2.2 f j k hf)
  obtain ⟨x', Sc', S2, k1, _, k3, k4, k5⟩ := H i S S1 hi hc1
  rw [h1] at k1
  have e := Option.some.inj k1
  have ev : res x' = res x := (congrArg Prod.fst e).symm
  have eS : S1 = Sc' := congrArg Prod.snd e
  subst eS
  have hn : S1.2.2 = (321, 87280) := h2.1.trans hB.2
  have hl : ∀ (S : SD) f, S.2.2 = (321, 87280) → (f = 2 ∨ f = 85) → vok S (vr (some (f, 0))) := fun S f hS hf => by
    have h1 : S.2.2.1 = 321 := by rw [hS]
    rcases hf with rfl | rfl
    · exact Or.inr (Or.inr ⟨by decide, by rw [h1]; decide, by decide⟩)
    · exact Or.inr (Or.inr ⟨by decide, by rw [h1]; decide, by decide⟩)
  have hv : ∀ (S : SD) f, S.2.2 = (321, 87280) → (f = 2 ∨ f = 85) → ∀ w ∈ vr (some (f, 0)) :: a, vok S w := fun S f hS hf w hw => by
    rcases List.mem_cons.mp hw with rfl | hw
    · exact hl S f hS hf
    · exact ha w hw S
  have d1 := (EE_DI h1 hB.1 (hv S 2 hB.2 (Or.inl rfl))).1
  have d2 := (EE_DI k3 d1 (hv S1 85 hn (Or.inr rfl))).1
  refine ⟨x, S1, S2, h1, ?_, by rw [k3, ev], ⟨d2, by rw [k4.1, hn]⟩, ?_⟩
  · funext j k; exact h2.2.1 j k
  · exact hF (i + 1) S1 S2 S2 S2 k5 (fun f j k _ hf => k4.2 f j k hf) (fun _ _ _ _ => rfl)
/-! small laws for walking -/
theorem bnd {α : Sort _} {i n : Int} {t e : α} (h : 0 ≤ i ∧ i < n) : (if 0 ≤ i ∧ i < n then t else e) = t := if_pos h
theorem bnb {α : Sort _} {i : Int} {t e : α} (h : i = 0 ∨ i = 1) : (if i = 0 ∨ i = 1 then t else e) = t := if_pos h
theorem its {c : Prop} [Decidable c] {a b : Int} {S : SD} : (if c then some (vi a, S) else some (vi b, S)) = some (vi (if c then a else b), S) := by split <;> rfl
theorem b_I {x : Int} {S : SD} {k : Int → SD → Option RR} : bI (some (vi x, S)) k = k x S := rfl
theorem b_L {x : Int} {S : SD} {k : Int → SD → Option RR} : bL (some (vl x, S)) k = k x S := rfl
theorem b_V {x : V} {S : SD} {k : SD → Option RR} : bV (some (x, S)) k = k S := rfl
theorem g_e {S : SD} {f j k : Nat} {v : Int} : gD (wD S f j k v) f j k = v := if_pos ⟨rfl, rfl, rfl⟩
theorem g_f {S : SD} {f j k g i m : Nat} {v : Int} (h : g ≠ f) : gD (wD S f j k v) g i m = gD S g i m := if_neg (fun q => h q.1)
theorem g_k {S : SD} {f j k i m : Nat} {v : Int} (h : m ≠ k) : gD (wD S f j k v) f i m = gD S f i m := if_neg (fun q => h q.2.2)
theorem g_j {S : SD} {f j k i m : Nat} {v : Int} (h : i ≠ j) : gD (wD S f j k v) f i m = gD S f i m := if_neg (fun q => h q.2.1)
theorem g_i {S : SD} {f j k m : Nat} {v : Int} : gD (wD S f j k v) f j m = if m = k then v else gD S f j m := by
  show (if f = f ∧ j = j ∧ m = k then v else gD S f j m) = _
  by_cases h : m = k
  · rw [if_pos ⟨rfl, rfl, h⟩, if_pos h]
  · rw [if_neg (fun q => h q.2.2), if_neg h]
theorem g_R {S : SD} {f j k g i m : Nat} {v : Option (Nat × Nat)} : gD (wR S f j k v) g i m = gD S g i m := rfl
theorem awn {j : Nat} (h : j < 1000000) : aw oo ((j : Int) + 1) = ((j + 1 : Nat) : Int) := by rw [aw_id (by omega)]; rfl
theorem tn (j : Nat) : ((j : Int)).toNat = j := Int.toNat_natCast j
theorem vok_i {S : SD} {x : Int} (h : r32 x) : vok S (vi x) := h
theorem vok_l {S : SD} {x : Int} (h : r64 x) : vok S (vl x) := h
theorem aw_r (z : Int) : r32 (aw oo z) := by
  show r32 (Int.bmod z 4294967296)
  unfold r32
  have h1 := Int.le_bmod (x := z) (m := 4294967296) (by decide)
  have h2 := Int.bmod_lt (x := z) (m := 4294967296) (by decide)
  omega
theorem e10 : ((1 : Int) = 0) = False := eq_false (by decide)
theorem aw3x {x : Int} {f : Nat} (h : -1000000 ≤ x ∧ x ≤ 1000000 ∧ f < 3) : aw oo (aw oo (x * 3) + (f : Int)) = x * 3 + (f : Int) := by rw [aw_id (z := x * 3) (by omega), aw_id (by omega)]
theorem aw3y {x : Int} {f : Nat} (h : -1000000 ≤ x ∧ x ≤ 1000000 ∧ f < 3) : aw oo (aw oo (3 * x) + (f : Int)) = x * 3 + (f : Int) := by rw [aw_id (z := 3 * x) (by omega), aw_id (by omega), Int.mul_comm]
theorem ix3a (w f : Nat) : (((w : Int) * 3 + (f : Int))).toNat = 3 * w + f := by omega
/-- counting -/
def cnt (p : Nat → Bool) : Nat → Nat
  | 0 => 0
  | n + 1 => cnt p n + (if p n then 1 else 0)
theorem cnt_le {p : Nat → Bool} : ∀ n, cnt p n ≤ n
  | 0 => Nat.le_refl _
  | n + 1 => by
    have := cnt_le (p := p) n
    simp only [cnt]
    split <;> omega
theorem cnt_lt {p : Nat → Bool} {v : Nat} (hp : p v = false) : ∀ {n : Nat}, v < n → cnt p n < n
  | 0, h => by omega
  | n + 1, h => by
    simp only [cnt]
    by_cases e : v = n
    · subst e
      have := cnt_le (p := p) v
      rw [hp]
      simp only [Bool.false_eq_true, if_false]
      omega
    · have := cnt_lt hp (n := n) (by omega)
      split <;> omega
theorem cnt_mo {p q : Nat → Bool} (h : ∀ k, p k = true → q k = true) : ∀ n, cnt p n ≤ cnt q n
  | 0 => Nat.le_refl _
  | n + 1 => by
    have := cnt_mo h n
    simp only [cnt]
    by_cases e : p n = true
    · rw [e, h n e]; omega
    · rw [if_neg e]; split <;> omega
theorem cnt_st {p q : Nat → Bool} (h : ∀ k, p k = true → q k = true) {v : Nat} (hq : q v = true) (hp : p v = false) : ∀ {n : Nat}, v < n → cnt p n + 1 ≤ cnt q n
  | 0, h9 => by omega
  | n + 1, h9 => by
    simp only [cnt]
    by_cases e : v = n
    · subst e
      have := cnt_mo h v
      rw [hq, hp]
      simp only [Bool.false_eq_true, if_false, if_true]
      omega
    · have := cnt_st h hq hp (n := n) (by omega)
      by_cases e : p n = true
      · rw [e, h n e]; omega
      · rw [if_neg e]; split <;> omega
/-- the best of those that count -/
def Best (P : Nat → Prop) (c : Nat → Int) (n : Nat) (r : Int) : Prop := (r = -1 ∧ ∀ k : Nat, k < n → ¬ P k) ∨ ∃ w : Nat, r = (w : Int) ∧ w < n ∧ P w ∧ ∀ k : Nat, k < n → P k → c k ≤ c w
theorem Best_0 {P c} : Best P c 0 (-1) := Or.inl ⟨rfl, fun k h => by omega⟩
theorem Best_skip {P c n b} (h : Best P c n b) (hn : ¬ P n) : Best P c (n + 1) b := by
  rcases h with ⟨h1, h2⟩ | ⟨w, h1, h2, h3, h4⟩
  · exact Or.inl ⟨h1, fun k hk => by
      by_cases e : k = n
      · rw [e]; exact hn
      · exact h2 k (by omega)⟩
  · exact Or.inr ⟨w, h1, by omega, h3, fun k hk hp => by
      by_cases e : k = n
      · exact absurd (e ▸ hp) hn
      · exact h4 k (by omega) hp⟩
theorem Best_fst {P c} {n : Nat} (h : Best P c n (-1)) (hp : P n) : Best P c (n + 1) (n : Int) := by
  rcases h with ⟨h1, h2⟩ | ⟨w, h1, h2, h3, h4⟩
  · exact Or.inr ⟨n, rfl, by omega, hp, fun k hk hq => by
      by_cases e : k = n
      · rw [e]; exact Int.le_refl _
      · exact absurd hq (h2 k (by omega))⟩
  · omega
theorem Best_grt {P c} {n w : Nat} (h : Best P c n (w : Int)) (hp : P n) (hc : c w < c n) : Best P c (n + 1) (n : Int) := by
  rcases h with ⟨h1, h2⟩ | ⟨w', h1, h2, h3, h4⟩
  · omega
  · have e : w = w' := by omega
    subst e
    exact Or.inr ⟨n, rfl, by omega, hp, fun k hk hq => by
      by_cases e : k = n
      · rw [e]; exact Int.le_refl _
      · have := h4 k (by omega) hq
        omega⟩
theorem Best_les {P c} {n w : Nat} (h : Best P c n (w : Int)) (hc : ¬ c w < c n) : Best P c (n + 1) (w : Int) := by
  rcases h with ⟨h1, h2⟩ | ⟨w', h1, h2, h3, h4⟩
  · omega
  · have e : w = w' := by omega
    subst e
    exact Or.inr ⟨w, rfl, by omega, h3, fun k hk hq => by
      by_cases e : k = n
      · rw [e]; omega
      · exact h4 k (by omega) hq⟩
theorem Best_un {P c N a b} (inj : ∀ k l : Nat, k < N → l < N → P k → P l → c k = c l → k = l) (h1 : Best P c N a) (h2 : Best P c N b) : a = b := by
  rcases h1 with ⟨h1, h3⟩ | ⟨w, h1, h3, h4, h5⟩
  · rcases h2 with ⟨h2, h6⟩ | ⟨v, h2, h6, h7, h8⟩
    · omega
    · exact absurd h7 (h3 v h6)
  · rcases h2 with ⟨h2, h6⟩ | ⟨v, h2, h6, h7, h8⟩
    · exact absurd h4 (h6 w h3)
    · have := inj w v h3 h6 h4 h7 (Int.le_antisymm (h8 w h3 h4) (h5 v h6 h7))
      omega
abbrev resS {o : Option RR} {v : V} {S : SD} (_ : o = some (v, S)) : SD := S
def tb (x : Int) (t : Nat) : Bool := (Int64.ofInt x).toBitVec.getLsbD t
def ti (x : Int) (t : Nat) : Bool := (Int32.ofInt x).toBitVec.getLsbD t
