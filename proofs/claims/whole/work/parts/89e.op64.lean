/-! rule: things, fields, numbers and signs on both sides -/
section
variable {d : Nat} {A B : Nat → Int} {n : Nat} {th : Int}
def EqG (A : List Nat) (C : List (Nat × Nat)) (S S' : SD) : Prop := EqX A C S S' ∧ S'.2.1 = S.2.1
theorem EqG_rf {A C} {S : SD} : EqG A C S S := ⟨EqX_rf, rfl⟩
theorem EqG_tr {A C} {S S1 S2 : SD} (h : EqG A C S S1) (h2 : EqG A C S1 S2) : EqG A C S S2 := ⟨EqX_tr h.1 h2.1, h2.2.trans h.2⟩
theorem EqG_mo {A C A' C'} {S S' : SD} (h : EqG A C S S') (hA : ∀ f, f ∈ A → f ∈ A') (hC : ∀ c, c ∈ C → c ∈ C' ∨ c.1 ∈ A') : EqG A' C' S S' := ⟨EqX_mo h.1 hA hC, h.2⟩
theorem EqG_wA {A C f j k v} {S S1 : SD} (h : EqG A C S S1) (hf : f ∈ A) : EqG A C S (wD S1 f j k v) := ⟨EqX_wA h.1 hf, h.2⟩
theorem EqG_wC {A C f j k v} {S S1 : SD} (h : EqG A C S S1) (hf : (f, k) ∈ C) : EqG A C S (wD S1 f j k v) := ⟨EqX_wC h.1 hf, h.2⟩
def FRc (r : Nat) (S S' : SD) : Prop := S'.2 = S.2 ∧ ∀ f j k, ¬ (f = 29 ∧ 4 ≤ k) → ¬ (47 ≤ f ∧ f ≤ 54 ∧ j = r) → gD S' f j k = gD S f j k
theorem FRc_rf {r : Nat} {S : SD} : FRc r S S := ⟨rfl, fun _ _ _ _ _ => rfl⟩
theorem FRc_tr {r : Nat} {S S1 S2 : SD} (h : FRc r S S1) (h2 : FRc r S1 S2) : FRc r S S2 := ⟨h2.1.trans h.1, fun f j k a b => (h2.2 f j k a b).trans (h.2 f j k a b)⟩
theorem FRc_w {r f j k : Nat} {v : Int} {S S1 : SD} (h : FRc r S S1) (hc : (f = 29 ∧ 4 ≤ k) ∨ (47 ≤ f ∧ f ≤ 54 ∧ j = r)) : FRc r S (wD S1 f j k v) := ⟨h.1, fun f' j' k' a b => by
  rw [← h.2 f' j' k' a b]
  show (if f' = f ∧ j' = j ∧ k' = k then v else S1.1 f' j' k') = S1.1 f' j' k'
  rw [if_neg]
  rintro ⟨rfl, rfl, rfl⟩
  rcases hc with hc | hc
  · exact a hc
  · exact b hc⟩
theorem FRc_G {r : Nat} {C : List (Nat × Nat)} {S S' : SD} (h : EqG [] C S S') (hc : C.all (fun c => (c.1 == 29) && Nat.ble 4 c.2) = true) : FRc r S S' := ⟨Prod.ext h.2 h.1.1, fun f j k a _ => h.1.2 f j k (fun q => by cases q) (fun q => by
  have := (Bool.and_eq_true _ _).mp (List.all_eq_true.mp hc _ q)
  exact a ⟨eq_of_beq this.1, Nat.le_of_ble_eq_true this.2⟩)⟩
def own (r f k : Nat) : Prop := (f = 125 ∧ k / 2 = r) ∨ (f = 126 ∧ k / 200 = r) ∨ (127 ≤ f ∧ f ≤ 132 ∧ k / 16 = r) ∨ (113 ≤ f ∧ f ≤ 124 ∧ k = r) ∨ (f = 85 ∧ 53 ≤ k ∧ k ≤ 59) ∨ f = 133
def FRm (r : Nat) (S S' : SD) : Prop := S'.2 = S.2 ∧ ∀ f j k, ¬ own r f k → gD S' f j k = gD S f j k
theorem FRm_rf {r : Nat} {S : SD} : FRm r S S := ⟨rfl, fun _ _ _ _ => rfl⟩
theorem FRm_tr {r : Nat} {S S1 S2 : SD} (h : FRm r S S1) (h2 : FRm r S1 S2) : FRm r S S2 := ⟨h2.1.trans h.1, fun f j k a => (h2.2 f j k a).trans (h.2 f j k a)⟩
theorem FRm_w {r f j k : Nat} {v : Int} {S S1 : SD} (h : FRm r S S1) (hc : own r f k) : FRm r S (wD S1 f j k v) := ⟨h.1, fun f' j' k' a => by
  rw [← h.2 f' j' k' a]
  show (if f' = f ∧ j' = j ∧ k' = k then v else S1.1 f' j' k') = S1.1 f' j' k'
  rw [if_neg]
  rintro ⟨rfl, rfl, rfl⟩
  exact a hc⟩
theorem FRm_G {r : Nat} {C : List (Nat × Nat)} {S S' : SD} (h : EqG [] C S S') (hc : C.all (fun c => (c.1 == 85) && Nat.ble 53 c.2 && Nat.ble c.2 59) = true) : FRm r S S' := ⟨Prod.ext h.2 h.1.1, fun f j k a => h.1.2 f j k (fun q => by cases q) (fun q => by
  have h1 := (Bool.and_eq_true _ _).mp (List.all_eq_true.mp hc _ q)
  have h2 := (Bool.and_eq_true _ _).mp h1.1
  exact a (Or.inr (Or.inr (Or.inr (Or.inr (Or.inl ⟨eq_of_beq h2.1, Nat.le_of_ble_eq_true h2.2, Nat.le_of_ble_eq_true h1.2⟩))))))⟩
theorem TPc_G {C : List (Nat × Nat)} {S S' : SD} (x : EqG [] C S S') (hc : (!C.contains (29, 2) && C.all (fun c => !(c.1 == 30))) = true) (h : TPc B n S) : TPc B n S' := by
  have hc := (Bool.and_eq_true _ _).mp hc
  exact ⟨(EqX_c x.1 29 2 (by rw [hc.1]; rfl) 0).trans h.1, fun k => (EqX_a x.1 30 (by rw [hc.2]; rfl) 0 k).trans (h.2 k)⟩
theorem TPm_G {C : List (Nat × Nat)} {S S' : SD} (x : EqG [] C S S') (hc : (!C.contains (85, 31) && C.all (fun c => !(c.1 == 112))) = true) (h : TPm A n S) : TPm A n S' := by
  have hc := (Bool.and_eq_true _ _).mp hc
  exact ⟨(EqX_c x.1 85 31 (by rw [hc.1]; rfl) 0).trans h.1, fun k => (EqX_a x.1 112 (by rw [hc.2]; rfl) 0 k).trans (h.2 k)⟩
theorem mtc_n {cs : List Int} {q : Nat} (hcs : ∀ i, i < cs.length → 97 ≤ cs.getD i 0 ∧ cs.getD i 0 ≤ 122) (h : mtc B n cs q = true) (hq : q ≤ n ∨ 0 < cs.length) : q + cs.length ≤ n := by
  obtain ⟨m1, m2⟩ := (mtc_i _ _).mp h
  by_cases e : cs.length = 0
  · omega
  · have h1 := m1 (cs.length - 1) (by omega)
    have h2 := hcs (cs.length - 1) (by omega)
    have := bt_ge (B := B) (n := n) (p := q + (cs.length - 1)) (by omega)
    omega
theorem WRD_n {j p : Nat} (hj : j < 12) (h : WRD B n j p = true) : skp B n p + (strT j).length ≤ n := mtc_n (strT_c j hj) h (Or.inr (by have := strT_l j hj; omega))
theorem DOK_t {lo hi : Int} {p : Nat} (h : DOK B n lo hi p = true) : p < de B n p ∧ lo ≤ dnu B n p ∧ dnu B n p ≤ hi := by
  have := of_decide_eq_true h
  exact ⟨this.1, this.2.2⟩
theorem sk_n {p : Nat} (h : p ≤ n) : skp B n p ≤ n := skp_hi h (Nat.le_refl _)
theorem de_n {p : Nat} (h : p ≤ n) : de B n p ≤ n := de_hi h (Nat.le_refl _)
def TOK (B : Nat → Int) (n : Nat) (th : Int) (p : Nat) : Bool := WRD B n 2 p && (DOK B n 0 39 (skp B n p + 1) && decide (dnu B n (skp B n p + 1) < th))
def tfl (B : Nat → Int) (n : Nat) (p : Nat) : Int := if WRD B n 2 p then (if DOK B n 0 39 (skp B n p + 1) then 1 + 8 * (skp B n p : Int) + 4 else dfl B n (skp B n p + 1)) else 1 + 8 * (skp B n p : Int)
abbrev tnx (B : Nat → Int) (n p : Nat) : Nat := de B n (skp B n p + 1)
abbrev tvl (B : Nat → Int) (n p : Nat) : Int := dnu B n (skp B n p + 1)
theorem q_thingC {S : SD} {p : Nat} (hd : 4 ≤ d) (hn : n ≤ 200) (h : TPc B n S) (hp : p ≤ n) (hpl : (gD S 29 0 4) = (p : Int)) (ht : (gD S 3 0 10) = th) : ∃ S', EE false d 76 [vr (some (29, 0))] S = some (vi (bi (TOK B n th p)), S') ∧ EqG [] [(29, 4), (29, 5), (29, 6), (29, 8)] S S' ∧ (TOK B n th p = true → (gD S' 29 0 4) = (tnx B n p : Int) ∧ (gD S' 29 0 6) = tvl B n p) ∧ (TOK B n th p = false → (gD S' 29 0 5) = tfl B n p) := by
  have hs := sk_n (B := B) hp
  have c2 := (E76 (d := d) (by omega) S).trans (b76_0 oo (EE false (d - 1)) 999999 S)
  rw [q_wordC (by omega) hn h (by decide) (by omega) hpl, b_I] at c2
  unfold TOK tfl
  cases hw : WRD B n 2 p with
  | false =>
    rw [hw, if_pos (by decide), g_e, q_fail (by omega) _ _ (by omega) (by omega), b_I, if_pos (Or.inl rfl), Int.add_zero] at c2
    refine ⟨_, c2, EqG_wC (EqG_wC EqG_rf (by decide)) (by decide), fun q => absurd q Bool.false_ne_true, fun _ => ?_⟩
    rw [g_e, if_neg (by decide)]
  | true =>
    rw [hw, if_neg (by decide), g_e, awn (by omega), wD_ww, q_digC (p := skp B n p + 1) (by omega) hn (by omega) (TPc_w h (by decide)) g_e] at c2
    unfold FNc at c2
    cases hD : DOK B n 0 39 (skp B n p + 1) with
    | false =>
      rw [hD, if_neg (by decide), b_I, if_pos rfl] at c2
      refine ⟨_, c2, EqG_wC (EqG_wC (EqG_wC (EqG_wC EqG_rf (by decide)) (by decide)) (by decide)) (by decide), fun q => absurd q Bool.false_ne_true, fun _ => ?_⟩
      rw [g_e, if_pos rfl, if_neg (by decide)]
    | true =>
      obtain ⟨k1, k2, k3⟩ := DOK_t hD
      rw [hD, if_pos rfl, b_I, if_neg (by decide)] at c2
      simp (disch := decide) only [g_k, g_e] at c2
      rw [E96 (by omega), b96_0, if_neg (by omega), g_f (by decide), g_f (by decide), g_f (by decide), g_f (by decide), ht] at c2
      by_cases c3 : dnu B n (skp B n p + 1) < th
      · rw [if_pos c3, b_I, if_neg (by decide)] at c2
        refine ⟨resS c2, by rw [decide_eq_true c3]; exact c2, EqG_wC (EqG_wC (EqG_wC (EqG_wC EqG_rf (by decide)) (by decide)) (by decide)) (by decide), fun _ => ?_, fun q => absurd (show true = false by rw [decide_eq_true c3] at q; exact q) (by decide)⟩
        · rw [g_k (by decide), g_e, g_e]
          exact ⟨rfl, rfl⟩
      · rw [if_neg c3, b_I, if_pos rfl, q_fail (by omega) _ _ (by omega) (by omega), b_I, if_pos rfl] at c2
        refine ⟨resS c2, by rw [decide_eq_false c3]; exact c2, EqG_wC (EqG_wC (EqG_wC (EqG_wC (EqG_wC EqG_rf (by decide)) (by decide)) (by decide)) (by decide)) (by decide), fun q => absurd (show false = true by rw [decide_eq_false c3] at q; exact q) Bool.false_ne_true, fun _ => ?_⟩
        · rw [g_e, if_pos rfl, if_pos rfl]
theorem q_thingM {S : SD} {p : Nat} (hd : 3 ≤ d) (hn : n ≤ 200) (hA : TAB A B) (h : TPm A n S) (hp : p ≤ n) (hpl : (gD S 85 0 53) = (p : Int)) (ht : (gD S 85 0 6) = th) (h0 : (gD S 85 0 54) = 0) : ∃ S', EE false d 233 [vr (some (85, 0))] S = some (vi (bi (TOK B n th p)), S') ∧ EqG [] [(85, 53), (85, 54), (85, 55), (85, 57)] S S' ∧ (TOK B n th p = true → (gD S' 85 0 53) = (tnx B n p : Int) ∧ (gD S' 85 0 55) = tvl B n p ∧ (gD S' 85 0 54) = 0) ∧ (TOK B n th p = false → (gD S' 85 0 54) = tfl B n p) := by
  have hs := sk_n (B := B) hp
  have c2 := (E233 (d := d) (by omega) S).trans (b233_0 oo (EE false (d - 1)) 999999 S)
  have qw := q_wordM (d := d - 1) (j := 2) (by omega) hn hA h (by decide) (by omega) hpl
  have qw : EE false (d - 1) 227 [vr (some (85, 0)), vl 116] S = _ := qw
  rw [qw, b_I] at c2
  unfold TOK tfl
  cases hw : WRD B n 2 p with
  | false =>
    rw [hw, if_pos (by decide), g_e, q_fails (by omega) 0 _ (by omega) (by omega) (by rw [g_k (by decide)]; exact h0), b_I, if_pos (Or.inl rfl), Int.add_zero] at c2
    refine ⟨_, c2, EqG_wC (EqG_wC EqG_rf (by decide)) (by decide), fun q => absurd q Bool.false_ne_true, fun _ => ?_⟩
    rw [g_e, if_neg (by decide)]
  | true =>
    rw [hw, if_neg (by decide), g_e, awn (by omega), wD_ww, q_digM (p := skp B n p + 1) (by omega) hn hA (by omega) (TPm_w h (by decide)) (by rw [g_k (by decide)]; exact h0) g_e] at c2
    unfold FNm at c2
    cases hD : DOK B n 0 39 (skp B n p + 1) with
    | false =>
      rw [hD, if_neg (by decide), b_I, if_pos rfl] at c2
      refine ⟨_, c2, ?_, fun q => absurd q Bool.false_ne_true, fun _ => ?_⟩
      · refine EqG_wC ?_ (by decide)
        by_cases e : de B n (skp B n p + 1) = skp B n p + 1
        · rw [if_pos e]
          exact EqG_wC EqG_rf (by decide)
        · rw [if_neg e]
          exact EqG_wC (EqG_wC (EqG_wC EqG_rf (by decide)) (by decide)) (by decide)
      · rw [g_e, if_pos rfl, if_neg (by decide)]
    | true =>
      obtain ⟨k1, k2, k3⟩ := DOK_t hD
      rw [hD, if_pos rfl, b_I, if_neg (by decide)] at c2
      simp (disch := decide) only [g_k, g_e] at c2
      rw [E197 (by omega), b197_0, if_neg (by omega), g_k (by decide), g_k (by decide), g_k (by decide), g_k (by decide), ht] at c2
      by_cases c3 : dnu B n (skp B n p + 1) < th
      · rw [if_pos c3, b_I, if_neg (by decide)] at c2
        refine ⟨resS c2, by rw [decide_eq_true c3]; exact c2, EqG_wC (EqG_wC (EqG_wC (EqG_wC EqG_rf (by decide)) (by decide)) (by decide)) (by decide), fun _ => ?_, fun q => absurd (show true = false by rw [decide_eq_true c3] at q; exact q) (by decide)⟩
        · simp (disch := decide) only [g_k, g_e]
          exact ⟨trivial, trivial, h0⟩
      · rw [if_neg c3, b_I, if_pos rfl, q_fails (by omega) 4 _ (by omega) (by omega) (by simp (disch := decide) only [g_k]; exact h0), b_I, if_pos rfl] at c2
        refine ⟨resS c2, by rw [decide_eq_false c3]; exact c2, EqG_wC (EqG_wC (EqG_wC (EqG_wC (EqG_wC EqG_rf (by decide)) (by decide)) (by decide)) (by decide)) (by decide), fun q => absurd (show false = true by rw [decide_eq_false c3] at q; exact q) Bool.false_ne_true, fun _ => ?_⟩
        · rw [g_e, if_pos rfl, if_pos rfl]
end
