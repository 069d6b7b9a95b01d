/-! rule: what a rule does, on both sides -/
section
variable {d : Nat} {A B : Nat → Int} {n : Nat} {th : Int}
def ACf (r : Nat) (S S' : SD) : Prop := S'.2 = S.2 ∧ ∀ f j k, ¬ (f = 29 ∧ 4 ≤ k) → ¬ (f = 47 ∧ j = r ∧ 12 ≤ k ∧ k ≤ 14) → gD S' f j k = gD S f j k
theorem ACf_rf {r : Nat} {S : SD} : ACf r S S := ⟨rfl, fun _ _ _ _ _ => rfl⟩
theorem ACf_tr {r : Nat} {S S1 S2 : SD} (h : ACf r S S1) (h2 : ACf r S1 S2) : ACf r S S2 := ⟨h2.1.trans h.1, fun f j k a b => (h2.2 f j k a b).trans (h.2 f j k a b)⟩
theorem ACf_w {r f j k : Nat} {v : Int} {S S1 : SD} (h : ACf r S S1) (hc : (f = 29 ∧ 4 ≤ k) ∨ (f = 47 ∧ j = r ∧ 12 ≤ k ∧ k ≤ 14)) : ACf r S (wD S1 f j k v) := ⟨h.1, fun f' j' k' a b => by
  rw [← h.2 f' j' k' a b]
  show (if f' = f ∧ j' = j ∧ k' = k then v else S1.1 f' j' k') = S1.1 f' j' k'
  rw [if_neg]
  rintro ⟨rfl, rfl, rfl⟩
  rcases hc with hc | hc
  · exact a hc
  · exact b hc⟩
theorem ACf_G {r : Nat} {C : List (Nat × Nat)} {S0 S S' : SD} (x : ACf r S0 S) (h : EqG [] C S S') (hc : C.all (fun c => (c.1 == 29) && Nat.ble 4 c.2) = true) : ACf r S0 S' := ACf_tr x ⟨Prod.ext h.2 h.1.1, fun f j k a _ => h.1.2 f j k (fun q => by cases q) (fun q => by
  have := (Bool.and_eq_true _ _).mp (List.all_eq_true.mp hc _ q)
  exact a ⟨eq_of_beq this.1, Nat.le_of_ble_eq_true this.2⟩)⟩
theorem ACf_F {r : Nat} {S S' : SD} (x : ACf r S S') : FRc r S S' := ⟨x.1, fun f j k a b => x.2 f j k a (fun q => b (by omega))⟩
def AMf (r : Nat) (S S' : SD) : Prop := S'.2 = S.2 ∧ ∀ f j k, ¬ (f = 85 ∧ 53 ≤ k ∧ k ≤ 57) → ¬ (119 ≤ f ∧ f ≤ 122 ∧ k = r) → gD S' f j k = gD S f j k
theorem AMf_rf {r : Nat} {S : SD} : AMf r S S := ⟨rfl, fun _ _ _ _ _ => rfl⟩
theorem AMf_tr {r : Nat} {S S1 S2 : SD} (h : AMf r S S1) (h2 : AMf r S1 S2) : AMf r S S2 := ⟨h2.1.trans h.1, fun f j k a b => (h2.2 f j k a b).trans (h.2 f j k a b)⟩
theorem AMf_w {r f j k : Nat} {v : Int} {S S1 : SD} (h : AMf r S S1) (hc : (f = 85 ∧ 53 ≤ k ∧ k ≤ 57) ∨ (119 ≤ f ∧ f ≤ 122 ∧ k = r)) : AMf r S (wD S1 f j k v) := ⟨h.1, fun f' j' k' a b => by
  rw [← h.2 f' j' k' a b]
  show (if f' = f ∧ j' = j ∧ k' = k then v else S1.1 f' j' k') = S1.1 f' j' k'
  rw [if_neg]
  rintro ⟨rfl, rfl, rfl⟩
  rcases hc with hc | hc
  · exact a hc
  · exact b hc⟩
theorem AMf_n {r k : Nat} {v : Int} {S S1 : SD} (h : AMf r S S1) (hk : 53 ≤ k ∧ k ≤ 57) : AMf r S (wD S1 85 0 k v) := AMf_w h (Or.inl ⟨rfl, hk.1, hk.2⟩)
theorem AMf_G {r : Nat} {C : List (Nat × Nat)} {S0 S S' : SD} (x : AMf r S0 S) (h : EqG [] C S S') (hc : C.all (fun c => (c.1 == 85) && Nat.ble 53 c.2 && Nat.ble c.2 57) = true) : AMf r S0 S' := AMf_tr x ⟨Prod.ext h.2 h.1.1, fun f j k a _ => h.1.2 f j k (fun q => by cases q) (fun q => by
  have h1 := (Bool.and_eq_true _ _).mp (List.all_eq_true.mp hc _ q)
  have h2 := (Bool.and_eq_true _ _).mp h1.1
  exact a ⟨eq_of_beq h2.1, Nat.le_of_ble_eq_true h2.2, Nat.le_of_ble_eq_true h1.2⟩)⟩
theorem AMf_F {r : Nat} {S S' : SD} (x : AMf r S S') : FRm r S S' := ⟨x.1, fun f j k a => x.2 f j k (fun q => a (by unfold own; omega)) (fun q => a (by unfold own; omega))⟩
/-- how a text ends on both sides -/
def OUT (r : Nat) (G : SD → SD → Prop) (oC oM : Option RR) (Sc Sm : SD) : Prop := (∃ S' M' fl, oC = some (vi fl, wD S' 29 0 2 0) ∧ oM = some (vi 0, M') ∧ FRc r Sc S' ∧ FRm r Sm M' ∧ gD M' 85 0 54 = fl ∧ 1 ≤ fl ∧ fl ≤ 100000) ∨ (∃ S' M', oC = some (vi 0, wD S' 29 0 2 0) ∧ oM = some (vi 1, M') ∧ FRc r Sc S' ∧ FRm r Sm M' ∧ G S' M')
/-- what it does is the same -/
def RRA (r : Nat) (th : Int) (Sc Sm : SD) : Prop := (gD Sm 120 0 r) = (gD Sc 47 r 12) ∧ 0 ≤ (gD Sc 47 r 12) ∧ (gD Sc 47 r 12) < th ∧ (gD Sm 122 0 r) = (gD Sc 47 r 14)
  ∧ (((gD Sm 119 0 r) = 1 ∧ (gD Sm 121 0 r) = (gD Sc 47 r 13) ∧ 0 ≤ (gD Sc 47 r 13) ∧ (gD Sc 47 r 13) ≤ 2 ∧ -999999 ≤ (gD Sc 47 r 14) ∧ (gD Sc 47 r 14) ≤ 999999) ∨ ((gD Sm 119 0 r) = 0 ∧ (gD Sc 47 r 13) = -1 ∧ 1 ≤ (gD Sc 47 r 14) ∧ (gD Sc 47 r 14) ≤ 60))
def TAIL (d : Nat) (S : SD) : Option RR := (bI (EE false d 68 [vr (some (29, 0)), vi 58] S) (fun x12 S11 =>
            (if x12 = 0 then
             some (vi (gD (wD S11 29 0 2 0) 29 0 5), wD S11 29 0 2 0)
            else
             (bI (EE false d 83 [vr (some (29, 0))] S11) (fun x14 S13 =>
              (if x14 = 0 then
               some (vi (gD (wD S13 29 0 2 0) 29 0 5), wD S13 29 0 2 0)
              else
               (bI (EE false d 69 [vr (some (29, 0))] S13) (fun x16 S15 =>
                (if x16 = 0 then
                 some (vi (gD (wD S15 29 0 2 0) 29 0 5), wD S15 29 0 2 0)
                else
                 some (vi 0, wD S15 29 0 2 0))))))))))
theorem end_C {X S : SD} {q p : Nat} (hd : 3 ≤ d) (hn : n ≤ 200) (h : EE false d 68 [vr (some (29, 0)), vi 58] X = some (vi 1, wD X 29 0 4 (q : Int))) (h2 : EE false d 83 [vr (some (29, 0))] (wD X 29 0 4 (q : Int)) = some (vi 1, S)) (hT : TPc B n S) (hp : p ≤ n) (hpl : (gD S 29 0 4) = (p : Int)) : TAIL d X = if skp B n p < n then some (vi (1 + 8 * (skp B n p : Int)), wD (wD (wD S 29 0 4 (skp B n p : Int)) 29 0 5 (1 + 8 * (skp B n p : Int))) 29 0 2 0) else some (vi 0, wD (wD S 29 0 4 (skp B n p : Int)) 29 0 2 0) := by
  unfold TAIL
  rw [h, b_I, if_neg (by decide), h2, b_I, if_neg (by decide), q_needsEC (by omega) hn hT (by omega) hpl]
  by_cases c : skp B n p < n
  · rw [if_pos c, if_pos c, b_I, if_pos rfl, g_k (by decide), g_e]
  · rw [if_neg c, if_neg c, b_I, if_neg (by decide)]
theorem end_C0 {X S : SD} {q : Nat} (h : EE false d 68 [vr (some (29, 0)), vi 58] X = some (vi 1, wD X 29 0 4 (q : Int))) (h2 : EE false d 83 [vr (some (29, 0))] (wD X 29 0 4 (q : Int)) = some (vi 0, S)) : TAIL d X = some (vi (gD S 29 0 5), wD S 29 0 2 0) := by
  unfold TAIL
  rw [h, b_I, if_neg (by decide), h2, b_I, if_pos rfl, g_k (by decide)]
theorem end_M {S : SD} {p : Nat} (hd : 1 ≤ d) (hn : n ≤ 200) (hA : TAB A B) (hT : TPm A n S) (hp : p ≤ n) (hpl : (gD S 85 0 53) = (p : Int)) (h0 : (gD S 85 0 54) = 0) : (bI (EE false d 225 [vr (some (85, 0))] S) (fun x17 S16 =>
                       (if x17 = (-1) then
                        some (vi 1, S16)
                       else
                        (bI (EE false d 224 [vr (some (85, 0)), vi 0, vi (gD S16 85 0 53)] S16) (fun x19 S18 =>
                         (if x19 = 0 then
                          some (vi 0, S18)
                         else
                          some (vi 1, S18)))))) : Option RR) = if skp B n p < n then some (vi 0, wD (wD S 85 0 53 (skp B n p : Int)) 85 0 54 (1 + 8 * (skp B n p : Int))) else some (vi 1, wD S 85 0 53 (skp B n p : Int)) := by
  have hs := sk_n (B := B) hp
  rw [q_see (by omega) hn hA hT (by omega) hpl, b_I]
  by_cases c : skp B n p < n
  · have hB := hA (skp B n p)
    have hb : bt B n (skp B n p) = B (skp B n p) := by unfold bt; rw [if_pos c]
    rw [if_neg (by rw [hb, hB.1]; omega), if_pos c, g_e, q_fails (by omega) 0 _ (by omega) (by omega) (by rw [g_k (by decide)]; exact h0), b_I, if_pos rfl, Int.add_zero]
  · rw [if_pos (bt_hi c), if_neg c]
theorem gR_A {r : Nat} {S S' : SD} (x : ACf r S S') {f j k : Nat} : gR S' f j k = gR S f j k := by
  have := x.1
  show S'.2.1 f j k = S.2.1 f j k
  rw [this]
theorem TPc_A {r : Nat} {S S' : SD} (x : ACf r S S') (h : TPc B n S) : TPc B n S' :=
  ⟨(x.2 29 0 2 (by omega) (by omega)).trans h.1, fun k => (x.2 30 0 k (by omega) (by omega)).trans (h.2 k)⟩
theorem TPm_AM {r : Nat} {S S' : SD} (x : AMf r S S') (h : TPm A n S) : TPm A n S' :=
  ⟨(x.2 85 0 31 (by omega) (by omega)).trans h.1, fun k => (x.2 112 0 k (by omega) (by omega)).trans (h.2 k)⟩
theorem dfl_b {q : Nat} (h : q ≤ 400) : 1 ≤ dfl B n q ∧ dfl B n q ≤ 5000 := by
  unfold dfl
  by_cases e : de B n q = q
  · rw [if_pos e]; omega
  · rw [if_neg e]; omega
theorem tfl_b {p : Nat} (hn : n ≤ 200) (hp : p ≤ n) : 1 ≤ tfl B n p ∧ tfl B n p ≤ 5000 := by
  have hs := sk_n (B := B) hp
  have := dfl_b (B := B) (n := n) (q := skp B n p + 1) (by omega)
  unfold tfl
  (repeat (any_goals split)) <;> omega
theorem ffl_b {p : Nat} (hn : n ≤ 200) (hp : p ≤ n) : 1 ≤ ffl B n p ∧ ffl B n p ≤ 5000 := by
  have := dfl_b (B := B) (n := n) (q := p + 2) (by omega)
  unfold ffl
  (repeat (any_goals split)) <;> omega
end
