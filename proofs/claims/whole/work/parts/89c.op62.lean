/-! rule: words of the reference; digits on both sides -/
section
variable {d : Nat} {A B : Nat → Int} {n : Nat}
theorem lsl8 {a c : Nat} (ha : a < 281474976710656) (hc : c < 256) : ab oo 6 (ab oo 7 (a : Int) 8) (c : Int) = ((a * 256 + c : Nat) : Int) := by
  have e3 : ((BitVec.ofNat 64 a) <<< 8).toNat = a * 256 := by
    rw [BitVec.toNat_shiftLeft, BitVec.toNat_ofNat, Nat.mod_eq_of_lt (by omega), Nat.shiftLeft_eq, Nat.mod_eq_of_lt (by omega)]
  have e1 : ab oo 7 (a : Int) 8 = ((a * 256 : Nat) : Int) := by
    show (Int64.ofInt (a : Int) <<< ((Int32.ofInt 8).toInt64 &&& 63)).toInt = _
    rw [show ((Int32.ofInt 8).toInt64 &&& 63) = Int64.ofNat 8 by decide]
    show ((Int64.ofInt (a : Int) <<< Int64.ofNat 8).toBitVec).toInt = _
    rw [Int64.toBitVec_shiftLeft]
    have e2 : ((Int64.ofNat 8).toBitVec.smod 64).toNat = 8 := by decide
    show ((BitVec.ofNat 64 a) <<< ((Int64.ofNat 8).toBitVec.smod 64).toNat).toInt = _
    rw [e2, BitVec.toInt_eq_toNat_of_lt (by rw [e3]; omega), e3]
  rw [e1]
  show (Int64.ofInt ((a * 256 : Nat) : Int) ||| Int64.ofInt (c : Int)).toInt = _
  show ((Int64.ofInt ((a * 256 : Nat) : Int) ||| Int64.ofInt (c : Int)).toBitVec).toInt = _
  rw [Int64.toBitVec_or]
  have e4 : (BitVec.ofNat 64 (a * 256) ||| BitVec.ofNat 64 c).toNat = a * 256 + c := by
    rw [BitVec.toNat_or, BitVec.toNat_ofNat, BitVec.toNat_ofNat, Nat.mod_eq_of_lt (by omega), Nat.mod_eq_of_lt (by omega)]
    have := Nat.shiftLeft_add_eq_or_of_lt (i := 8) (b := c) (by omega) a
    rw [Nat.shiftLeft_eq] at this
    exact this.symm
  show (BitVec.ofNat 64 (a * 256) ||| BitVec.ofNat 64 c).toInt = _
  rw [BitVec.toInt_eq_toNat_of_lt (by rw [e4]; omega), e4]
theorem strT_c : ∀ j, j < 12 → ∀ i, i < (strT j).length → 97 ≤ (strT j).getD i 0 ∧ (strT j).getD i 0 ≤ 122 := by decide
def wcd (j : Nat) : Int := ev (fun i => (strT j).getD i 0) (strT j).length
theorem lcm_e {x y : Int} : lcm x y = 0 ↔ x = y := by
  unfold lcm
  by_cases h1 : y < x
  · rw [if_pos h1]
    exact ⟨fun q => by omega, fun q => by omega⟩
  · rw [if_neg h1]
    by_cases h2 : x = y
    · rw [if_pos h2]
      exact ⟨fun _ => h2, fun _ => rfl⟩
    · rw [if_neg h2]
      exact ⟨fun q => by omega, fun q => absurd q h2⟩
theorem w_fin {S : SD} {j q k : Nat} (hj : j < 12) (hl : ∀ i, i < k → 97 ≤ bt B n (q + i) ∧ bt B n (q + i) ≤ 122) (hk : ¬ (97 ≤ bt B n (q + k) ∧ bt B n (q + k) ≤ 122)) : (if (k : Int) < 8 then (if 0 < (k : Int) then (if ab oo 9 (ev (fun i => bt B n (q + i)) (min k 7)) (wcd j) = 0 then some (vi 1, S) else some (vi 0, S)) else some (vi 0, S)) else some (vi 0, S)) = some (vi (bi (mtc B n (strT j) q)), S) := by
  obtain ⟨s1, s2⟩ := strT_l j hj
  have s3 := strT_c j hj
  have e9 : ab oo 9 (ev (fun i => bt B n (q + i)) (min k 7)) (wcd j) = 0 ↔ ev (fun i => bt B n (q + i)) (min k 7) = wcd j := lcm_e
  cases hm : mtc B n (strT j) q with
  | true =>
    obtain ⟨m1, m2⟩ := (mtc_i _ _).mp hm
    have ek : k = (strT j).length := by
      by_cases c : k < (strT j).length
      · exfalso
        have := m1 k c
        have := s3 k c
        omega
      · by_cases c2 : (strT j).length < k
        · exact absurd (hl _ c2) m2
        · omega
    subst ek
    rw [Nat.min_eq_left (by omega)] at e9 ⊢
    rw [if_pos (by omega), if_pos (by omega), if_pos (e9.mpr (ev_cg m1))]
    rfl
  | false =>
    have hno : ¬ (k ≤ 7 ∧ ev (fun i => bt B n (q + i)) k = wcd j) := fun ⟨h1, h2⟩ => by
      obtain ⟨b1, b2⟩ := ev_in hl s3 h2
      have : mtc B n (strT j) q = true := (mtc_i _ _).mpr ⟨fun i hi => b2 i (by omega), by rw [← b1]; exact hk⟩
      rw [hm] at this
      cases this
    by_cases c1 : k ≤ 7
    · rw [Nat.min_eq_left c1] at e9 ⊢
      rw [if_pos (by omega), if_neg (fun q => hno ⟨c1, e9.mp q⟩), ite_self]
      rfl
    · rw [if_neg (by omega)]
      rfl
theorem w_wordM {K : KT} {S : SD} {j q : Nat} (hn : n ≤ 200) (hA : TAB A B) (h : TPm A n S) (hj : j < 12) (hq : q ≤ 400) (hpl : (gD S 85 0 53) = (q : Int)) : ∀ m k, n - (q + k) < m → k ≤ 300 → (∀ i, i < k → 97 ≤ bt B n (q + i) ∧ bt B n (q + i) ≤ 122) → run oo K false mi_227 m 10 [(0, vr (some (85, 0))), (1, vl (wcd j)), (3, vl (ev (fun i => bt B n (q + i)) (min k 7))), (5, vi (k : Int))] [] S = some (vi (bi (mtc B n (strT j) q)), S) := by
  intro m
  induction m with
  | zero => intro k z; omega
  | succ m ih =>
    intro k z1 z2 z3
    obtain ⟨a1, a2, a3⟩ := hA (q + k)
    rw [b227_10, hpl, h.1, awS (by omega)]
    by_cases e : q + k < n
    · have eb : bt B n (q + k) = B (q + k) := by unfold bt; rw [if_pos e]
      rw [if_pos (by omega), if_pos (by omega), tn, h.2]
      by_cases c1 : A (q + k) < 97
      · rw [if_pos c1]
        exact w_fin hj z3 (by rw [eb]; omega)
      · rw [if_neg c1, if_pos (by omega)]
        by_cases c2 : 122 < A (q + k)
        · rw [if_pos c2]
          exact w_fin hj z3 (by rw [eb]; omega)
        · have z4 : ∀ i, i < k + 1 → 97 ≤ bt B n (q + i) ∧ bt B n (q + i) ≤ 122 := fun i hi => by
            by_cases ei : i = k
            · rw [ei, eb]; omega
            · exact z3 i (by omega)
          rw [if_neg c2, awp (show k < 1000000 by omega)]
          by_cases c3 : k < 7
          · have h6 := ev_6 (g := fun i => bt B n (q + i)) (k := k) (fun i hi => by have := z3 i hi; omega) (by omega)
            obtain ⟨x, hx⟩ := Int.eq_ofNat_of_zero_le h6.1
            have eA : A (q + k) = ((A (q + k)).toNat : Int) := by omega
            have e2 : ab oo 6 (ab oo 7 (ev (fun i => bt B n (q + i)) (min k 7)) 8) (A (q + k)) = ev (fun i => bt B n (q + i)) (min (k + 1) 7) := by
              rw [Nat.min_eq_left (by omega), Nat.min_eq_left (by omega), eA, hx, lsl8 (by omega) (by omega)]
              show _ = ev (fun i => bt B n (q + i)) k * 256 + bt B n (q + k)
              rw [hx, eb]
              omega
            rw [if_pos (by omega), if_pos (by omega), e2]
            exact ih (k + 1) (by omega) (by omega) z4
          · rw [if_neg (by omega)]
            have := ih (k + 1) (by omega) (by omega) z4
            rw [Nat.min_eq_right (by omega)] at this ⊢
            exact this
    · rw [if_neg (by omega)]
      exact w_fin hj z3 (by unfold bt; rw [if_neg e]; omega)
theorem q_wordM {S : SD} {j p : Nat} (hd : 2 ≤ d) (hn : n ≤ 200) (hA : TAB A B) (h : TPm A n S) (hj : j < 12) (hp : p ≤ 300) (hpl : (gD S 85 0 53) = (p : Int)) : EE false d 227 [vr (some (85, 0)), vl (wcd j)] S = some (vi (bi (WRD B n j p)), wD S 85 0 53 (skp B n p : Int)) := by
  have := w_wordM (K := EE false (d - 1)) (S := wD S 85 0 53 (skp B n p : Int)) (j := j) (q := skp B n p) hn hA (TPm_w h (by decide)) hj (skp_hi (by omega) (by omega)) g_e 999999 0 (by omega) (by omega) (fun i hi => by omega)
  rw [E227 (by omega), b227_0, q_see (by omega) hn hA h (by omega) hpl, b_I]
  exact this
theorem w_skips {K : KT} {S0 : SD} {j q : Nat} (hn : n ≤ 200) (hA : TAB A B) (hj : j < 12) (hq : q ≤ 400) (hm : mtc B n (strT j) q = true) : ∀ m i (S : SD), i ≤ (strT j).length → (strT j).length - i < m → TPm A n S → (gD S 85 0 53) = ((q + i : Nat) : Int) → run oo K false mi_228 m 0 [(0, vr (some (85, 0)))] [] S = some (vi 0, wD S 85 0 53 ((q + (strT j).length : Nat) : Int)) := by
  obtain ⟨s1, s2⟩ := strT_l j hj
  have s3 := strT_c j hj
  obtain ⟨m1, m2⟩ := (mtc_i _ _).mp hm
  intro m
  induction m with
  | zero => intro i S z1 z2; omega
  | succ m ih =>
    intro i S z1 z2 h hpl
    obtain ⟨a1, a2, a3⟩ := hA (q + i)
    rw [b228_0, hpl, h.1]
    by_cases c : i < (strT j).length
    · have h1 := m1 i c
      have h2 := s3 i c
      have e := bt_ge (B := B) (n := n) (p := q + i) (by omega)
      have eb : bt B n (q + i) = B (q + i) := by unfold bt; rw [if_pos e]
      rw [if_pos (by omega), if_pos (by omega), tn, h.2, if_neg (by omega), if_pos (by omega), if_neg (by omega), awn (by omega), show q + i + 1 = q + (i + 1) by omega, ih (i + 1) _ (by omega) (by omega) (TPm_w h (by decide)) g_e, wD_ww]
    · have e0 : i = (strT j).length := by omega
      subst e0
      rw [wD_id hpl]
      by_cases e : q + (strT j).length < n
      · have eb : bt B n (q + (strT j).length) = B (q + (strT j).length) := by unfold bt; rw [if_pos e]
        rw [eb] at m2
        rw [if_pos (by omega), if_pos (by omega), tn, h.2]
        by_cases c1 : A (q + (strT j).length) < 97
        · rw [if_pos c1]
        · rw [if_neg c1, if_pos (by omega), if_pos (by omega)]
      · rw [if_neg (by omega)]
theorem q_skips {S : SD} {j q : Nat} (hd : 1 ≤ d) (hn : n ≤ 200) (hA : TAB A B) (h : TPm A n S) (hj : j < 12) (hq : q ≤ 400) (hm : mtc B n (strT j) q = true) (hpl : (gD S 85 0 53) = (q : Int)) : EE false d 228 [vr (some (85, 0))] S = some (vi 0, wD S 85 0 53 ((q + (strT j).length : Nat) : Int)) := by
  have := strT_l j hj
  rw [E228 hd]
  exact w_skips (S0 := S) hn hA hj hq hm 1000000 0 S (by omega) (by omega) h hpl
theorem q_takesWM {S : SD} {j p : Nat} (hd : 3 ≤ d) (hn : n ≤ 200) (hA : TAB A B) (h : TPm A n S) (hj : j < 12) (hp : p ≤ 300) (hpl : (gD S 85 0 53) = (p : Int)) : EE false d 229 [vr (some (85, 0)), vl (wcd j)] S = some (vi (bi (WRD B n j p)), wD S 85 0 53 ((if WRD B n j p then skp B n p + (strT j).length else skp B n p : Nat) : Int)) := by
  rw [E229 (by omega), b229_0, q_wordM (by omega) hn hA h hj hp hpl, b_I]
  cases hw : WRD B n j p with
  | false => rw [if_pos (by decide), if_neg (by decide)]; rfl
  | true => rw [if_neg (by decide), if_pos rfl, q_skips (by omega) hn hA (TPm_w h (by decide)) hj (skp_hi (by omega) (by omega)) hw g_e, b_V, wD_ww]; rfl
theorem q_fails {S : SD} (hd : 1 ≤ d) (y : Int) (w : Nat) (hw : w ≤ 1000) (hy : 0 ≤ y ∧ y ≤ 4) (h0 : (gD S 85 0 54) = 0) : EE false d 224 [vr (some (85, 0)), vi y, vi (w : Int)] S = some (vi 0, wD S 85 0 54 (1 + 8 * (w : Int) + y)) := by
  rw [E224 hd, b224_0, if_pos h0, aw0 (z := 8 * (w : Int)) (by omega), aw0 (z := 1 + 8 * (w : Int)) (by omega), aw0 (by omega)]
end
