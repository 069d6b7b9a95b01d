/-! the tests of a rule: class and reference -/
section
variable {d : Nat}
abbrev bi (b : Bool) : Int := if b then 1 else 0
theorem bi0 {b : Bool} : (bi b = 0) = (b = false) := by cases b <;> decide
theorem bi01 (b : Bool) : bi b = 0 ∨ bi b = 1 := by cases b <;> decide
def FT (d : Nat) (S : SD) (r : Nat) (at' kn : Int) (k : Nat) : Bool := match EE false d 116 [vr (some (41, 0)), vr (some (47, r)), vi (k : Int), vi at', vi kn] S with
  | some (.inl v, _) => (match EE false d 54 [vr (some (47, r)), vi (k : Int), vi v] S with
    | some (.inl b, _) => b == 1
    | _ => false)
  | _ => false
theorem FT_sp {d' : Nat} {Sc Sm : SD} {N r k : Nat} (hN : (gD Sc 13 0 16) = (N : Int)) (hN4 : N ≤ 400) (hT : IT Sc Sm) (hW : IW Sc Sm) (hK : IC Sc Sm) (hR1 : RR1 r Sc Sm) (hr : r < 20) (hk : (k : Int) < (gD Sc 47 r 7)) (at' kn : Int) (h5 : (gD Sm 85 0 61) = kn) (hd : 3 ≤ d) (hd' : 3 ≤ d') : ∃ v, EE false d 116 [vr (some (41, 0)), vr (some (47, r)), vi (k : Int), vi at', vi kn] Sc = some (vi v, Sc) ∧ EE false d 54 [vr (some (47, r)), vi (k : Int), vi v] Sc = some (vi (bi (FT d Sc r at' kn k)), Sc) ∧ EE false d' 252 [vr (some (85, 0)), vi ((16 * r + k : Nat) : Int), vi at'] Sm = some (vi (bi (FT d Sc r at' kn k)), Sm) := by
  obtain ⟨v, b, h1, h2, h3, h4⟩ := fact_both (d := d) (d' := d') hN hN4 hT hW hK hR1 hr hk at' kn h5 hd hd'
  have e : FT d Sc r at' kn k = (b == 1) := by
    unfold FT
    rw [h2]
    show (match EE false d 54 [vr (some (47, r)), vi (k : Int), vi v] Sc with
    | some (.inl b, _) => b == 1
    | _ => false) = _
    rw [h3]
  have e2 : bi (FT d Sc r at' kn k) = b := by
    rw [e]
    rcases h1 with rfl | rfl <;> rfl
  rw [e2]
  exact ⟨v, h2, h3, h4⟩
def w01 (w : Bool) : Nat := if w then 0 else 1
def TP (S : SD) (r : Nat) (w : Bool) : Nat := if w then 0 else ((gD S 47 r 10)).toNat
def TL (S : SD) (r : Nat) (w : Bool) : Nat := if w then ((gD S 47 r 10)).toNat else ((gD S 47 r 9) - (gD S 47 r 10)).toNat
def Tlo (S : SD) (r : Nat) (w : Bool) : Nat := if w then 0 else ((gD S 47 r 8)).toNat
def Thi (S : SD) (r : Nat) (w : Bool) : Nat := if w then ((gD S 47 r 8)).toNat else ((gD S 47 r 7)).toNat
abbrev TS (S : SD) (r : Nat) (w : Bool) : Nat → Int := fun k => (gD S 54 r (TP S r w + k))
theorem RR_w {Sc Sm : SD} {r : Nat} (h1 : RR1 r Sc Sm) (h2 : RR2 r Sc Sm) (w : Bool) (hw : w = true ∨ (gD Sc 47 r 10) < (gD Sc 47 r 9)) : TP Sc r w + TL Sc r w ≤ 100 ∧ Tlo Sc r w ≤ Thi Sc r w ∧ Thi Sc r w ≤ 16 ∧ ((Thi Sc r w : Nat) : Int) ≤ (gD Sc 47 r 7) ∧ stD (TS Sc r w) ((Tlo Sc r w : Nat) : Int) ((Thi Sc r w : Nat) : Int) (TL Sc r w) = some (0 + 1, Thi Sc r w) ∧ (gD Sm 125 0 (2 * r + w01 w)) = ((TL Sc r w : Nat) : Int) ∧ ∀ k, k < TL Sc r w → (gD Sm 126 0 (200 * r + 100 * w01 w + k)) = TS Sc r w k := by
  unfold RR1 at h1
  obtain ⟨a1, a2, a3, a4, a5, a6⟩ := h1
  unfold RR2 at h2
  obtain ⟨b1, b2, b3, b4, b5, b6, b7, b8, b9⟩ := h2
  cases w with
  | true =>
    have e1 : TS Sc r true = fun k => (gD Sc 54 r k) := by
      funext k
      show (gD Sc 54 r (0 + k)) = _
      rw [Nat.zero_add]
    have e2 : ((Thi Sc r true : Nat) : Int) = (gD Sc 47 r 8) := by
      show ((((gD Sc 47 r 8)).toNat : Nat) : Int) = _
      omega
    have e3 : ((TL Sc r true : Nat) : Int) = (gD Sc 47 r 10) := by
      show ((((gD Sc 47 r 10)).toNat : Nat) : Int) = _
      omega
    have e4 : TP Sc r true = 0 := rfl
    have e5 : Tlo Sc r true = 0 := rfl
    refine ⟨by omega, by omega, by omega, by omega, ?_, ?_, ?_⟩
    · rw [e1, e2, e5]
      exact b8
    · rw [e3]; exact b1
    · intro k hk
      show (gD Sm 126 0 (200 * r + 100 * 0 + k)) = TS Sc r true k
      rw [e1, Nat.mul_zero, Nat.add_zero]
      exact b6 k (by omega)
  | false =>
    have hw : (gD Sc 47 r 10) < (gD Sc 47 r 9) := by
      rcases hw with hw | hw
      · cases hw
      · exact hw
    have e2 : ((Thi Sc r false : Nat) : Int) = (gD Sc 47 r 7) := by
      show ((((gD Sc 47 r 7)).toNat : Nat) : Int) = _
      omega
    have e3 : ((TL Sc r false : Nat) : Int) = (gD Sc 47 r 9) - (gD Sc 47 r 10) := by
      show ((((gD Sc 47 r 9) - (gD Sc 47 r 10)).toNat : Nat) : Int) = _
      omega
    have e4 : ((TP Sc r false : Nat) : Int) = (gD Sc 47 r 10) := by
      show ((((gD Sc 47 r 10)).toNat : Nat) : Int) = _
      omega
    have e5 : ((Tlo Sc r false : Nat) : Int) = (gD Sc 47 r 8) := by
      show ((((gD Sc 47 r 8)).toNat : Nat) : Int) = _
      omega
    refine ⟨by omega, by omega, by omega, by omega, ?_, ?_, ?_⟩
    · rw [e2, e5]
      rcases b9 with ⟨c1, _⟩ | c1
      · omega
      · exact c1
    · rw [e3]; exact b2
    · intro k hk
      exact b7 k (by omega)
def TR (d : Nat) (S : SD) (r : Nat) (w : Bool) (at' kn : Int) : Bool := evS (TS S r w) (FT d S r at' kn) (TL S r w) 0
theorem q_isT {Sc : SD} {Sm : SD} {r : Nat} (hd : 1 ≤ d) (h1 : RR1 r Sc Sm) (h2 : RR2 r Sc Sm) (w : Bool) (hw : w = true ∨ (gD Sc 47 r 10) < (gD Sc 47 r 9)) (F : Nat → Bool) (bits : Int) (hb : ∀ k : Nat, Tlo Sc r w ≤ k → k < Thi Sc r w → ti bits k = F k) : EE false d 55 [vr (some (47, r)), vi (bi w), vi bits] Sc = some (vi (bi (evS (TS Sc r w) F (TL Sc r w) 0)), Sc) := by
  obtain ⟨c1, c2, c3, c4, c5, c6, c7⟩ := RR_w h1 h2 w hw
  have c := w_isT (Sc := Sc) (r := r) (P := TP Sc r w) (L := TL Sc r w) (bits := bits) (F := F) (K := EE false (d - 1)) (by omega) (by omega) (by omega) c1 c5 (fun k k1 k2 => hb k (by omega) (by omega)) 999999 0 0 0 (Tlo Sc r w) (by omega) (by omega) (by show some (0, _) = _; rw [Int.toNat_natCast]) (fun i hi => by omega)
  unfold RR2 at h2
  obtain ⟨b1, b2, b3, b4, b5, b6, b7, b8, b9⟩ := h2
  rw [E55 hd, b55_0]
  cases w with
  | true =>
    have e3 : ab oo 11 (gD Sc 47 r 10) 128 = ((TP Sc r true + TL Sc r true : Nat) : Int) := by
      show min _ _ = (((0 + ((gD Sc 47 r 10)).toNat : Nat) : Int))
      omega
    rw [if_neg (by decide), if_neg (by decide), e3]
    exact c
  | false =>
    have hw : (gD Sc 47 r 10) < (gD Sc 47 r 9) := by
      rcases hw with hw | hw
      · cases hw
      · exact hw
    have e3 : ab oo 11 (gD Sc 47 r 9) 128 = ((TP Sc r false + TL Sc r false : Nat) : Int) := by
      show min _ _ = (((((gD Sc 47 r 10)).toNat + ((gD Sc 47 r 9) - (gD Sc 47 r 10)).toNat : Nat) : Int))
      omega
    have e4 : (gD Sc 47 r 10) = ((TP Sc r false + 0 : Nat) : Int) := by
      show _ = (((((gD Sc 47 r 10)).toNat + 0 : Nat) : Int))
      omega
    rw [if_pos (by decide), if_pos (by decide), e3, e4]
    exact c
theorem w_isTr {Sc Sm : SD} {N r : Nat} (hN : (gD Sc 13 0 16) = (N : Int)) (hN4 : N ≤ 400) (hT : IT Sc Sm) (hW : IW Sc Sm) (hK : IC Sc Sm) (h1 : RR1 r Sc Sm) (h2 : RR2 r Sc Sm) (hr : r < 20) (w : Bool) (hw : w = true ∨ (gD Sc 47 r 10) < (gD Sc 47 r 9)) (at' kn : Int) (h5 : (gD Sm 85 0 61) = kn) (hd : 3 ≤ d) : ∀ (n j : Nat) (bits : Int), Tlo Sc r w ≤ j → j ≤ Thi Sc r w → Thi Sc r w - j < n → (∀ k : Nat, Tlo Sc r w ≤ k → k < j → ti bits k = FT d Sc r at' kn k) → (∀ k : Nat, j ≤ k → k < 32 → ti bits k = false) → run oo (EE false d) false mi_115 n 39 [(0, vr (some (41, 0))), (1, vr (some (47, r))), (2, vi (bi w)), (3, vi at'), (4, vi kn), (5, vi bits), (6, vi ((Thi Sc r w : Nat) : Int)), (7, vi (j : Int))] [] Sc = some (vi (bi (TR d Sc r w at' kn)), Sc) := by
  obtain ⟨c1, c2, c3, c4, c5, c6, c7⟩ := RR_w h1 h2 w hw
  intro n
  induction n with
  | zero => intro j bits z1 z2 z3; omega
  | succ n ih =>
    intro j bits z1 z2 z3 z4 z5
    rw [b115_39]
    by_cases hj : j < Thi Sc r w
    · obtain ⟨v, i1, i2, _⟩ := FT_sp (d := d) (d' := d) hN hN4 hT hW hK h1 hr (k := j) (by omega) at' kn h5 hd hd
      rw [if_pos (by omega), i1, b_I, i2, b_I]
      have e1 := awp (show j < 1000000 by omega)
      rw [e1]
      cases hF : FT d Sc r at' kn j with
      | true =>
        rw [if_neg (by decide)]
        refine ih (j + 1) _ (by omega) (by omega) (by omega) (fun k k1 k2 => ?_) (fun k k1 k2 => ?_)
        · rw [ti_ior, ti_shl j (by omega) k (by omega)]
          by_cases e : k = j
          · subst e; rw [hF, decide_eq_true rfl, Bool.or_true]
          · rw [z4 k k1 (by omega), decide_eq_false e, Bool.or_false]
        · rw [ti_ior, ti_shl j (by omega) k (by omega), z5 k (by omega) k2, decide_eq_false (by omega)]
          rfl
      | false =>
        rw [if_pos (by decide)]
        refine ih (j + 1) _ (by omega) (by omega) (by omega) (fun k k1 k2 => ?_) (fun k k1 k2 => z5 k (by omega) k2)
        by_cases e : k = j
        · subst e; rw [hF, z5 k (by omega) (by omega)]
        · exact z4 k k1 (by omega)
    · rw [if_neg (by omega), q_isT (by omega) h1 h2 w hw (FT d Sc r at' kn) bits (fun k k1 k2 => z4 k k1 (by omega)), b_I, if_pos (bi01 _)]
      rfl
theorem q_isTr {Sc Sm : SD} {N r : Nat} (hN : (gD Sc 13 0 16) = (N : Int)) (hN4 : N ≤ 400) (hT : IT Sc Sm) (hW : IW Sc Sm) (hK : IC Sc Sm) (h1 : RR1 r Sc Sm) (h2 : RR2 r Sc Sm) (hr : r < 20) (w : Bool) (hw : w = true ∨ (gD Sc 47 r 10) < (gD Sc 47 r 9)) (at' kn : Int) (h5 : (gD Sm 85 0 61) = kn) (hd : 4 ≤ d) : EE false d 115 [vr (some (41, 0)), vr (some (47, r)), vi (bi w), vi at', vi kn] Sc = some (vi (bi (TR (d - 1) Sc r w at' kn)), Sc) := by
  obtain ⟨c1, c2, c3, c4, c5, c6, c7⟩ := RR_w h1 h2 w hw
  have c := w_isTr (d := d - 1) hN hN4 hT hW hK h1 h2 hr w hw at' kn h5 (by omega) 999999 (Tlo Sc r w) 0 (by omega) (by omega) (by omega) (fun k k1 k2 => by omega) (fun k k1 k2 => ti_0 k)
  unfold RR1 at h1
  obtain ⟨a1, a2, a3, a4, a5, a6⟩ := h1
  rw [E115 (by omega), b115_0]
  cases w with
  | true =>
    have e3 : ab oo 11 (gD Sc 47 r 8) 16 = ((Thi Sc r true : Nat) : Int) := by
      show min _ _ = ((((gD Sc 47 r 8)).toNat : Nat) : Int)
      omega
    rw [if_neg (by decide), if_neg (by decide), e3]
    exact c
  | false =>
    have e3 : ab oo 11 (gD Sc 47 r 7) 16 = ((Thi Sc r false : Nat) : Int) := by
      show min _ _ = ((((gD Sc 47 r 7)).toNat : Nat) : Int)
      omega
    have e4 : (gD Sc 47 r 8) = ((Tlo Sc r false : Nat) : Int) := by
      show _ = ((((gD Sc 47 r 8)).toNat : Nat) : Int)
      omega
    rw [if_pos (by decide), if_pos (by decide), e3, e4]
    exact c
end
