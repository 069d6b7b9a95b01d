/-! layer 2: widths -/
theorem skol {α β : Type} {p : α → Prop} {P : α → β → Prop} (b0 : β) (h : ∀ x, p x → ∃ y, P x y) : ∃ f : α → β, ∀ x, p x → P x (f x) := by
  refine ⟨fun x => @dite _ (p x) (Classical.propDecidable _) (fun hx => Classical.choose (h x hx)) (fun _ => b0), fun x hx => ?_⟩
  show P x (@dite _ (p x) (Classical.propDecidable _) (fun hx => Classical.choose (h x hx)) (fun _ => b0))
  rw [dif_pos hx]
  exact Classical.choose_spec (h x hx)
theorem mulb {r x : Int} (h1 : 0 ≤ r ∧ r ≤ 10000) (h2 : 0 ≤ x ∧ x ≤ 3999) : 0 ≤ r * x ∧ r * x ≤ 39990000 := by
  have a1 := Int.mul_nonneg h1.1 h2.1
  have a2 := Int.mul_le_mul_of_nonneg_right h1.2 h2.1
  omega
section
variable {d : Nat}
theorem said_all {Sc Sm : SD} {N : Nat} (hN : (gD Sc 13 0 16) = (N : Int)) (hT : IT Sc Sm) (hW : IW Sc Sm) (hK : IC Sc Sm) (t f : Nat) (ht : (t : Int) < (gD Sc 3 0 10)) (hf : f < 3) (at' kn : Int) : ∃ r, (∀ d, 2 ≤ d → EE false d 142 [vr (some (13, 0)), vi (t : Int), vi (f : Int), vi at', vi kn] Sc = some (vi r, Sc)) ∧ (∀ d, 1 ≤ d → EE false d 217 [vr (some (85, 0)), vi (t : Int), vi (f : Int), vi at', vi kn] Sm = some (vi r, Sm)) ∧ (r = -1 ∨ ∃ w : Nat, r = (w : Int) ∧ w < N ∧ PS Sc t f at' kn w) := by
  have uIW := hW; unfold IW at uIW; obtain ⟨w1, w2, w3, w4, w5, w6, w7, w8, w9, w10, w11, w12, w13, w14, w15, w16, w17, w18, w19, w20, w21, w22, w23, w24⟩ := uIW
  obtain ⟨r, h1, h2⟩ := q_saidBy (d := 2) hN hT hW hK (Nat.le_refl _) t f ht hf at' kn
  have un : ∀ r', Best (PS Sc t f at' kn) (fun k => (gD Sc 15 0 k)) N r' → r' = r := fun r' h => Best_un (fun k l hk hl p q e => w21 k l (by omega) (by omega) (by rw [p.1, q.1]) e) h h2
  refine ⟨r, fun d hd => ?_, fun d hd => ?_, ?_⟩
  · obtain ⟨r', a, b⟩ := q_saidBy (d := d) hN hT hW hK hd t f ht hf at' kn
    rw [a, un r' b]
  · obtain ⟨r', a, b⟩ := q_M_saying (d := d) hN hW hd t f hf at' kn
    rw [a, un r' b]
  · rcases h2 with ⟨h5, _⟩ | ⟨w, h5, h6, h7, _⟩
    · exact Or.inl h5
    · exact Or.inr ⟨w, h5, h6, h7⟩
theorem g_bd {Sc Sm : SD} (hT : IT Sc Sm) (hW : IW Sc Sm) (w f : Nat) (hw : (w : Int) < (gD Sc 13 0 16)) (at' : Int) (h1 : (gD Sc 18 0 w) ≤ at') (h2 : at' ≤ 3999) (hn : (gD Sc 23 0 (3 * w + f)) ≠ -1000000) : -100000 ≤ gLo Sc w f at' ∧ gLo Sc w f at' ≤ gHi Sc w f at' ∧ gHi Sc w f at' ≤ 100000 := by
  have uIT := hT; unfold IT at uIT; obtain ⟨t1, t2, t3, t4, t5, t6, t7, t8, t9, t10, t11, t12, t13, t14, t15, t16⟩ := uIT
  have uIW := hW; unfold IW at uIW; obtain ⟨w1, w2, w3, w4, w5, w6, w7, w8, w9, w10, w11, w12, w13, w14, w15, w16, w17, w18, w19, w20, w21, w22, w23, w24⟩ := uIW
  have b := w15 w hw
  have b2 := w14 (3 * w + f)
  have b3 := t11 (rowT Sc w f)
  have b4 := mulb (t12 (rowT Sc w f)) (show 0 ≤ at' - (gD Sc 18 0 w) ∧ at' - (gD Sc 18 0 w) ≤ 3999 by omega)
  have e : grown Sc w f at' = (gD Sc 8 0 (rowT Sc w f)) * (at' - (gD Sc 18 0 w)) := by
    unfold grown
    rw [aw_id (z := at' - (gD Sc 18 0 w)) (by omega), aw_id (by omega)]
  have e1 : aw oo ((gD Sc 23 0 (3 * w + f)) - grown Sc w f at') = (gD Sc 23 0 (3 * w + f)) - grown Sc w f at' := by rw [e]; exact aw_id (by omega)
  have e2 : aw oo ((gD Sc 23 0 (3 * w + f)) + grown Sc w f at') = (gD Sc 23 0 (3 * w + f)) + grown Sc w f at' := by rw [e]; exact aw_id (by omega)
  unfold gLo gHi
  rw [e1, e2, e]
  clear e1 e2
  omega
theorem width_all {Sc Sm : SD} {N : Nat} (hN : (gD Sc 13 0 16) = (N : Int)) (hnow : IN Sc Sm) (hT : IT Sc Sm) (hW : IW Sc Sm) (hK : IC Sc Sm) (t f : Nat) (ht : (t : Int) < (gD Sc 3 0 10)) (hf : f < 3) (at' : Int) (h1 : (gD Sc 2 0 9) ≤ at') (h2 : at' ≤ 3999) : ∃ va : Int × Int, (∀ d, 4 ≤ d → EE false d 37 [vr (some (68, 0)), vi (t : Int), vi (f : Int), vi at', vi (gD Sc 2 0 9)] Sc = some (vi va.1, Sc)) ∧ (∀ d, 5 ≤ d → EE false d 38 [vr (some (68, 0)), vi (t : Int), vi (f : Int), vi at', vi (gD Sc 2 0 9)] Sc = some (vi va.2, Sc)) ∧ (∀ d, 3 ≤ d → EE false d 289 [vr (some (85, 0)), vi (t : Int), vi (f : Int), vi at', vi 0] Sm = some (vi va.1, Sm)) ∧ (∀ d, 3 ≤ d → EE false d 289 [vr (some (85, 0)), vi (t : Int), vi (f : Int), vi at', vi 1] Sm = some (vi va.2, Sm)) ∧ 0 ≤ va.2 ∧ va.2 ≤ va.1 ∧ va.1 ≤ 200000 := by
  have uN := hnow; unfold IN at uN
  obtain ⟨n1, n2, n3⟩ := uN
  obtain ⟨r, c1, m1, hr⟩ := said_all hN hT hW hK t f ht hf at' (gD Sc 2 0 9)
  have uT := hT; unfold IT at uT
  obtain ⟨t1, t2, t3, t4, t5, t6, t7, t8, t9, t10, t11, t12, t13, t14, t15, t16⟩ := uT
  have ht4 : t < 40 := by omega
  generalize hrow : ((gD Sc 9 0 t) * 3 + (f : Int)).toNat = row
  have b1 := t11 row
  have b2 := t12 row
  have b3 := mulb (r := (gD Sc 8 0 row)) (x := at' - (gD Sc 2 0 9)) b2 (by omega)
  have l1 : ∀ d, 2 ≤ d → _ := fun d hd => q_least (d := d) (S := Sc) hd t f ht ht4 hf (t5 t)
  have l2 : ∀ d, 2 ≤ d → _ := fun d hd => q_most (d := d) (S := Sc) hd t f ht ht4 hf (t5 t)
  have l3 : ∀ d, 2 ≤ d → _ := fun d hd => q_rate (d := d) (S := Sc) hd t f ht ht4 hf (t5 t)
  have k1 : ∀ d, 1 ≤ d → _ := fun d hd => q_M_least (d := d) hT hd t f ht4 hf
  have k2 : ∀ d, 1 ≤ d → _ := fun d hd => q_M_most (d := d) hT hd t f ht4 hf
  have k3 : ∀ d, 1 ≤ d → _ := fun d hd => q_M_rate (d := d) hT hd t f ht4 hf
  simp only [hrow] at l1 l2 l3 k1 k2 k3
  have a1 : aw oo ((gD Sc 7 0 row) - (gD Sc 6 0 row)) = (gD Sc 7 0 row) - (gD Sc 6 0 row) := aw_id (by omega)
  have a2 : aw oo (aw oo (2 * (gD Sc 8 0 row)) * aw oo (at' - (gD Sc 2 0 9))) = 2 * ((gD Sc 8 0 row) * (at' - (gD Sc 2 0 9))) := by
    rw [aw_id (z := 2 * (gD Sc 8 0 row)) (by omega), aw_id (z := at' - (gD Sc 2 0 9)) (by omega), Int.mul_assoc, aw_id (by omega)]
  have asked : ∀ v, (∀ d, 4 ≤ d → EE false d 37 [vr (some (68, 0)), vi (t : Int), vi (f : Int), vi at', vi (gD Sc 2 0 9)] Sc = some (vi v, Sc)) → ∀ d, 5 ≤ d → EE false d 38 [vr (some (68, 0)), vi (t : Int), vi (f : Int), vi at', vi (gD Sc 2 0 9)] Sc = some (vi (min (min (2 * ((gD Sc 8 0 row) * (at' - (gD Sc 2 0 9)))) ((gD Sc 7 0 row) - (gD Sc 6 0 row))) v), Sc) := fun v hv d hd => by
    rw [E38 (by omega), b38_0, l3 (d - 1) (by omega), b_I, l2 (d - 1) (by omega), b_I, l1 (d - 1) (by omega), b_I, hv (d - 1) (by omega), b_I, a1, a2]
    rfl
  rcases hr with rfl | ⟨w, rfl, hw, hp⟩
  · have w0 : ∀ d, 4 ≤ d → EE false d 37 [vr (some (68, 0)), vi (t : Int), vi (f : Int), vi at', vi (gD Sc 2 0 9)] Sc = some (vi ((gD Sc 7 0 row) - (gD Sc 6 0 row)), Sc) := fun d hd => by
      rw [E37 (by omega), b37_0, c1 (d - 1) (by omega), b_I, if_pos rfl, l2 (d - 1) (by omega), b_I, l1 (d - 1) (by omega), b_I, a1]
    refine ⟨(_, _), w0, asked _ w0, fun d hd => ?_, fun d hd => ?_, ?_, ?_, ?_⟩
    · rw [E289 (by omega), b289_0, n1, m1 (d - 1) (by omega), b_I, k2 (d - 1) (by omega), b_I, k1 (d - 1) (by omega), b_I, if_pos (by decide), if_pos rfl, a1]
    · rw [E289 (by omega), b289_0, n1, m1 (d - 1) (by omega), b_I, k2 (d - 1) (by omega), b_I, k1 (d - 1) (by omega), b_I, if_pos (by decide), if_neg (by decide), k3 (d - 1) (by omega), b_I, a1, n1, a2, q_M_less _ (by omega), b_I, q_M_less _ (by omega), b_I]
      clear a1 a2
      exact congrArg (fun z => some (vi z, Sm)) (by show min _ _ = min _ _; omega)
    · clear a1 a2; show 0 ≤ min _ _; omega
    · clear a1 a2; show min _ _ ≤ _; omega
    · clear a1 a2; show _ ≤ _; omega
  · have hwN : (w : Int) < (gD Sc 13 0 16) := by omega
    obtain ⟨p1, p2, p3, p4, p5⟩ := hp
    have gb := g_bd hT hW w f hwN at' p3 h2 p5
    have a3 : aw oo (gHi Sc w f at' - gLo Sc w f at') = gHi Sc w f at' - gLo Sc w f at' := aw_id (by omega)
    have w0 : ∀ d, 4 ≤ d → EE false d 37 [vr (some (68, 0)), vi (t : Int), vi (f : Int), vi at', vi (gD Sc 2 0 9)] Sc = some (vi (gHi Sc w f at' - gLo Sc w f at'), Sc) := fun d hd => by
      have ge := q_guessEdge (d := d - 1) hT hW (by omega) w f hwN hf at'
      rw [E37 (by omega), b37_0, c1 (d - 1) (by omega), b_I, if_neg (by omega), ge.2, b_I, ge.1, b_I, a3]
    refine ⟨(_, _), w0, asked _ w0, fun d hd => ?_, fun d hd => ?_, ?_, ?_, ?_⟩
    · have ge := q_M_guess (d := d - 1) hT hW (by omega) t w f hwN p1 hf at'
      rw [E289 (by omega), b289_0, n1, m1 (d - 1) (by omega), b_I, k2 (d - 1) (by omega), b_I, k1 (d - 1) (by omega), b_I, if_neg (by omega), ge.2, b_I, ge.1, b_I, if_pos rfl, a3]
    · have ge := q_M_guess (d := d - 1) hT hW (by omega) t w f hwN p1 hf at'
      rw [E289 (by omega), b289_0, n1, m1 (d - 1) (by omega), b_I, k2 (d - 1) (by omega), b_I, k1 (d - 1) (by omega), b_I, if_neg (by omega), ge.2, b_I, ge.1, b_I, if_neg (by decide), k3 (d - 1) (by omega), b_I, a1, n1, a2, a3, q_M_less _ (by omega), b_I, q_M_less _ (by omega), b_I]
      clear a1 a2 a3
      exact congrArg (fun z => some (vi z, Sm)) (by show min _ _ = min _ _; omega)
    · clear a1 a2 a3; show 0 ≤ min _ _; omega
    · clear a1 a2 a3; show min _ _ ≤ _; omega
    · clear a1 a2 a3; show _ ≤ _; omega
/-- sums over bits -/
def sB (b : Nat → Bool) (V : Nat → Int) : Nat → Int
  | 0 => 0
  | t + 1 => sB b V t + (if b t then V t else 0)
theorem sB_b {b : Nat → Bool} {V : Nat → Int} {B : Int} (hB : 0 ≤ B) : ∀ {n : Nat}, (∀ t, t < n → 0 ≤ V t ∧ V t ≤ B) → 0 ≤ sB b V n ∧ sB b V n ≤ B * (n : Int)
  | 0, _ => by simp [sB]
  | n + 1, h => by
    have i1 := sB_b (b := b) hB (n := n) (fun t ht => h t (by omega))
    have i2 := h n (by omega)
    have e : B * ((n + 1 : Nat) : Int) = B * (n : Int) + B := by rw [Int.natCast_add, Int.mul_add]; simp
    simp only [sB]
    rw [e]
    split <;> omega
theorem sB_ext {b : Nat → Bool} {V : Nat → Int} {N : Nat} : ∀ {m : Nat}, (∀ k, N ≤ k → k < m → b k = false) → N ≤ m → sB b V m = sB b V N
  | 0, _, h => by rw [show N = 0 by omega]
  | m + 1, h1, h => by
    by_cases e : N = m + 1
    · rw [e]
    · simp only [sB]
      rw [h1 m (by omega) (by omega), sB_ext (fun k a b => h1 k a (by omega)) (by omega)]
      simp
theorem bitc (x : Int) (t : Nat) (ht : t ≤ 40) : (ab oo 9 (ab oo 5 (ab oo 8 x (t : Int)) 1) 1 = 0) = (tb x t = true) := by
  rw [bit64 x t ht]
  cases tb x t <;> decide
theorem bitc0 (x : Int) (t : Nat) (ht : t ≤ 40) : (ab oo 9 (ab oo 5 (ab oo 8 x (t : Int)) 1) 0 = 0) = (tb x t = false) := by
  rw [bit64 x t ht]
  cases tb x t <;> decide
theorem q_isAbout {S : SD} (hd : 1 ≤ d) (q t : Nat) (hq : q < 8) (ht : t ≤ 40) : EE false d 36 [vr (some (68, 0)), vi (q : Int), vi (t : Int)] S = some (vi (if tb (gD S 70 0 q) t then 1 else 0), S) := by
  rw [E36 hd, b36_0, bnd (by omega), tn]
  simp only [bitc _ t ht]
  cases tb (gD S 70 0 q) t <;> rfl
/-- all that the sums need -/
def WH (Sc Sm : SD) (T : Nat) (at' : Int) (VA : Nat → Nat → Int × Int) : Prop := (gD Sc 3 0 10) = (T : Int) ∧ T ≤ 40 ∧ (gD Sm 85 0 6) = (T : Int) ∧ ∀ f t : Nat, f < 3 → t < T → (∀ d, 4 ≤ d → EE false d 37 [vr (some (68, 0)), vi (t : Int), vi (f : Int), vi at', vi (gD Sc 2 0 9)] Sc = some (vi (VA f t).1, Sc)) ∧ (∀ d, 5 ≤ d → EE false d 38 [vr (some (68, 0)), vi (t : Int), vi (f : Int), vi at', vi (gD Sc 2 0 9)] Sc = some (vi (VA f t).2, Sc)) ∧ (∀ d, 3 ≤ d → EE false d 289 [vr (some (85, 0)), vi (t : Int), vi (f : Int), vi at', vi 0] Sm = some (vi (VA f t).1, Sm)) ∧ (∀ d, 3 ≤ d → EE false d 289 [vr (some (85, 0)), vi (t : Int), vi (f : Int), vi at', vi 1] Sm = some (vi (VA f t).2, Sm)) ∧ 0 ≤ (VA f t).2 ∧ (VA f t).2 ≤ (VA f t).1 ∧ (VA f t).1 ≤ 200000
theorem WH_ex {Sc Sm : SD} (hnow : IN Sc Sm) (hT : IT Sc Sm) (hW : IW Sc Sm) (hK : IC Sc Sm) (at' : Int) (h1 : (gD Sc 2 0 9) ≤ at') (h2 : at' ≤ 3999) : ∃ T VA, WH Sc Sm T at' VA := by
  have uW := hW; unfold IW at uW
  have uIT := hT; unfold IT at uIT; obtain ⟨t1, t2, t3, t4, t5, t6, t7, t8, t9, t10, t11, t12, t13, t14, t15, t16⟩ := uIT
  obtain ⟨N, hN⟩ : ∃ N : Nat, (gD Sc 13 0 16) = (N : Int) := Int.eq_ofNat_of_zero_le uW.2.1
  obtain ⟨T, hTT⟩ : ∃ N : Nat, (gD Sc 3 0 10) = (N : Int) := Int.eq_ofNat_of_zero_le t2
  obtain ⟨VA, h⟩ := skol (p := fun x : Nat × Nat => x.1 < 3 ∧ x.2 < T) (0, 0) (fun x hx => width_all hN hnow hT hW hK x.2 x.1 (by omega) hx.1 at' h1 h2)
  exact ⟨T, fun f t => VA (f, t), hTT, by omega, t1.trans hTT, fun f t hf ht => h (f, t) ⟨hf, ht⟩⟩
def VV (VA : Nat → Nat → Int × Int) (f t : Nat) : Int := (VA f t).1
def MX (VA : Nat → Nat → Int × Int) (asked : Int) (f t : Nat) : Int := if tb asked t then (VA f t).2 else (VA f t).1
theorem w_sumOf {Sc Sm : SD} {T : Nat} {at' : Int} {VA} (hH : WH Sc Sm T at' VA) (hQ : IQ Sc Sm) (hd : 5 ≤ d) (q f : Nat) (hq : q < 8) (hf : (gD Sc 69 0 q) = (f : Int)) (hf3 : f < 3) : ∀ (n t : Nat), t ≤ 40 → 40 - t < n → run oo (EE false d) false mi_39 n 26 [(0, vr (some (68, 0))), (1, vi (q : Int)), (2, vi at'), (3, vi (gD Sc 2 0 9)), (4, vi (sB (tb (gD Sc 70 0 q)) (VV VA f) t)), (5, vi (t : Int))] [] Sc = some (vi (sB (tb (gD Sc 70 0 q)) (VV VA f) 40), Sc) := by
  obtain ⟨hT, hT4, hM, hV⟩ := hH
  have uIQ := hQ; unfold IQ at uIQ; obtain ⟨qu1, qu2, qu3, qu4, qu5, qu6, qu7, qu8, qu9, qu10⟩ := uIQ
  intro n
  induction n with
  | zero => intro t h1 h2; omega
  | succ n ih =>
    intro t h1 h2
    rw [b39_26]
    by_cases ht : t < 40
    · have e1 := awp (show t < 1000000 by omega)
      have i1 := ih (t + 1) (by omega) (by omega)
      rw [if_pos (by omega), q_isAbout (by omega) q t hq h1, b_I]
      by_cases hb : tb (gD Sc 70 0 q) t = true
      · have htT : t < T := by
          apply Decidable.byContradiction
          intro z
          rw [qu10 q t (by omega) ht] at hb
          cases hb
        have hv := hV f t hf3 htT
        have sb := sB_b (b := tb (gD Sc 70 0 q)) (V := VV VA f) (B := 200000) (n := t) (by decide) (fun u hu => by
          have := (hV f u hf3 (by omega)).2.2.2.2
          unfold VV
          omega)
        have e2 : aw oo (sB (tb (gD Sc 70 0 q)) (VV VA f) t + (VA f t).1) = sB (tb (gD Sc 70 0 q)) (VV VA f) (t + 1) := by
          rw [aw_id (by omega)]
          simp only [sB, hb, if_true]
          rfl
        rw [if_pos hb, if_neg (by decide), bnd (by omega), tn, hf, hv.1 d (by omega), b_I, e2, e1]
        exact i1
      · have e2 : sB (tb (gD Sc 70 0 q)) (VV VA f) (t + 1) = sB (tb (gD Sc 70 0 q)) (VV VA f) t := by
          simp [sB, hb]
        rw [if_neg hb, if_pos rfl, e1]
        rw [e2] at i1
        exact i1
    · have e : t = 40 := by omega
      subst e
      rw [if_neg (by omega)]
theorem q_sumOf {Sc Sm : SD} {T : Nat} {at' : Int} {VA} (hH : WH Sc Sm T at' VA) (hQ : IQ Sc Sm) (hd : 6 ≤ d) (q f : Nat) (hq : (q : Int) < (gD Sc 68 0 9)) (hf : (gD Sc 69 0 q) = (f : Int)) (hf3 : f < 3) : EE false d 39 [vr (some (68, 0)), vi (q : Int), vi at', vi (gD Sc 2 0 9)] Sc = some (vi (sB (tb (gD Sc 70 0 q)) (VV VA f) T), Sc) := by
  have uQ := hQ; unfold IQ at uQ
  have h8 : q < 8 := by omega
  rw [E39 (by omega), b39_0, if_neg (by omega), if_pos hq, if_pos (by omega)]
  have := w_sumOf (d := d - 1) hH hQ (by omega) q f h8 hf hf3 999999 0 (by omega) (by omega)
  rw [sB_ext (N := T) (m := 40) (fun k h1 h2 => uQ.2.2.2.2.2.2.2.2.2 q k (by rw [hH.1]; omega) h2) hH.2.1] at this
  exact this
theorem w_M_tog {Sc Sm : SD} {T : Nat} {at' : Int} {VA} (hH : WH Sc Sm T at' VA) (hQ : IQ Sc Sm) (hd : 3 ≤ d) (asked : Int) (q f : Nat) (hq : q < 8) (hf : (gD Sc 69 0 q) = (f : Int)) (hf3 : f < 3) : ∀ (n t : Nat), t ≤ T → T - t < n → run oo (EE false d) false mi_290 n 6 [(0, vr (some (85, 0))), (1, vi (q : Int)), (2, vi at'), (3, vl asked), (5, vi (sB (tb (gD Sc 70 0 q)) (MX VA asked f) t)), (6, vi (t : Int))] [] Sm = some (vi (sB (tb (gD Sc 70 0 q)) (MX VA asked f) T), Sm) := by
  obtain ⟨hT, hT4, hM, hV⟩ := hH
  have uIQ := hQ; unfold IQ at uIQ; obtain ⟨qu1, qu2, qu3, qu4, qu5, qu6, qu7, qu8, qu9, qu10⟩ := uIQ
  intro n
  induction n with
  | zero => intro t h1 h2; omega
  | succ n ih =>
    intro t h1 h2
    rw [b290_6, hM]
    by_cases ht : t < T
    · have e1 := awp (show t < 1000000 by omega)
      have i1 := ih (t + 1) (by omega) (by omega)
      have hv := hV f t hf3 ht
      have b1 : (0 ≤ (q : Int) ∧ (q : Int) < 8) = True := eq_true (by omega)
      rw [if_pos (by omega)]
      simp only [b1, if_true, tn, qu4, qu6, hf, bitc _ t (show t ≤ 40 by omega)]
      by_cases hb : tb (gD Sc 70 0 q) t = true
      · have sb := sB_b (b := tb (gD Sc 70 0 q)) (V := MX VA asked f) (B := 200000) (n := t) (by decide) (fun u hu => by
          have := (hV f u hf3 (by omega)).2.2.2.2
          unfold MX
          split <;> omega)
        rw [if_pos hb]
        by_cases ha : tb asked t = true
        · have e2 : aw oo (sB (tb (gD Sc 70 0 q)) (MX VA asked f) t + (VA f t).2) = sB (tb (gD Sc 70 0 q)) (MX VA asked f) (t + 1) := by
            rw [aw_id (by omega)]
            simp only [sB, MX, hb, ha, if_true]
          rw [if_pos ha, hv.2.2.2.1 d (by omega), b_I, e2, e1]
          exact i1
        · have e2 : aw oo (sB (tb (gD Sc 70 0 q)) (MX VA asked f) t + (VA f t).1) = sB (tb (gD Sc 70 0 q)) (MX VA asked f) (t + 1) := by
            rw [aw_id (by omega)]
            simp only [sB, MX, hb, ha, if_true, Bool.false_eq_true, if_false]
          rw [if_neg ha, hv.2.2.1 d (by omega), b_I, e2, e1]
          exact i1
      · have e2 : sB (tb (gD Sc 70 0 q)) (MX VA asked f) (t + 1) = sB (tb (gD Sc 70 0 q)) (MX VA asked f) t := by
          simp [sB, hb]
        rw [if_neg hb, e1]
        rw [e2] at i1
        exact i1
    · have e : t = T := by omega
      subst e
      rw [if_neg (by omega)]
theorem q_M_tog {Sc Sm : SD} {T : Nat} {at' : Int} {VA} (hH : WH Sc Sm T at' VA) (hQ : IQ Sc Sm) (hd : 4 ≤ d) (asked : Int) (q f : Nat) (hq : q < 8) (hf : (gD Sc 69 0 q) = (f : Int)) (hf3 : f < 3) : EE false d 290 [vr (some (85, 0)), vi (q : Int), vi at', vl asked] Sm = some (vi (sB (tb (gD Sc 70 0 q)) (MX VA asked f) T), Sm) := by
  have hT4 := hH.2.1
  rw [E290 (by omega), b290_0]
  exact w_M_tog (d := d - 1) hH hQ (by omega) asked q f hq hf hf3 999999 0 (by omega) (by omega)
theorem MX_0 (VA : Nat → Nat → Int × Int) (f : Nat) : MX VA 0 f = VV VA f := by
  funext t
  unfold MX VV
  rw [tb_0]
  rfl
theorem o_width (hd : 12 ≤ d) (a1 a2 : Int) : PI2 d CI2 177 291 vi [vi a1, vi a2] := by
  refine PI2_ro (fun i Sc Sm hi hC => ?_)
  obtain ⟨hN, hT, hS, hW, hK, hO, hX, hP, hR, hF, hA, hH, hQ, hG⟩ := hC
  have uIN := hN; unfold IN at uIN; obtain ⟨n1, n2, n3⟩ := uIN
  have uIQ := hQ; unfold IQ at uIQ; obtain ⟨qu1, qu2, qu3, qu4, qu5, qu6, qu7, qu8, qu9, qu10⟩ := uIQ
  have x0 : vl (aw oo ((gD Sm 85 0 100) - 1)) = vl ((gD Sc 68 0 9) - 1) := congrArg vl (by rw [qu1]; exact aw_id (by omega))
  rw [E177 (by omega), b177_0, E291 (by omega), b291_0, x0]
  by_cases h2 : (gD Sc 2 0 9) ≤ a2 ∧ a2 ≤ 3999
  · obtain ⟨T, VA, hH⟩ := WH_ex hN hT hW hK a2 h2.1 h2.2
    rw [q_in1 (by omega) _ _ _ h2, b_I, if_neg (by decide)]
    by_cases h1 : 0 ≤ a1 ∧ a1 < (gD Sc 68 0 9)
    · obtain ⟨q, rfl⟩ := Int.eq_ofNat_of_zero_le h1.1
      obtain ⟨f, hf⟩ := Int.eq_ofNat_of_zero_le (qu5 q).1
      have hf3 : f < 3 := by have := (qu5 q).2; omega
      refine ⟨sB (tb (gD Sc 70 0 q)) (VV VA f) T, ?_, ?_⟩
      · rw [q_sumOf hH hQ (by omega) q f h1.2 hf hf3, b_I]
      · rw [q_M_in1 (by omega) _ _ _ (by omega), b_I, if_neg (by decide), n1, q_M_in1 (by omega) _ _ _ h2, b_I, if_neg (by decide), q_M_tog hH hQ (by omega) 0 q f (by omega) hf hf3, b_I, MX_0]
    · refine ⟨-1, ?_, ?_⟩
      · rw [E39 (by omega), b39_0]
        by_cases z : a1 < 0
        · rw [if_pos z, b_I]
        · rw [if_neg z, if_neg (by omega), b_I]
      · rw [q_M_in0 (by omega) _ _ _ (by omega), b_I, if_pos rfl]
  · refine ⟨-1, ?_, ?_⟩
    · rw [q_in0 (by omega) _ _ _ (by omega), b_I, if_pos rfl]
    · by_cases h1 : 0 ≤ a1 ∧ a1 < (gD Sc 68 0 9)
      · rw [q_M_in1 (by omega) _ _ _ (by omega), b_I, if_neg (by decide), n1, q_M_in0 (by omega) _ _ _ (by omega), b_I, if_pos rfl]
      · rw [q_M_in0 (by omega) _ _ _ (by omega), b_I, if_pos rfl]
end
