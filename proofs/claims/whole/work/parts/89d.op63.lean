/-! rule: digits on both sides -/
section
variable {d : Nat} {A B : Nat → Int} {n : Nat}
def deF (B : Nat → Int) (n : Nat) : Nat → Nat → Nat
  | 0, p => p
  | m + 1, p => if 48 ≤ bt B n p ∧ bt B n p ≤ 57 then deF B n m (p + 1) else p
def de (B : Nat → Int) (n p : Nat) : Nat := deF B n (n - p) p
theorem de_t {p : Nat} (h : 48 ≤ bt B n p ∧ bt B n p ≤ 57) : de B n p = de B n (p + 1) := by
  have := bt_ge (B := B) (n := n) (p := p) (by omega)
  unfold de
  rw [show n - p = n - (p + 1) + 1 by omega]
  show (if _ then _ else _) = _
  rw [if_pos h]
theorem de_f {p : Nat} (h : ¬ (48 ≤ bt B n p ∧ bt B n p ≤ 57)) : de B n p = p := by
  unfold de
  cases n - p with
  | zero => rfl
  | succ m =>
    show (if _ then _ else _) = _
    rw [if_neg h]
theorem de_sp : ∀ m p : Nat, n - p ≤ m → p ≤ de B n p ∧ (de B n p ≤ n ∨ de B n p = p) := by
  intro m
  induction m with
  | zero =>
    intro p h
    rw [de_f (fun q => by have := bt_ge (B := B) (n := n) (p := p) (by omega); omega)]
    exact ⟨Nat.le_refl _, Or.inr rfl⟩
  | succ m ih =>
    intro p h
    by_cases e : 48 ≤ bt B n p ∧ bt B n p ≤ 57
    · have := bt_ge (B := B) (n := n) (p := p) (by omega)
      rw [de_t e]
      obtain ⟨h1, h2⟩ := ih (p + 1) (by omega)
      exact ⟨by omega, by omega⟩
    · rw [de_f e]
      exact ⟨Nat.le_refl _, Or.inr rfl⟩
theorem de_le {p : Nat} : p ≤ de B n p := (de_sp (n - p) p (Nat.le_refl _)).1
theorem de_hi {p M : Nat} (h : p ≤ M) (hn : n ≤ M) : de B n p ≤ M := by
  have := (de_sp (B := B) (n - p) p (Nat.le_refl _)).2
  omega
def dvl (B : Nat → Int) (n p : Nat) : Nat → Int
  | 0 => 0
  | k + 1 => dvl B n p k * 10 + (bt B n (p + k) - 48)
theorem dvl_6 {p k : Nat} (hg : ∀ i, i < k → 48 ≤ bt B n (p + i) ∧ bt B n (p + i) ≤ 57) (hk : k ≤ 6) : 0 ≤ dvl B n p k ∧ dvl B n p k ≤ 999999 := by
  have h : k = 0 ∨ k = 1 ∨ k = 2 ∨ k = 3 ∨ k = 4 ∨ k = 5 ∨ k = 6 := by omega
  rcases h with rfl | rfl | rfl | rfl | rfl | rfl | rfl
  · simp only [dvl]; omega
  · have a0 := hg 0 (by omega)
    simp only [dvl]; omega
  · have a0 := hg 0 (by omega)
    have a1 := hg 1 (by omega)
    simp only [dvl]; omega
  · have a0 := hg 0 (by omega)
    have a1 := hg 1 (by omega)
    have a2 := hg 2 (by omega)
    simp only [dvl]; omega
  · have a0 := hg 0 (by omega)
    have a1 := hg 1 (by omega)
    have a2 := hg 2 (by omega)
    have a3 := hg 3 (by omega)
    simp only [dvl]; omega
  · have a0 := hg 0 (by omega)
    have a1 := hg 1 (by omega)
    have a2 := hg 2 (by omega)
    have a3 := hg 3 (by omega)
    have a4 := hg 4 (by omega)
    simp only [dvl]; omega
  · have a0 := hg 0 (by omega)
    have a1 := hg 1 (by omega)
    have a2 := hg 2 (by omega)
    have a3 := hg 3 (by omega)
    have a4 := hg 4 (by omega)
    have a5 := hg 5 (by omega)
    simp only [dvl]; omega
/-- the number told at p -/
def dnu (B : Nat → Int) (n p : Nat) : Int := dvl B n p (min (de B n p - p) 6)
def DOK (B : Nat → Int) (n : Nat) (lo hi : Int) (p : Nat) : Bool := decide (p < de B n p ∧ de B n p - p ≤ 6 ∧ lo ≤ dnu B n p ∧ dnu B n p ≤ hi)
def dfl (B : Nat → Int) (n p : Nat) : Int := if de B n p = p then 1 + 8 * (p : Int) else 1 + 8 * (p : Int) + 1
theorem wD_84 {S : SD} {a b c e : Int} : wD (wD (wD (wD S 29 0 8 a) 29 0 4 b) 29 0 8 c) 29 0 4 e = wD (wD S 29 0 8 c) 29 0 4 e := by
  rw [wD_cm (S := wD S 29 0 8 a) (by decide), wD_ww, wD_ww]
def FNc (B : Nat → Int) (n : Nat) (S : SD) (lo hi : Int) (p : Nat) : Option RR := if DOK B n lo hi p then some (vi 1, wD (wD S 29 0 8 (dnu B n p)) 29 0 4 (de B n p : Int)) else some (vi 0, wD (wD (wD S 29 0 8 (dnu B n p)) 29 0 4 (de B n p : Int)) 29 0 5 (dfl B n p))
theorem fin_C {S : SD} {lo hi : Int} {p i : Nat} (hd : 1 ≤ d) (hp : p ≤ 400) (hi' : i ≤ 300) (hde : de B n p = p + i) : (if ((p + i : Nat) : Int) = (p : Int) then
      (bI (EE false d 61 [vr (some (29, 0)), vi ((p + i : Nat) : Int), vi 0] (wD (wD S 29 0 8 (dnu B n p)) 29 0 4 ((p + i : Nat) : Int))) (fun x6 S5 =>
       (if x6 = 0 ∨ x6 = 1 then some (vi x6, S5) else none)))
     else
      (if 6 < (aw oo (((p + i : Nat) : Int) - (p : Int))) then
       (bI (EE false d 61 [vr (some (29, 0)), vi (p : Int), vi 1] (wD (wD S 29 0 8 (dnu B n p)) 29 0 4 ((p + i : Nat) : Int))) (fun x8 S7 =>
        (if x8 = 0 then
         some (vi 0, S7)
        else
         some (vi 1, S7))))
      else
       (bI (EE false d 189 [vi (dnu B n p), vi lo, vi hi] (wD (wD S 29 0 8 (dnu B n p)) 29 0 4 ((p + i : Nat) : Int))) (fun x10 S9 =>
        (if x10 = 0 then
         (bI (EE false d 61 [vr (some (29, 0)), vi (p : Int), vi 1] S9) (fun x12 S11 =>
          (if x12 = 0 then
           some (vi 0, S11)
          else
           some (vi 1, S11))))
        else
         some (vi 1, S9)))))) = FNc B n S lo hi p := by
  unfold FNc DOK dfl
  rw [hde]
  by_cases c0 : i = 0
  · subst c0
    rw [if_pos (by omega), q_fail hd _ _ (by omega) (by omega), b_I, if_pos (Or.inl rfl), decide_eq_false (by omega), if_neg (by decide), if_pos (by omega), Int.add_zero]
    rfl
  · rw [if_neg (by omega), if_neg (show ¬ p + i = p by omega), show aw oo (((p + i : Nat) : Int) - (p : Int)) = (i : Int) by rw [aw0 (by omega)]; omega]
    by_cases c1 : 6 < i
    · rw [if_pos (by omega), q_fail hd _ _ (by omega) (by omega), b_I, if_pos rfl, decide_eq_false (by omega), if_neg (by decide)]
    · rw [if_neg (by omega)]
      by_cases c2 : lo ≤ dnu B n p ∧ dnu B n p ≤ hi
      · rw [q_in1 hd _ _ _ c2, b_I, if_neg (by decide), decide_eq_true (by omega), if_pos rfl]
      · rw [q_in0 hd _ _ _ (by omega), b_I, if_pos rfl, q_fail hd _ _ (by omega) (by omega), b_I, if_pos rfl, decide_eq_false (by omega), if_neg (by decide)]
theorem de_at : ∀ i p : Nat, (∀ k, k < i → 48 ≤ bt B n (p + k) ∧ bt B n (p + k) ≤ 57) → ¬ (48 ≤ bt B n (p + i) ∧ bt B n (p + i) ≤ 57) → de B n p = p + i := by
  intro i
  induction i with
  | zero => intro p _ h; exact de_f h
  | succ i ih =>
    intro p h1 h2
    have h10 : 48 ≤ bt B n p ∧ bt B n p ≤ 57 := h1 0 (by omega)
    rw [de_t h10, ih (p + 1) (fun k hk => by
      have := h1 (k + 1) (by omega)
      rw [show p + (k + 1) = p + 1 + k by omega] at this
      exact this) (by rw [show p + 1 + i = p + (i + 1) by omega]; exact h2)]
    omega
theorem w_digC {S : SD} {lo hi : Int} {p : Nat} (hd : 1 ≤ d) (hn : n ≤ 200) (hp : p ≤ 400) (h : TPc B n S) : ∀ m i : Nat, 201 - i < m → i ≤ 200 → (∀ k, k < i → 48 ≤ bt B n (p + k) ∧ bt B n (p + k) ≤ 57) → run oo (EE false d) false mi_80 m 13 [(0, vr (some (29, 0))), (1, vi lo), (2, vi hi), (3, vi (p : Int)), (4, vi (i : Int))] [] (wD (wD S 29 0 8 (dvl B n p (min i 6))) 29 0 4 ((p + i : Nat) : Int)) = FNc B n S lo hi p := by
  intro m
  induction m with
  | zero => intro i z; omega
  | succ m ih =>
    intro i z1 z2 z3
    have hb := q_byte (d := d) hd hn (TPc_w (TPc_w h (k := 8) (v := dvl B n p (min i 6)) (by decide)) (k := 4) (v := ((p + i : Nat) : Int)) (by decide)) (p + i)
    rw [b80_13]
    have fin : ¬ (48 ≤ bt B n (p + i) ∧ bt B n (p + i) ≤ 57) → dnu B n p = dvl B n p (min i 6) ∧ de B n p = p + i := fun hh => by
      have e := de_at i p z3 hh
      refine ⟨?_, e⟩
      unfold dnu
      rw [e, show p + i - p = i by omega]
    by_cases c0 : i < 200
    · rw [if_pos (by omega), g_e, hb, b_I]
      by_cases c1 : 48 ≤ bt B n (p + i) ∧ bt B n (p + i) ≤ 57
      · have z4 : ∀ k, k < i + 1 → 48 ≤ bt B n (p + k) ∧ bt B n (p + k) ≤ 57 := fun k hk => by
          by_cases ek : k = i
          · rw [ek]; exact c1
          · exact z3 k (by omega)
        rw [q_in1 hd _ _ _ c1, b_I, if_neg (by decide)]
        by_cases c2 : i < 6
        · have hv := dvl_6 z3 (show i ≤ 6 by omega)
          have ed : dvl B n p (i + 1) = dvl B n p i * 10 + (bt B n (p + i) - 48) := rfl
          rw [if_pos (by omega), g_e, hb, b_I]
          simp (disch := decide) only [g_k, g_e]
          rw [Nat.min_eq_left (by omega), aw0 (z := dvl B n p i * 10) (by omega), aw0 (z := dvl B n p i * 10 + bt B n (p + i)) (by omega), aw0 (z := dvl B n p i * 10 + bt B n (p + i) - 48) (by omega), awp (show i < 1000000 by omega), awn (by omega), wD_84, show dvl B n p i * 10 + bt B n (p + i) - 48 = dvl B n p (min (i + 1) 6) by rw [Nat.min_eq_left (by omega), ed]; omega, show p + i + 1 = p + (i + 1) by omega]
          exact ih (i + 1) (by omega) (by omega) z4
        · have := ih (i + 1) (by omega) (by omega) z4
          rw [Nat.min_eq_right (by omega)] at this ⊢
          rw [if_neg (by omega), g_e, awp (show i < 1000000 by omega), awn (by omega), wD_ww, show p + i + 1 = p + (i + 1) by omega]
          exact this
      · obtain ⟨f1, f2⟩ := fin c1
        have g8 : gD (wD (wD S 29 0 8 (dvl B n p (min i 6))) 29 0 4 ((p + i : Nat) : Int)) 29 0 8 = dvl B n p (min i 6) := by rw [g_k (by decide), g_e]
        rw [q_in0 hd _ _ _ (by omega), b_I, if_pos rfl, g_e, g8, ← f1]
        exact fin_C hd hp (by omega) f2
    · have c1 : ¬ (48 ≤ bt B n (p + i) ∧ bt B n (p + i) ≤ 57) := fun q => by
        have := bt_ge (B := B) (n := n) (p := p + i) (by omega)
        omega
      obtain ⟨f1, f2⟩ := fin c1
      have g8 : gD (wD (wD S 29 0 8 (dvl B n p (min i 6))) 29 0 4 ((p + i : Nat) : Int)) 29 0 8 = dvl B n p (min i 6) := by rw [g_k (by decide), g_e]
      rw [if_neg (by omega), g_e, g8, ← f1]
      exact fin_C hd hp (by omega) f2
theorem q_digC {S : SD} {lo hi : Int} {p : Nat} (hd : 2 ≤ d) (hn : n ≤ 200) (hp : p ≤ 400) (h : TPc B n S) (hpl : (gD S 29 0 4) = (p : Int)) : EE false d 80 [vr (some (29, 0)), vi lo, vi hi] S = FNc B n S lo hi p := by
  have := w_digC (d := d - 1) (lo := lo) (hi := hi) (by omega) hn hp h 999999 0 (by omega) (by omega) (fun k hk => by omega)
  rw [E80 (by omega), b80_0, hpl]
  rw [wD_id (S := wD S 29 0 8 (dvl B n p (min 0 6))) (by rw [g_k (by decide)]; exact hpl)] at this
  exact this
def FNm (B : Nat → Int) (n : Nat) (S : SD) (lo hi : Int) (p : Nat) : Option RR := if DOK B n lo hi p then some (vi 1, wD (wD S 85 0 53 (de B n p : Int)) 85 0 57 (dnu B n p)) else some (vi 0, wD (if de B n p = p then S else wD (wD S 85 0 53 (de B n p : Int)) 85 0 57 (dnu B n p)) 85 0 54 (dfl B n p))
theorem w_digM {S : SD} {lo hi : Int} {p : Nat} (hd : 1 ≤ d) (hn : n ≤ 200) (hA : TAB A B) (hp : p ≤ 400) (h : TPm A n S) (h0 : (gD S 85 0 54) = 0) : ∀ m i : Nat, 201 - i < m → i ≤ 200 → 0 < i ∨ (48 ≤ bt B n (p + i) ∧ bt B n (p + i) ≤ 57) → (∀ k, k < i → 48 ≤ bt B n (p + k) ∧ bt B n (p + k) ≤ 57) → run oo (EE false d) false mi_230 m 29 [(0, vr (some (85, 0))), (1, vi lo), (2, vi hi), (3, vi (p : Int)), (4, vi (dvl B n p (min i 6)))] [] (wD S 85 0 53 ((p + i : Nat) : Int)) = FNm B n S lo hi p := by
  intro m
  induction m with
  | zero => intro i z; omega
  | succ m ih =>
    intro i z1 z2 z0 z3
    have hT := TPm_w h (k := 53) (v := ((p + i : Nat) : Int)) (by decide)
    rw [b230_29, g_e, q_digit hd hn hA hT (p + i), b_I]
    by_cases c1 : 48 ≤ bt B n (p + i) ∧ bt B n (p + i) ≤ 57
    · have hlt := bt_ge (B := B) (n := n) (p := p + i) (by omega)
      have eb : bt B n (p + i) = B (p + i) := by unfold bt; rw [if_pos hlt]
      obtain ⟨a1, a2, a3⟩ := hA (p + i)
      have z4 : ∀ k, k < i + 1 → 48 ≤ bt B n (p + k) ∧ bt B n (p + k) ≤ 57 := fun k hk => by
        by_cases ek : k = i
        · rw [ek]; exact c1
        · exact z3 k (by omega)
      rw [decide_eq_true c1, if_neg (by decide), g_e, show aw oo (((p + i : Nat) : Int) - (p : Int)) = (i : Int) by rw [aw0 (by omega)]; omega]
      by_cases c2 : i < 6
      · have hv := dvl_6 z3 (show i ≤ 6 by omega)
        have ed : dvl B n p (i + 1) = dvl B n p i * 10 + (bt B n (p + i) - 48) := rfl
        rw [if_pos (by omega), if_pos (by omega), tn, hT.2, Nat.min_eq_left (by omega), aw0 (z := 10 * dvl B n p i) (by omega), aw0 (z := 10 * dvl B n p i + A (p + i)) (by omega), aw0 (z := 10 * dvl B n p i + A (p + i) - 48) (by omega), awn (by omega), wD_ww, show 10 * dvl B n p i + A (p + i) - 48 = dvl B n p (min (i + 1) 6) by rw [Nat.min_eq_left (by omega), ed]; omega, show p + i + 1 = p + (i + 1) by omega]
        exact ih (i + 1) (by omega) (by omega) (Or.inl (by omega)) z4
      · have := ih (i + 1) (by omega) (by omega) (Or.inl (by omega)) z4
        rw [Nat.min_eq_right (by omega)] at this ⊢
        rw [if_neg (by omega), awn (by omega), wD_ww, show p + i + 1 = p + (i + 1) by omega]
        exact this
    · have i0 : 0 < i := z0.resolve_right c1
      have e := de_at i p z3 c1
      have ev : dnu B n p = dvl B n p (min i 6) := by
        unfold dnu
        rw [e, show p + i - p = i by omega]
      have h02 : (gD S 85 0 54) = 0 := h0
      unfold FNm DOK dfl
      rw [decide_eq_false c1, if_pos (by decide), g_k (by decide), g_e, ev, e, show aw oo (((p + i : Nat) : Int) - (p : Int)) = (i : Int) by rw [aw0 (by omega)]; omega, if_neg (show ¬ p + i = p by omega), if_neg (show ¬ p + i = p by omega)]
      have qf := q_fails (d := d) (S := wD (wD S 85 0 53 ((p + i : Nat) : Int)) 85 0 57 (dvl B n p (min i 6))) hd 1 p (by omega) (by omega) (by rw [g_k (by decide), g_k (by decide)]; exact h0)
      by_cases c2 : 6 < i
      · rw [if_pos (by omega), qf, b_I, if_pos rfl, decide_eq_false (by omega), if_neg (by decide)]
      · rw [if_neg (by omega)]
        by_cases c3 : lo ≤ dvl B n p (min i 6) ∧ dvl B n p (min i 6) ≤ hi
        · rw [q_M_in1 hd _ _ _ c3, b_I, if_neg (by decide), decide_eq_true (by omega), if_pos rfl]
        · rw [q_M_in0 hd _ _ _ (by omega), b_I, if_pos rfl, qf, b_I, if_pos rfl, decide_eq_false (by omega), if_neg (by decide)]
theorem q_digM {S : SD} {lo hi : Int} {p : Nat} (hd : 2 ≤ d) (hn : n ≤ 200) (hA : TAB A B) (hp : p ≤ 400) (h : TPm A n S) (h0 : (gD S 85 0 54) = 0) (hpl : (gD S 85 0 53) = (p : Int)) : EE false d 230 [vr (some (85, 0)), vi lo, vi hi] S = FNm B n S lo hi p := by
  rw [E230 (by omega), b230_0, hpl, q_digit (by omega) hn hA h p, b_I]
  by_cases c1 : 48 ≤ bt B n p ∧ bt B n p ≤ 57
  · have := w_digM (d := d - 1) (lo := lo) (hi := hi) (p := p) (by omega) hn hA hp h h0 999999 0 (by omega) (by omega) (Or.inr c1) (fun k hk => by omega)
    rw [wD_id (S := S) (v := ((p + 0 : Nat) : Int)) hpl] at this
    rw [decide_eq_true c1, if_neg (by decide), hpl]
    exact this
  · have e := de_f c1
    unfold FNm DOK dfl
    rw [decide_eq_false c1, if_pos (by decide), hpl, q_fails (by omega) 0 p (by omega) (by omega) h0, b_I, if_pos (Or.inl rfl), e, if_pos rfl, if_pos rfl, decide_eq_false (by omega), if_neg (by decide), Int.add_zero]
end
