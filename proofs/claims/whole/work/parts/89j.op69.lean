/-! rule: the reference's stack; both sides at one place -/
section
variable {d : Nat} {A B : Nat → Int} {n : Nat} {th : Int}
def stk : List Int → SD → Prop
  | [], _ => True
  | x :: t, S => gD S 133 0 t.length = x ∧ stk t S
def STK (l : List Int) (S : SD) : Prop := (gD S 85 0 59) = (l.length : Int) ∧ stk l S
theorem stk_cg {S S' : SD} : ∀ (l : List Int), (∀ k, k < l.length → gD S' 133 0 k = gD S 133 0 k) → stk l S → stk l S'
  | [], _, _ => trivial
  | x :: t, h, q => ⟨(h t.length (Nat.lt_succ_self _)).trans q.1, stk_cg t (fun k hk => h k (Nat.lt_succ_of_lt hk)) q.2⟩
/-- what the tests may change -/
def mok (r w g k : Nat) : Prop := (g = 85 ∧ 53 ≤ k ∧ k ≤ 59) ∨ g = 133 ∨ (g = 125 ∧ k = 2 * r + w) ∨ (g = 126 ∧ 200 * r + 100 * w ≤ k ∧ k < 200 * r + 100 * w + 100) ∨ (g = 123 ∧ k = r) ∨ (127 ≤ g ∧ g ≤ 132 ∧ k / 16 = r)
def MFr (r w : Nat) (S S' : SD) : Prop := S'.2 = S.2 ∧ ∀ g j k, ¬ mok r w g k → gD S' g j k = gD S g j k
theorem MFr_rf {r w : Nat} {S : SD} : MFr r w S S := ⟨rfl, fun _ _ _ _ => rfl⟩
theorem MFr_tr {r w : Nat} {S S1 S2 : SD} (h : MFr r w S S1) (h2 : MFr r w S1 S2) : MFr r w S S2 := ⟨h2.1.trans h.1, fun f j k a => (h2.2 f j k a).trans (h.2 f j k a)⟩
theorem MFr_w {r w f j k : Nat} {v : Int} {S S1 : SD} (h : MFr r w S S1) (hc : mok r w f k) : MFr r w S (wD S1 f j k v) := ⟨h.1, fun f' j' k' a => by
  rw [← h.2 f' j' k' a]
  show (if f' = f ∧ j' = j ∧ k' = k then v else S1.1 f' j' k') = S1.1 f' j' k'
  rw [if_neg]
  rintro ⟨rfl, rfl, rfl⟩
  exact a hc⟩
theorem MFr_G {r w : Nat} {C : List (Nat × Nat)} {S S' : SD} (h : EqG [] C S S') (hc : C.all (fun c => (c.1 == 85) && Nat.ble 53 c.2 && Nat.ble c.2 59) = true) : MFr r w S S' := ⟨Prod.ext h.2 h.1.1, fun f j k a => h.1.2 f j k (fun q => by cases q) (fun q => by
  have h1 := (Bool.and_eq_true _ _).mp (List.all_eq_true.mp hc _ q)
  have h2 := (Bool.and_eq_true _ _).mp h1.1
  exact a (Or.inl ⟨eq_of_beq h2.1, Nat.le_of_ble_eq_true h2.2, Nat.le_of_ble_eq_true h1.2⟩))⟩
theorem MFr_O {r w F : Nat} {S S' : SD} (h : ONF (16 * r + F) r S S') (hF : F < 16) : MFr r w S S' := ⟨h.1, fun g j k a => h.2 g j k (fun q => a (by unfold ofm at q; unfold mok; omega))⟩
theorem MFr_F {r w : Nat} {S S' : SD} (h : MFr r w S S') (hw : w < 2) : FRm r S S' := ⟨h.1, fun g j k a => h.2 g j k (fun q => a (by unfold mok at q; unfold own; omega))⟩
theorem MFr_T {r w : Nat} {S S' : SD} (o : MFr r w S S') (h : TPm A n S) : TPm A n S' :=
  ⟨(o.2 85 0 31 (by unfold mok; omega)).trans h.1, fun k => (o.2 112 0 k (by unfold mok; omega)).trans (h.2 k)⟩
def CFr (r base : Nat) (S S' : SD) : Prop := FRc r S S' ∧ (∀ k, k < base → gD S' 54 r k = gD S 54 r k) ∧ ∀ k, k ≠ 7 → k ≠ 9 → gD S' 47 r k = gD S 47 r k
theorem CFr_rf {r base : Nat} {S : SD} : CFr r base S S := ⟨FRc_rf, fun _ _ => rfl, fun _ _ _ => rfl⟩
theorem CFr_tr {r base : Nat} {S S1 S2 : SD} (h : CFr r base S S1) (h2 : CFr r base S1 S2) : CFr r base S S2 := ⟨FRc_tr h.1 h2.1, fun k a => (h2.2.1 k a).trans (h.2.1 k a), fun k a b => (h2.2.2 k a b).trans (h.2.2 k a b)⟩
theorem CFr_G {r base : Nat} {C : List (Nat × Nat)} {S S' : SD} (h : EqG [] C S S') (hc : C.all (fun c => (c.1 == 29) && Nat.ble 4 c.2) = true) : CFr r base S S' := by
  have hh : ∀ g, g ≠ 29 → ∀ j k, gD S' g j k = gD S g j k := fun g hg j k => h.1.2 g j k (fun q => by cases q) (fun q => by
    have := (Bool.and_eq_true _ _).mp (List.all_eq_true.mp hc _ q)
    exact hg (eq_of_beq this.1))
  exact ⟨FRc_G h hc, fun k _ => hh _ (by decide) r k, fun k _ _ => hh _ (by decide) r k⟩
theorem FRc_T {r : Nat} {S S' : SD} (o : FRc r S S') (h : TPc B n S) : TPc B n S' :=
  ⟨(o.2 29 0 2 (by omega) (by omega)).trans h.1, fun k => (o.2 30 0 k (by omega) (by omega)).trans (h.2 k)⟩
/-- the steps laid down so far -/
def TSL (r w L a : Nat) (s : Nat → Int) (S : SD) : Prop := (gD S 125 0 (2 * r + w)) = ((L + a : Nat) : Int) ∧ (∀ k, k < L → (gD S 126 0 (200 * r + 100 * w + k)) = s k) ∧ ∀ i, i < a → (gD S 126 0 (200 * r + 100 * w + L + i)) = -1
theorem q_lays {S : SD} {r w L a : Nat} (hd : 1 ≤ d) (hr : r < 20) (hw : w < 2) (hrs : (gD S 85 0 32) = (r : Int)) (hL : (gD S 125 0 (2 * r + w)) = ((L + a : Nat) : Int)) (h100 : L + a < 100) (v : Int) : EE false d 237 [vr (some (85, 0)), vi (w : Int), vi v] S = some (vi 0, wD (wD S 126 0 (200 * r + 100 * w + (L + a)) v) 125 0 (2 * r + w) ((L + a + 1 : Nat) : Int)) := by
  have e1 := awA (r := r) (w := w) ⟨hr, hw⟩
  have e2 : aw oo (aw oo (100 * ((2 * r + w : Nat) : Int)) + ((L + a : Nat) : Int)) = ((200 * r + 100 * w + (L + a) : Nat) : Int) := by rw [aw0 (z := 100 * ((2 * r + w : Nat) : Int)) (by omega), aw0 (by omega)]; omega
  have e3 : aw oo (((L + a : Nat) : Int) + 1) = ((L + a + 1 : Nat) : Int) := awn (by omega)
  have b1 : (0 ≤ ((2 * r + w : Nat) : Int) ∧ ((2 * r + w : Nat) : Int) < 40) = True := eq_true (by clear e1 e2 e3; omega)
  have b2 : (0 ≤ ((200 * r + 100 * w + (L + a) : Nat) : Int) ∧ ((200 * r + 100 * w + (L + a) : Nat) : Int) < 4000) = True := eq_true (by clear e1 e2 e3; omega)
  rw [E237 hd, b237_0]
  simp (disch := decide) only [hrs, e1, tn, hL, e2, g_f, b1, b2, if_true, e3]
theorem TSL_l {S : SD} {r w L : Nat} {s : Nat → Int} {v : Int} (h : TSL r w L 0 s S) : TSL r w (L + 1) 0 (fun k => if k = L then v else s k) (wD (wD S 126 0 (200 * r + 100 * w + (L + 0)) v) 125 0 (2 * r + w) ((L + 0 + 1 : Nat) : Int)) := by
  obtain ⟨h1, h2, h3⟩ := h
  refine ⟨g_e, fun k hk => ?_, fun i hi => by omega⟩
  rw [g_f (by decide), g_i]
  by_cases e : k = L
  · rw [if_pos (by omega)]
    show v = if k = L then v else s k
    rw [if_pos e]
  · rw [if_neg (by omega)]
    show _ = if k = L then v else s k
    rw [if_neg e]
    exact h2 k (by omega)
theorem q_isOpen {S : SD} {l : List Int} (hd : 1 ≤ d) (h : STK l S) (hl : l.length ≤ 210) (v : Int) : EE false d 239 [vr (some (85, 0)), vi v] S = some (vi (if l.head? = some v then 1 else 0), S) := by
  obtain ⟨h1, h2⟩ := h
  rw [E239 hd, b239_0, h1]
  cases l with
  | nil =>
    rw [if_neg (by show ¬ (0 : Int) < ((0 : Nat) : Int); omega)]
    rfl
  | cons x t =>
    have hl : t.length + 1 ≤ 210 := hl
    have e : aw oo ((((x :: t).length : Nat) : Int) - 1) = ((t.length : Nat) : Int) := by
      show aw oo (((t.length + 1 : Nat) : Int) - 1) = _
      rw [aw0 (by omega)]; omega
    rw [if_pos (by show (0 : Int) < ((t.length + 1 : Nat) : Int); omega), if_pos (by rw [e]; omega), e, tn, h2.1]
    by_cases c : x = v
    · rw [if_pos c, if_pos (by show some x = some v; rw [c])]
    · rw [if_neg c, if_neg (show ¬ (x :: t).head? = some v from fun q => c (Option.some.inj q))]
theorem q_pops {S : SD} {l : List Int} {x : Int} {r w L : Nat} (hd : 2 ≤ d) (h : STK (x :: l) S) (hl : l.length ≤ 200) (hr : r < 20) (hw : w < 2) (hrs : (gD S 85 0 32) = (r : Int)) {a : Nat} (hL : (gD S 125 0 (2 * r + w)) = ((L + a : Nat) : Int)) (h100 : L + a < 100) : EE false d 238 [vr (some (85, 0)), vi (w : Int)] S = some (vi 0, wD (wD (wD S 85 0 59 (l.length : Int)) 126 0 (200 * r + 100 * w + (L + a)) x) 125 0 (2 * r + w) ((L + a + 1 : Nat) : Int)) := by
  obtain ⟨h1, h2, h3⟩ := h
  have e : aw oo ((gD S 85 0 59) - 1) = ((l.length : Nat) : Int) := by
    rw [h1]
    show aw oo (((l.length + 1 : Nat) : Int) - 1) = _
    rw [aw0 (by omega)]; omega
  have ql := q_lays (d := d - 1) (S := wD S 85 0 59 (l.length : Int)) (L := L) (a := a) (by clear e; omega) hr hw (by rw [g_k (by decide)]; exact hrs) (by rw [g_f (by decide)]; exact hL) h100 x
  rw [E238 (by clear e; omega), b238_0, e, g_e, if_pos (by clear e; omega), tn, g_f (by decide), h2, ql, b_V]
theorem STK_tl {S : SD} {l : List Int} {x : Int} {f j : Nat} {v : Int} (h : STK (x :: l) S) : STK l (wD S 85 0 59 (l.length : Int)) :=
  ⟨g_e, stk_cg l (fun k _ => g_f (by decide)) h.2.2⟩
theorem STK_w {S : SD} {l : List Int} {f j k : Nat} {v : Int} (h : STK l S) (hf : f ≠ 133 ∧ f ≠ 85) : STK l (wD S f j k v) :=
  ⟨by rw [g_f (fun q => hf.2 q.symm)]; exact h.1, stk_cg l (fun k _ => g_f (fun q => hf.1 q.symm)) h.2⟩
theorem STK_k {S : SD} {l : List Int} {j k : Nat} {v : Int} (h : STK l S) (hk : k ≠ 59) : STK l (wD S 85 j k v) :=
  ⟨by rw [g_k (fun q => hk q.symm)]; exact h.1, stk_cg l (fun k _ => g_f (by decide)) h.2⟩
/-- the NOTs on the top are laid down -/
theorem w_ended {S0 : SD} {r w L : Nat} {s : Nat → Int} {tau : List Int} (hd : 3 ≤ d) (hr : r < 20) (hw : w < 2) (ht : tau.head? ≠ some (-1)) : ∀ (m b a : Nat) (S : SD) (dp : Nat), b < m → L + (a + b) ≤ 100 → b ≤ dp → b + tau.length ≤ 200 → dp ≤ 5 → MFr r w S0 S → (gD S 85 0 32) = (r : Int) → (gD S 85 0 58) = (dp : Int) → TSL r w L a s S → STK (List.replicate b (-1) ++ tau) S → ∃ S', run oo (EE false d) false mi_240 m 0 [(0, vr (some (85, 0))), (1, vi (w : Int))] [] S = some (vi 0, S') ∧ MFr r w S0 S' ∧ (gD S' 85 0 58) = ((dp - b : Nat) : Int) ∧ TSL r w L (a + b) s S' ∧ STK tau S' ∧ (∀ k, k < 58 → gD S' 85 0 k = gD S 85 0 k) ∧ ∀ g, g ≠ 85 → g ≠ 125 → g ≠ 126 → ∀ k, gD S' g 0 k = gD S g 0 k := by
  intro m
  induction m with
  | zero => intro b a S dp z; omega
  | succ m ih =>
    intro b a S dp z1 z2 z3 z4 z5 x hrs hdp hT hS
    have hlen : (List.replicate b (-1 : Int) ++ tau).length ≤ 210 := by rw [List.length_append, List.length_replicate]; omega
    rw [b240_0, q_isOpen (by omega) hS hlen, b_I]
    cases b with
    | zero =>
      rw [if_neg (show ¬ (List.replicate 0 (-1 : Int) ++ tau).head? = some (-1) from ht), if_pos rfl]
      exact ⟨S, rfl, x, hdp, hT, hS, fun k _ => rfl, fun g _ _ _ k => rfl⟩
    | succ b =>
      have hS' : STK ((-1 : Int) :: (List.replicate b (-1) ++ tau)) S := hS
      have hb : (List.replicate b (-1 : Int) ++ tau).length = b + tau.length := by rw [List.length_append, List.length_replicate]
      have qp := q_pops (d := d) (by omega) hS' (by omega) hr hw hrs hT.1 (by omega)
      rw [if_pos (show (List.replicate (b + 1) (-1 : Int) ++ tau).head? = some (-1) from rfl), if_neg (by decide), qp, b_V]
      simp (disch := decide) only [g_f, g_k, hdp]
      have ed : aw oo ((dp : Int) - 1) = ((dp - 1 : Nat) : Int) := by rw [aw0 (by omega)]; omega
      rw [ed]
      clear ed
      have hx : MFr r w S (wD (wD (wD (wD S 85 0 59 ((List.replicate b (-1 : Int) ++ tau).length : Int)) 126 0 (200 * r + 100 * w + (L + a)) (-1)) 125 0 (2 * r + w) ((L + a + 1 : Nat) : Int)) 85 0 58 ((dp - 1 : Nat) : Int)) := MFr_w (MFr_w (MFr_w (MFr_w MFr_rf (Or.inl ⟨rfl, by decide, by decide⟩)) (Or.inr (Or.inr (Or.inr (Or.inl ⟨rfl, by omega, by omega⟩))))) (Or.inr (Or.inr (Or.inl ⟨rfl, rfl⟩)))) (Or.inl ⟨rfl, by decide, by decide⟩)
      obtain ⟨S', i1, i2, i3, i4, i5, i6, i7⟩ := ih b (a + 1) _ (dp - 1) (by omega) (by omega) (by omega) (by omega) (by omega) (MFr_tr x hx) (by rw [g_k (by decide), g_f (by decide), g_f (by decide), g_k (by decide)]; exact hrs) g_e (by
        obtain ⟨t1, t2, t3⟩ := hT
        refine ⟨by rw [g_f (by decide), g_e, Nat.add_assoc], fun k hk => ?_, fun i hi => ?_⟩
        · rw [g_f (by decide), g_f (by decide), g_i, if_neg (by omega), g_f (by decide)]
          exact t2 k hk
        · rw [g_f (by decide), g_f (by decide), g_i]
          by_cases e : i = a
          · rw [if_pos (by omega)]
          · rw [if_neg (by omega), g_f (by decide)]
            exact t3 i (by omega)) (STK_k (STK_w (STK_w (STK_tl (f := 0) (j := 0) (v := 0) hS') (by decide)) (by decide)) (by decide))
      refine ⟨S', i1, i2, ?_, ?_, i5, fun k hk => ?_, fun g g1 g2 g3 k => ?_⟩
      · rw [i3, show dp - 1 - b = dp - (b + 1) by omega]
      · rw [show a + (b + 1) = a + 1 + b by omega]; exact i4
      · rw [i6 k hk, g_k (by omega), g_f (by decide), g_f (by decide), g_k (by omega)]
      · rw [i7 g g1 g2 g3 k, g_f g1, g_f g2, g_f g3, g_f g1]
theorem q_ended {S : SD} {r w L b : Nat} {s : Nat → Int} {tau : List Int} {dp : Nat} (hd : 4 ≤ d) (hr : r < 20) (hw : w < 2) (ht : tau.head? ≠ some (-1)) (h1 : L + b ≤ 100) (h2 : b ≤ dp) (h3 : b + tau.length ≤ 200) (h4 : dp ≤ 5) (hrs : (gD S 85 0 32) = (r : Int)) (hdp : (gD S 85 0 58) = (dp : Int)) (hT : TSL r w L 0 s S) (hS : STK (List.replicate b (-1) ++ tau) S) : ∃ S', EE false d 240 [vr (some (85, 0)), vi (w : Int)] S = some (vi 0, S') ∧ MFr r w S S' ∧ (gD S' 85 0 58) = ((dp - b : Nat) : Int) ∧ TSL r w L b s S' ∧ STK tau S' ∧ (∀ k, k < 58 → gD S' 85 0 k = gD S 85 0 k) ∧ ∀ g, g ≠ 85 → g ≠ 125 → g ≠ 126 → ∀ k, gD S' g 0 k = gD S g 0 k := by
  have := w_ended (d := d - 1) (S0 := S) (L := L) (s := s) (by omega) hr hw ht 1000000 b 0 S dp (by omega) (by omega) h2 h3 h4 MFr_rf hrs hdp hT hS
  rw [Nat.zero_add] at this
  rw [E240 (by omega)]
  exact this
theorem stk_in {S : SD} {x : Int} : ∀ (l : List Int), stk l S → x ∈ l → ∃ k, k < l.length ∧ gD S 133 0 k = x
  | [], _, h => by cases h
  | y :: t, q, h => by
    rcases List.mem_cons.mp h with h | h
    · exact ⟨t.length, Nat.lt_succ_self _, q.1.trans h.symm⟩
    · obtain ⟨k, h1, h2⟩ := stk_in t q.2 h
      exact ⟨k, Nat.lt_succ_of_lt h1, h2⟩
theorem stk_at {S : SD} : ∀ (l : List Int), stk l S → ∀ k, k < l.length → gD S 133 0 k ∈ l
  | [], _, k, h => absurd h (by show ¬ k < 0; omega)
  | y :: t, q, k, h => by
    have h : k < t.length + 1 := h
    by_cases e : k = t.length
    · rw [e, q.1]
      exact List.mem_cons_self
    · exact List.mem_cons_of_mem _ (stk_at t q.2 k (by omega))
theorem w_inBr {K : KT} {S : SD} {len : Nat} (h1 : (gD S 85 0 59) = (len : Int)) (h2 : len ≤ 210) : ∀ (m j : Nat), j ≤ len → len - j < m → ((∃ k, j ≤ k ∧ k < len ∧ gD S 133 0 k = -4) → run oo K false mi_243 m 2 [(0, vr (some (85, 0))), (1, vi (j : Int))] [] S = some (vi 1, S)) ∧ ((∀ k, j ≤ k → k < len → gD S 133 0 k ≠ -4) → run oo K false mi_243 m 2 [(0, vr (some (85, 0))), (1, vi (j : Int))] [] S = some (vi 0, S)) := by
  intro m
  induction m with
  | zero => intro j z1 z2; omega
  | succ m ih =>
    intro j z1 z2
    rw [b243_2, h1]
    by_cases c : j < len
    · obtain ⟨i1, i2⟩ := ih (j + 1) (by omega) (by omega)
      rw [if_pos (by omega), if_pos (by omega), tn, awp (show j < 1000000 by omega)]
      refine ⟨fun ⟨k, k1, k2, k3⟩ => ?_, fun q => ?_⟩
      · by_cases e : gD S 133 0 j = -4
        · rw [if_pos e]
        · rw [if_neg e]
          refine i1 ⟨k, ?_, k2, k3⟩
          by_cases e2 : k = j
          · rw [e2] at k3; exact absurd k3 e
          · omega
      · rw [if_neg (q j (Nat.le_refl j) c)]
        exact i2 (fun k a b => q k (by omega) b)
    · rw [if_neg (by omega)]
      exact ⟨fun ⟨k, k1, k2, k3⟩ => by omega, fun _ => rfl⟩
theorem q_inBr1 {S : SD} {l : List Int} (hd : 1 ≤ d) (h : STK l S) (hl : l.length ≤ 210) (h4 : (-4) ∈ l) : EE false d 243 [vr (some (85, 0))] S = some (vi 1, S) := by
  obtain ⟨k, k1, k2⟩ := stk_in l h.2 h4
  rw [E243 hd, b243_0]
  exact (w_inBr (K := EE false (d - 1)) h.1 hl 999999 0 (by omega) (by omega)).1 ⟨k, by omega, k1, k2⟩
theorem q_inBr0 {S : SD} {l : List Int} (hd : 1 ≤ d) (h : STK l S) (hl : l.length ≤ 210) (h4 : (-4) ∉ l) : EE false d 243 [vr (some (85, 0))] S = some (vi 0, S) := by
  rw [E243 hd, b243_0]
  exact (w_inBr (K := EE false (d - 1)) h.1 hl 999999 0 (by omega) (by omega)).2 (fun k _ k2 e => h4 (e ▸ stk_at l h.2 k k2))
theorem q_opens {S : SD} {l : List Int} {dp : Nat} {x : Int} (hd : 2 ≤ d) (h : STK l S) (hl : l.length < 210) (hdp : (gD S 85 0 58) = (dp : Int)) (hdp5 : dp ≠ 5) (hdp9 : dp ≤ 5) : EE false d 241 [vr (some (85, 0)), vi x] S = some (vi 1, wD (wD (wD S 85 0 58 ((dp + 1 : Nat) : Int)) 133 0 l.length x) 85 0 59 ((l.length + 1 : Nat) : Int)) := by
  rw [E241 (by omega), b241_0, hdp, if_neg (by omega), awn (by omega), g_k (by decide), h.1, if_pos (by omega), tn, g_f (by decide), g_k (by decide), h.1, awn (by omega)]
theorem STK_p {S : SD} {l : List Int} {x : Int} {v : Int} (h : STK l S) : STK (x :: l) (wD (wD (wD S 85 0 58 v) 133 0 l.length x) 85 0 59 ((l.length + 1 : Nat) : Int)) :=
  ⟨g_e, by rw [g_f (by decide), g_e], stk_cg l (fun k hk => by rw [g_f (by decide), g_i, if_neg (by omega), g_f (by decide)]) h.2⟩
end
