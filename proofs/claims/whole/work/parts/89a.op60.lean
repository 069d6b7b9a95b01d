/-! rule: the tape and its words, on both sides -/
section
variable {d : Nat} {B : Nat → Int} {n : Nat}
theorem wD_ww {S : SD} {f j k : Nat} {a b : Int} : wD (wD S f j k a) f j k b = wD S f j k b := by
  refine Prod.ext ?_ rfl
  funext f' j' k'
  show (if f' = f ∧ j' = j ∧ k' = k then b else if f' = f ∧ j' = j ∧ k' = k then a else S.1 f' j' k') = if f' = f ∧ j' = j ∧ k' = k then b else S.1 f' j' k'
  by_cases h : f' = f ∧ j' = j ∧ k' = k
  · rw [if_pos h, if_pos h]
  · rw [if_neg h, if_neg h, if_neg h]
theorem wD_id {S : SD} {f j k : Nat} {v : Int} (h : gD S f j k = v) : wD S f j k v = S := by
  refine Prod.ext ?_ rfl
  funext f' j' k'
  show (if f' = f ∧ j' = j ∧ k' = k then v else S.1 f' j' k') = S.1 f' j' k'
  by_cases e : f' = f ∧ j' = j ∧ k' = k
  · obtain ⟨rfl, rfl, rfl⟩ := e
    rw [if_pos ⟨rfl, rfl, rfl⟩]
    exact h.symm
  · rw [if_neg e]
def bt (B : Nat → Int) (n p : Nat) : Int := if p < n then B p else -1
def skF (B : Nat → Int) (n : Nat) : Nat → Nat → Nat
  | 0, p => p
  | m + 1, p => if p < n ∧ B p = 32 then skF B n m (p + 1) else p
def skp (B : Nat → Int) (n p : Nat) : Nat := skF B n (n - p) p
theorem skp_t {p : Nat} (h1 : p < n) (h2 : B p = 32) : skp B n p = skp B n (p + 1) := by
  unfold skp
  rw [show n - p = n - (p + 1) + 1 by omega]
  show (if _ then _ else _) = _
  rw [if_pos ⟨h1, h2⟩]
theorem skp_f {p : Nat} (h : ¬ (p < n ∧ B p = 32)) : skp B n p = p := by
  unfold skp
  cases n - p with
  | zero => rfl
  | succ m =>
    show (if _ then _ else _) = _
    rw [if_neg h]
theorem skp_sp : ∀ m p : Nat, n - p ≤ m → p ≤ skp B n p ∧ (skp B n p ≤ n ∨ skp B n p = p) ∧ ¬ (skp B n p < n ∧ B (skp B n p) = 32) := by
  intro m
  induction m with
  | zero =>
    intro p h
    rw [skp_f (fun q => by omega)]
    exact ⟨Nat.le_refl _, Or.inr rfl, fun q => by omega⟩
  | succ m ih =>
    intro p h
    by_cases e : p < n ∧ B p = 32
    · rw [skp_t e.1 e.2]
      obtain ⟨h1, h2, h3⟩ := ih (p + 1) (by omega)
      exact ⟨by omega, h2.elim Or.inl (fun q => by omega), h3⟩
    · rw [skp_f e]
      exact ⟨Nat.le_refl _, Or.inr rfl, e⟩
theorem skp_le {p : Nat} : p ≤ skp B n p := (skp_sp (n - p) p (Nat.le_refl _)).1
theorem skp_hi {p M : Nat} (h : p ≤ M) (hn : n ≤ M) : skp B n p ≤ M := by
  have := (skp_sp (B := B) (n - p) p (Nat.le_refl _)).2.1
  omega
theorem skp_sk {p : Nat} : skp B n (skp B n p) = skp B n p := skp_f (skp_sp (n - p) p (Nat.le_refl _)).2.2
theorem skp_ne {p q : Nat} (h : q = skp B n p) : bt B n q ≠ 32 := by
  have := (skp_sp (B := B) (n - p) p (Nat.le_refl _)).2.2
  rw [← h] at this
  unfold bt
  by_cases e : q < n
  · rw [if_pos e]; exact fun q => this ⟨e, q⟩
  · rw [if_neg e]; decide
theorem bt_ge {p : Nat} (h : bt B n p ≠ -1) : p < n := by
  unfold bt at h
  by_cases e : p < n
  · exact e
  · rw [if_neg e] at h
    exact absurd rfl h
def TPc (B : Nat → Int) (n : Nat) (S : SD) : Prop := (gD S 29 0 2) = (n : Int) ∧ ∀ k : Nat, (gD S 30 0 k) = B k
theorem TPc_w {S : SD} {k : Nat} {v : Int} (h : TPc B n S) (hk : k ≠ 2) : TPc B n (wD S 29 0 k v) :=
  ⟨by rw [g_k (fun q => hk q.symm)]; exact h.1, fun i => by rw [g_f (by decide)]; exact h.2 i⟩
theorem q_byte {S : SD} (hd : 1 ≤ d) (hn : n ≤ 200) (h : TPc B n S) (p : Nat) : EE false d 62 [vr (some (29, 0)), vi (p : Int)] S = some (vi (bt B n p), S) := by
  rw [E62 hd, b62_0, if_neg (by omega), h.1]
  unfold bt
  by_cases e : p < n
  · rw [if_pos (by omega), if_pos (by omega), if_pos (by omega), tn, if_pos e, h.2]
  · rw [if_neg (by omega), if_neg e]
theorem w_skipC {K : KT} (hn : n ≤ 200) : ∀ (m p : Nat) (S : SD), n - p < m → p ≤ 400 → TPc B n S → (gD S 29 0 4) = (p : Int) → run oo K false mi_63 m 0 [(0, vr (some (29, 0)))] [] S = some (vi 0, wD S 29 0 4 (skp B n p : Int)) := by
  intro m
  induction m with
  | zero => intro p S z; omega
  | succ m ih =>
    intro p S z hp h hpl
    rw [b63_0, hpl, h.1]
    by_cases e : p < n
    · rw [if_pos (by omega), if_pos (by omega), if_pos (by omega), tn, h.2]
      by_cases e2 : B p = 32
      · rw [if_pos e2, awn (by omega), ih (p + 1) _ (by omega) (by omega) (TPc_w h (by decide)) g_e, wD_ww, skp_t e e2]
      · rw [if_neg e2, skp_f (fun q => e2 q.2), wD_id hpl]
    · rw [if_neg (by omega), skp_f (fun q => e q.1), wD_id hpl]
theorem q_skipC {S : SD} {p : Nat} (hd : 1 ≤ d) (hn : n ≤ 200) (h : TPc B n S) (hp : p ≤ 400) (hpl : (gD S 29 0 4) = (p : Int)) : EE false d 63 [vr (some (29, 0))] S = some (vi 0, wD S 29 0 4 (skp B n p : Int)) := by
  rw [E63 hd]
  exact w_skipC hn 1000000 p S (by omega) hp h hpl
def mtc (B : Nat → Int) (n : Nat) : List Int → Nat → Bool
  | [], q => !(decide (97 ≤ bt B n q ∧ bt B n q ≤ 122))
  | c :: t, q => decide (bt B n q = c) && mtc B n t (q + 1)
theorem w_wordC {d : Nat} {S : SD} {j q : Nat} (hd : 1 ≤ d) (hn : n ≤ 200) (h : TPc B n S) (hq : q ≤ 400) (hpl : (gD S 29 0 4) = (q : Int)) : ∀ (t pre : List Int) (m : Nat), strT j = pre ++ t → (strT j).length ≤ 10 → t.length < m → run oo (EE false d) false mi_64 m 11 [(0, vr (some (29, 0))), (1, vr (some (1, j))), (2, vi (strL j)), (3, vi (pre.length : Int))] [] S = some (vi (bi (mtc B n t (q + pre.length))), S) := by
  intro t
  induction t with
  | nil =>
    intro pre m he hl hm
    obtain ⟨m, rfl⟩ : ∃ k, m = k + 1 := ⟨m - 1, by omega⟩
    have eL : strL j = (pre.length : Int) := by
      unfold strL
      rw [he, List.append_nil]
    have hl2 : pre.length ≤ 10 := by rw [he, List.append_nil] at hl; exact hl
    rw [b64_11, eL, if_neg (by omega), hpl, awS (by omega), q_byte hd hn h, b_I]
    show bI (EE false d 189 [vi (bt B n (q + pre.length)), vi 97, vi 122] S) _ = some (vi (bi (!(decide (97 ≤ bt B n (q + pre.length) ∧ bt B n (q + pre.length) ≤ 122)))), S)
    by_cases e : 97 ≤ bt B n (q + pre.length) ∧ bt B n (q + pre.length) ≤ 122
    · rw [q_in1 hd _ _ _ e, b_I, decide_eq_true e]
      rfl
    · rw [q_in0 hd _ _ _ (by omega), b_I, decide_eq_false e]
      rfl
  | cons c t ih =>
    intro pre m he hl hm
    obtain ⟨m, rfl⟩ : ∃ k, m = k + 1 := ⟨m - 1, by omega⟩
    have eL : strL j = ((pre.length + t.length + 1 : Nat) : Int) := by
      unfold strL
      rw [he, List.length_append, List.length_cons]
      rfl
    have hl2 : pre.length + t.length + 1 ≤ 10 := by
      rw [he, List.length_append, List.length_cons] at hl
      omega
    have eC : strC j pre.length = c := by
      unfold strC
      rw [he]
      simp
    have hm : t.length + 1 < m + 1 := hm
    rw [b64_11, eL, if_pos (by omega), hpl, awS (by omega), q_byte hd hn h, b_I, if_pos (by omega), tn, eC]
    show _ = some (vi (bi (decide (bt B n (q + pre.length) = c) && mtc B n t (q + pre.length + 1))), S)
    by_cases e : bt B n (q + pre.length) = c
    · rw [if_pos e, awp (show pre.length < 1000000 by omega), decide_eq_true e, Bool.true_and, ← eL]
      have := ih (pre ++ [c]) m (by rw [he, List.append_assoc]; rfl) hl (by omega)
      rw [List.length_append] at this
      exact this
    · rw [if_neg e, decide_eq_false e, Bool.false_and]
      rfl
/-- word j at p (behind blanks) -/
def WRD (B : Nat → Int) (n j p : Nat) : Bool := mtc B n (strT j) (skp B n p)
theorem strT_l : ∀ j, j < 12 → (strT j).length ≤ 6 ∧ 1 ≤ (strT j).length := by decide
theorem q_wordC {S : SD} {j p : Nat} (hd : 2 ≤ d) (hn : n ≤ 200) (h : TPc B n S) (hj : j < 12) (hp : p ≤ 300) (hpl : (gD S 29 0 4) = (p : Int)) : EE false d 64 [vr (some (29, 0)), vr (some (1, j))] S = some (vi (bi (WRD B n j p)), wD S 29 0 4 (skp B n p : Int)) := by
  have hl := strT_l j hj
  have := w_wordC (d := d - 1) (S := wD S 29 0 4 (skp B n p : Int)) (j := j) (q := skp B n p) (by omega) hn (TPc_w h (by decide)) (skp_hi (by omega) (by omega)) g_e (strT j) [] 999999 rfl (by omega) (by omega)
  rw [E64 (by omega), b64_0, q_skipC (by omega) hn h (by omega) hpl, b_V]
  exact this
theorem bi_t : bi true = 1 := rfl
theorem bi_f : bi false = 0 := rfl
theorem q_takesWC {S : SD} {j p : Nat} (hd : 3 ≤ d) (hn : n ≤ 200) (h : TPc B n S) (hj : j < 12) (hp : p ≤ 300) (hpl : (gD S 29 0 4) = (p : Int)) : EE false d 65 [vr (some (29, 0)), vr (some (1, j))] S = some (vi (bi (WRD B n j p)), wD S 29 0 4 ((if WRD B n j p then skp B n p + (strT j).length else skp B n p : Nat) : Int)) := by
  have hl := strT_l j hj
  have hs := skp_hi (B := B) (n := n) (M := 300) hp (by omega)
  rw [E65 (by omega), b65_0, q_wordC (by omega) hn h hj hp hpl, b_I]
  cases WRD B n j p with
  | false => rw [if_pos (by decide), if_pos (bi01 _), if_neg (by decide)]
  | true =>
    rw [if_neg (by decide), if_pos (bi01 _), if_pos rfl, g_e, wD_ww]
    show some (vi 1, wD S 29 0 4 (aw oo (((skp B n p : Nat) : Int) + (((strT j).length : Nat) : Int)))) = _
    rw [awS (by omega)]
    rfl
theorem q_fail {S : SD} (hd : 1 ≤ d) (w : Nat) (y : Int) (hw : w ≤ 1000) (hy : 0 ≤ y ∧ y ≤ 4) : EE false d 61 [vr (some (29, 0)), vi (w : Int), vi y] S = some (vi 0, wD S 29 0 5 (1 + 8 * (w : Int) + y)) := by
  rw [E61 hd, b61_0, aw0 (z := 8 * (w : Int)) (by omega), aw0 (z := 1 + 8 * (w : Int)) (by omega), aw0 (by omega)]
theorem q_needsWC {S : SD} {j p : Nat} (hd : 4 ≤ d) (hn : n ≤ 200) (h : TPc B n S) (hj : j < 12) (hp : p ≤ 300) (hpl : (gD S 29 0 4) = (p : Int)) : EE false d 66 [vr (some (29, 0)), vr (some (1, j))] S = if WRD B n j p then some (vi 1, wD S 29 0 4 ((skp B n p + (strT j).length : Nat) : Int)) else some (vi 0, wD (wD S 29 0 4 (skp B n p : Int)) 29 0 5 (1 + 8 * (skp B n p : Int))) := by
  have hs := skp_hi (B := B) (n := n) (M := 300) hp (by omega)
  rw [E66 (by omega), b66_0, q_takesWC (by omega) hn h hj hp hpl, b_I]
  cases WRD B n j p with
  | false => rw [if_pos (by decide), if_neg (by decide), g_e, q_fail (by omega) _ _ (by omega) (by omega), b_I, if_pos rfl, if_neg (by decide), Int.add_zero]
  | true => rw [if_neg (by decide), if_pos rfl, if_pos rfl]
theorem q_takesSC {S : SD} {p : Nat} (hd : 2 ≤ d) (hn : n ≤ 200) (h : TPc B n S) (c : Int) (hp : p ≤ 300) (hpl : (gD S 29 0 4) = (p : Int)) : EE false d 67 [vr (some (29, 0)), vi c] S = if bt B n (skp B n p) = c then some (vi 1, wD S 29 0 4 ((skp B n p + 1 : Nat) : Int)) else some (vi 0, wD S 29 0 4 (skp B n p : Int)) := by
  have hs := skp_hi (B := B) (n := n) (M := 300) hp (by omega)
  rw [E67 (by omega), b67_0, q_skipC (by omega) hn h (by omega) hpl, b_V, g_e, q_byte (by omega) hn (TPc_w h (by decide)), b_I]
  by_cases e : bt B n (skp B n p) = c
  · rw [if_pos e, if_pos e, g_e, awn (by omega), wD_ww]
  · rw [if_neg e, if_neg e]
theorem q_needsSC {S : SD} {p : Nat} (hd : 3 ≤ d) (hn : n ≤ 200) (h : TPc B n S) (c : Int) (hp : p ≤ 300) (hpl : (gD S 29 0 4) = (p : Int)) : EE false d 68 [vr (some (29, 0)), vi c] S = if bt B n (skp B n p) = c then some (vi 1, wD S 29 0 4 ((skp B n p + 1 : Nat) : Int)) else some (vi 0, wD (wD S 29 0 4 (skp B n p : Int)) 29 0 5 (1 + 8 * (skp B n p : Int))) := by
  have hs := skp_hi (B := B) (n := n) (M := 300) hp (by omega)
  rw [E68 (by omega), b68_0, q_takesSC (by omega) hn h c hp hpl]
  by_cases e : bt B n (skp B n p) = c
  · rw [if_pos e, if_pos e, b_I, if_neg (by decide)]
  · rw [if_neg e, if_neg e, b_I, if_pos rfl, g_e, q_fail (by omega) _ _ (by omega) (by omega), b_I, if_pos rfl, Int.add_zero]
theorem q_needsEC {S : SD} {p : Nat} (hd : 2 ≤ d) (hn : n ≤ 200) (h : TPc B n S) (hp : p ≤ 300) (hpl : (gD S 29 0 4) = (p : Int)) : EE false d 69 [vr (some (29, 0))] S = if skp B n p < n then some (vi 0, wD (wD S 29 0 4 (skp B n p : Int)) 29 0 5 (1 + 8 * (skp B n p : Int))) else some (vi 1, wD S 29 0 4 (skp B n p : Int)) := by
  have hs := skp_hi (B := B) (n := n) (M := 300) hp (by omega)
  rw [E69 (by omega), b69_0, q_skipC (by omega) hn h (by omega) hpl, b_V, g_e, g_k (by decide), h.1]
  by_cases e : skp B n p < n
  · rw [if_pos (by omega), if_pos e, q_fail (by omega) _ _ (by omega) (by omega), b_I, if_pos rfl, Int.add_zero]
  · rw [if_neg (by omega), if_neg e]
end
