/-! rule: joints on both sides -/
section
variable {d : Nat} {A B : Nat → Int} {n : Nat} {th : Int}
def pend (an or : Bool) : List Int := (if an then [-2] else []) ++ (if or then [-3] else [])
def ext (s : Nat → Int) : Nat → List Int → Nat → Int
  | _, [] => s
  | L, x :: l => ext (xt s L x) (L + 1) l
def nno : List Int → Nat
  | [] => 0
  | x :: t => (if x = -4 then 0 else 1) + nno t
theorem ext_l : ∀ (l : List Int) (s : Nat → Int) (L k : Nat), k < L → ext s L l k = s k
  | [], _, _, _, _ => rfl
  | x :: l, s, L, k, h => by
    show ext (xt s L x) (L + 1) l k = s k
    rw [ext_l l _ _ _ (by omega), xt_l h]
def MOV (r w : Nat) (S S' : SD) : Prop := MFr r w S S' ∧ (∀ k, k < 59 → gD S' 85 0 k = gD S 85 0 k) ∧ ∀ g, g ≠ 85 → g ≠ 125 → g ≠ 126 → g ≠ 133 → ∀ k, gD S' g 0 k = gD S g 0 k
theorem MOV_rf {r w : Nat} {S : SD} : MOV r w S S := ⟨MFr_rf, fun _ _ => rfl, fun _ _ _ _ _ _ => rfl⟩
theorem MOV_tr {r w : Nat} {S S1 S2 : SD} (h : MOV r w S S1) (h2 : MOV r w S1 S2) : MOV r w S S2 := ⟨MFr_tr h.1 h2.1, fun k a => (h2.2.1 k a).trans (h.2.1 k a), fun g a b c e k => (h2.2.2 g a b c e k).trans (h.2.2 g a b c e k)⟩
theorem SYN_mov {r w base p q F L dd : Nat} {lo : Int} {s : Nat → Int} {Sc Sm Sm' : SD} (h : SYN A B n th r base lo p q F L dd s Sc Sm) (m : MOV r w Sm Sm') : SYN A B n th r base lo p q F L dd s Sc Sm' :=
  SYN_m h h.2.2.2.2.2.1 ((m.2.1 53 (by decide)).trans h.2.2.2.1) (fun k a _ => m.2.1 k (by omega)) (fun g hg k => m.2.2 g (by omega) (by omega) (by omega) (by omega) k)
theorem SYN_nx {r base p q q' F L dd : Nat} {lo : Int} {s : Nat → Int} {Sc Sm : SD} (h : SYN A B n th r base lo p q F L dd s Sc Sm) (hq : q' ≤ n) : SYN A B n th r base lo p q' F L dd s Sc (wD Sm 85 0 53 (q' : Int)) :=
  SYN_m h hq g_e (fun k _ b => by rw [g_k b]) (fun g hg k => by rw [g_f (by omega)])
theorem TSL_nx {r w L a : Nat} {s : Nat → Int} {S : SD} {k : Nat} {v : Int} (h : TSL r w L a s S) : TSL r w L a s (wD S 85 0 k v) := by
  obtain ⟨h1, h2, h3⟩ := h
  exact ⟨by rw [g_f (by decide)]; exact h1, fun k hk => by rw [g_f (by decide)]; exact h2 k hk, fun i hi => by rw [g_f (by decide)]; exact h3 i hi⟩
theorem MFr_nx {r w : Nat} {S S1 : SD} {v : Int} (h : MFr r w S S1) : MFr r w S (wD S1 85 0 53 v) := MFr_w h (Or.inl ⟨rfl, by decide, by decide⟩)
theorem R_pop {M : SD} {l : List Int} {x : Int} {r w L : Nat} {s : Nat → Int} (hd : 2 ≤ d) (hr : r < 20) (hw : w < 2) (hrs : (gD M 85 0 32) = (r : Int)) (hS : STK (x :: l) M) (hl : l.length ≤ 200) (hT : TSL r w L 0 s M) (hL : L < 100) : ∃ M', EE false d 238 [vr (some (85, 0)), vi (w : Int)] M = some (vi 0, M') ∧ MOV r w M M' ∧ STK l M' ∧ TSL r w (L + 1) 0 (xt s L x) M' := by
  refine ⟨_, q_pops hd hS hl hr hw hrs hT.1 (by omega), ⟨MFr_w (MFr_w (MFr_w MFr_rf (Or.inl ⟨rfl, by decide, by decide⟩)) (Or.inr (Or.inr (Or.inr (Or.inl ⟨rfl, by omega, by omega⟩))))) (Or.inr (Or.inr (Or.inl ⟨rfl, rfl⟩))), fun k hk => ?_, fun g a b c e k => ?_⟩, STK_w (STK_w (STK_tl (f := 0) (j := 0) (v := 0) hS) (by decide)) (by decide), TSL_l (TSL_nx hT)⟩
  · rw [g_f (by decide), g_f (by decide), g_k (by omega)]
  · rw [g_f b, g_f c, g_f a]
theorem STK_q {S : SD} {l : List Int} {x : Int} (h : STK l S) : STK (x :: l) (wD (wD S 133 0 l.length x) 85 0 59 ((l.length + 1 : Nat) : Int)) :=
  ⟨g_e, by rw [g_f (by decide), g_e], stk_cg l (fun k hk => by rw [g_f (by decide), g_i, if_neg (by omega)]) h.2⟩
theorem MOV_q {r w : Nat} {S S1 : SD} {k : Nat} {x v : Int} (h : MOV r w S S1) : MOV r w S (wD (wD S1 133 0 k x) 85 0 59 v) :=
  MOV_tr h ⟨MFr_w (MFr_w MFr_rf (Or.inr (Or.inl rfl))) (Or.inl ⟨rfl, by decide, by decide⟩), fun k hk => by rw [g_k (by omega), g_f (by decide)], fun g a b c e k => by rw [g_f a, g_f e]⟩
theorem TSL_q {r w L a : Nat} {s : Nat → Int} {S : SD} {k : Nat} {x v : Int} (h : TSL r w L a s S) : TSL r w L a s (wD (wD S 133 0 k x) 85 0 59 v) := by
  obtain ⟨h1, h2, h3⟩ := h
  exact ⟨by rw [g_f (by decide), g_f (by decide)]; exact h1, fun k hk => by rw [g_f (by decide), g_f (by decide)]; exact h2 k hk, fun i hi => by rw [g_f (by decide), g_f (by decide)]; exact h3 i hi⟩
/-- an AND comes: what waits and binds as much is laid down -/
theorem R229_and {M : SD} {r w L m : Nat} {s : Nat → Int} {an or : Bool} {sg : List Int} (hd : 3 ≤ d) (hr : r < 20) (hw : w < 2) (hrs : (gD M 85 0 32) = (r : Int)) (hsg : sg = [] ∨ ∃ t, sg = (-4) :: t) (hS : STK (pend an or ++ sg) M) (hl : sg.length ≤ 190) (hT : TSL r w L 0 s M) (hL : L < 99) (hm : 4 ≤ m) : ∃ M2 m2, run oo (EE false d) false mi_242 m 229 [(0, vr (some (85, 0))), (1, vi (w : Int)), (4, vi 1)] [] M = run oo (EE false d) false mi_242 m2 24 [(0, vr (some (85, 0))), (1, vi (w : Int))] [] M2 ∧ m ≤ m2 + 3 ∧ MOV r w M M2 ∧ STK (pend true or ++ sg) M2 ∧ TSL r w (L + (pend an false).length) 0 (ext s L (pend an false)) M2 := by
  have push : ∀ (X : SD) (k : Nat) (L' : Nat) (s' : Nat → Int), (gD X 85 0 32) = (r : Int) → MOV r w M X → STK (pend false or ++ sg) X → TSL r w L' 0 s' X → ∃ M2, run oo (EE false d) false mi_242 (k + 1) 229 [(0, vr (some (85, 0))), (1, vi (w : Int)), (4, vi 1)] [] X = run oo (EE false d) false mi_242 k 24 [(0, vr (some (85, 0))), (1, vi (w : Int))] [] M2 ∧ MOV r w M M2 ∧ STK (pend true or ++ sg) M2 ∧ TSL r w L' 0 s' M2 := fun X k L' s' hX hm hs ht => by
    have hlen : (pend false or ++ sg).length ≤ 195 := by
      rw [List.length_append]
      cases or
      · show 0 + _ ≤ _; omega
      · show 1 + _ ≤ _; omega
    have hh : ¬ (pend false or ++ sg).head? = some (-2) := by
      cases or
      · rcases hsg with rfl | ⟨t, rfl⟩
        · exact fun q => by cases q
        · exact fun q => absurd (Option.some.inj q) (by decide)
      · exact fun q => absurd (Option.some.inj q) (by decide)
    rw [b242_229, q_isOpen (by omega) hs (by omega), b_I, if_neg hh, if_pos rfl, if_neg (by decide), if_neg (by decide), hs.1, if_pos (by omega), tn, g_f (by decide), hs.1, awn (by omega)]
    exact ⟨_, rfl, MOV_q hm, STK_q hs, TSL_q ht⟩
  cases an with
  | false =>
    obtain ⟨k, rfl⟩ : ∃ k, m = k + 1 := ⟨m - 1, by omega⟩
    obtain ⟨M2, i1, i2, i3, i4⟩ := push M k L s hrs MOV_rf hS hT
    exact ⟨M2, k, i1, by omega, i2, i3, i4⟩
  | true =>
    obtain ⟨k, rfl⟩ : ∃ k, m = k + 1 + 1 := ⟨m - 2, by omega⟩
    have hS' : STK ((-2) :: (pend false or ++ sg)) M := hS
    have hlen : (pend false or ++ sg).length ≤ 195 := by
      rw [List.length_append]
      cases or
      · show 0 + _ ≤ _; omega
      · show 1 + _ ≤ _; omega
    obtain ⟨M1, j1, j2, j3, j4⟩ := R_pop (d := d) (by omega) hr hw hrs hS' (by omega) hT (by omega)
    obtain ⟨M2, i1, i2, i3, i4⟩ := push M1 k (L + 1) _ ((j2.2.1 32 (by decide)).trans hrs) j2 j3 j4
    refine ⟨M2, k, ?_, by omega, i2, i3, i4⟩
    rw [b242_229, q_isOpen (by omega) hS (by show (pend false or ++ sg).length + 1 ≤ 210; omega), b_I, if_pos (show (pend true or ++ sg).head? = some (-2) from rfl), if_neg (by decide), j1, b_V]
    exact i1
theorem R229_or {M : SD} {r w L m : Nat} {s : Nat → Int} {an or : Bool} {sg : List Int} (hd : 3 ≤ d) (hr : r < 20) (hw : w < 2) (hrs : (gD M 85 0 32) = (r : Int)) (hsg : sg = [] ∨ ∃ t, sg = (-4) :: t) (hS : STK (pend an or ++ sg) M) (hl : sg.length ≤ 190) (hT : TSL r w L 0 s M) (hL : L < 98) (hm : 5 ≤ m) : ∃ M2 m2, run oo (EE false d) false mi_242 m 229 [(0, vr (some (85, 0))), (1, vi (w : Int)), (4, vi 0)] [] M = run oo (EE false d) false mi_242 m2 24 [(0, vr (some (85, 0))), (1, vi (w : Int))] [] M2 ∧ m ≤ m2 + 4 ∧ MOV r w M M2 ∧ STK (pend false true ++ sg) M2 ∧ TSL r w (L + (pend an or).length) 0 (ext s L (pend an or)) M2 := by
  have nsg : ∀ v : Int, v ≠ -4 → ¬ sg.head? = some v := fun v hv => by
    rcases hsg with rfl | ⟨t, rfl⟩
    · exact fun q => by cases q
    · exact fun q => hv (Option.some.inj q).symm
  have push : ∀ (X : SD) (k : Nat) (L' : Nat) (s' : Nat → Int), MOV r w M X → STK sg X → TSL r w L' 0 s' X → ∃ M2, run oo (EE false d) false mi_242 (k + 1) 229 [(0, vr (some (85, 0))), (1, vi (w : Int)), (4, vi 0)] [] X = run oo (EE false d) false mi_242 k 24 [(0, vr (some (85, 0))), (1, vi (w : Int))] [] M2 ∧ MOV r w M M2 ∧ STK (pend false true ++ sg) M2 ∧ TSL r w L' 0 s' M2 := fun X k L' s' hm hs ht => by
    rw [b242_229, q_isOpen (by omega) hs (by omega), b_I, if_neg (nsg _ (by decide)), if_pos rfl, if_pos rfl, q_isOpen (by omega) hs (by omega), b_I, if_neg (nsg _ (by decide)), if_pos rfl, if_pos rfl, hs.1, if_pos (by omega), tn, g_f (by decide), hs.1, awn (by omega)]
    exact ⟨_, rfl, MOV_q hm, STK_q hs, TSL_q ht⟩
  have orr : ∀ (X : SD) (k : Nat) (L' : Nat) (s' : Nat → Int), L' < 99 → (gD X 85 0 32) = (r : Int) → MOV r w M X → STK (pend false or ++ sg) X → TSL r w L' 0 s' X → ∃ M2 m2, run oo (EE false d) false mi_242 (k + 1 + 1) 229 [(0, vr (some (85, 0))), (1, vi (w : Int)), (4, vi 0)] [] X = run oo (EE false d) false mi_242 m2 24 [(0, vr (some (85, 0))), (1, vi (w : Int))] [] M2 ∧ k ≤ m2 ∧ MOV r w M M2 ∧ STK (pend false true ++ sg) M2 ∧ TSL r w (L' + (pend false or).length) 0 (ext s' L' (pend false or)) M2 := fun X k L' s' hL' hX hm hs ht => by
    cases or with
    | false =>
      obtain ⟨M2, i1, i2, i3, i4⟩ := push X (k + 1) L' s' hm hs ht
      exact ⟨M2, k + 1, i1, by omega, i2, i3, i4⟩
    | true =>
      have hs' : STK ((-3) :: sg) X := hs
      obtain ⟨M1, j1, j2, j3, j4⟩ := R_pop (d := d) (by omega) hr hw hX hs' (by omega) ht (by omega)
      obtain ⟨M2, i1, i2, i3, i4⟩ := push M1 k (L' + 1) _ (MOV_tr hm j2) j3 j4
      refine ⟨M2, k, ?_, by omega, i2, i3, i4⟩
      rw [b242_229, q_isOpen (by omega) hs' (by show sg.length + 1 ≤ 210; omega), b_I, if_neg (show ¬ ((-3 : Int) :: sg).head? = some (-2) from fun q => absurd (Option.some.inj q) (by decide)), if_pos rfl, if_pos rfl, q_isOpen (by omega) hs' (by show sg.length + 1 ≤ 210; omega), b_I, if_pos (show ((-3 : Int) :: sg).head? = some (-3) from rfl), if_neg (by decide), j1, b_V]
      exact i1
  cases an with
  | false =>
    obtain ⟨k, rfl⟩ : ∃ k, m = k + 1 + 1 := ⟨m - 2, by omega⟩
    obtain ⟨M2, m2, i1, i2, i3, i4, i5⟩ := orr M k L s (by omega) hrs MOV_rf hS hT
    exact ⟨M2, m2, i1, by omega, i3, i4, i5⟩
  | true =>
    obtain ⟨k, rfl⟩ : ∃ k, m = k + 1 + 1 + 1 := ⟨m - 3, by omega⟩
    have hS' : STK ((-2) :: (pend false or ++ sg)) M := hS
    have hlen : (pend false or ++ sg).length ≤ 195 := by
      rw [List.length_append]
      cases or
      · show 0 + _ ≤ _; omega
      · show 1 + _ ≤ _; omega
    obtain ⟨M1, j1, j2, j3, j4⟩ := R_pop (d := d) (by omega) hr hw hrs hS' (by omega) hT (by omega)
    obtain ⟨M2, m2, i1, i2, i3, i4, i5⟩ := orr M1 k (L + 1) _ (by omega) ((j2.2.1 32 (by decide)).trans hrs) j2 j3 j4
    refine ⟨M2, m2, ?_, by omega, i3, i4, ?_⟩
    · rw [b242_229, q_isOpen (by omega) hS (by show (pend false or ++ sg).length + 1 ≤ 210; omega), b_I, if_pos (show (pend true or ++ sg).head? = some (-2) from rfl), if_neg (by decide), j1, b_V]
      exact i1
    · rw [show L + (pend true or).length = L + 1 + (pend false or).length by
        cases or
        · rfl
        · rfl]
      exact i5
theorem wrd_c {j p : Nat} (hj : j < 12) (h : WRD B n j p = true) : bt B n (skp B n p) = (strT j).getD 0 0 := by
  have := ((mtc_i _ _).mp h).1 0 (by have := strT_l j hj; omega)
  rw [Nat.add_zero] at this
  exact this
/-- the class's turn behind an operand, with the AND laid down -/
def TCx (d mc dp : Nat) (or : Bool) (i : Nat) (X : SD) : Option RR := (bI (EE false d 65 [vr (some (29, 0)), vr (some (1, 6))] X) (fun x4 S3 =>
      (if x4 = 0 then
       (if bi or = 0 then
        (bI (EE false d 65 [vr (some (29, 0)), vr (some (1, 7))] S3) (fun x6 S5 =>
         (if x6 = 0 then
          some (vi 1, S5)
         else
          run oo (EE false d) false mi_71 mc 7 [(0, vr (some (29, 0))), (1, vi (dp : Int)), (2, vi x4), (3, vi x6), (4, vi (aw oo ((i : Int) + 1)))] [] S5)))
       else
        (bV (EE false d 70 [vr (some (29, 0)), vi (-3)] S3) (fun S7 =>
         (bI (EE false d 65 [vr (some (29, 0)), vr (some (1, 7))] S7) (fun x9 S8 =>
          (if x9 = 0 then
           some (vi 1, S8)
          else
           run oo (EE false d) false mi_71 mc 7 [(0, vr (some (29, 0))), (1, vi (dp : Int)), (2, vi x4), (3, vi x9), (4, vi (aw oo ((i : Int) + 1)))] [] S8))))))
      else
       run oo (EE false d) false mi_71 mc 7 [(0, vr (some (29, 0))), (1, vi (dp : Int)), (2, vi x4), (3, vi (bi or)), (4, vi (aw oo ((i : Int) + 1)))] [] S3)))
end
