/-! the tests of a rule: the reference's stack, and held -/
section
variable {d : Nat}
theorem aw0 {z : Int} (h : -100000000 ≤ z ∧ z ≤ 100000000) : aw oo z = z := aw_id (by omega)
theorem w_M_is {Sm : SD} {r w L D G lo hi : Nat} {s : Nat → Int} {F : Nat → Bool} {at' : Int} {K : KT} {Q : SD → Prop} (hQ : ∀ S' dp v, Q S' → Q (wD S' 134 0 dp v)) (hE : ∀ S', Q S' → (gD S' 125 0 (2 * r + w)) = (L : Int) ∧ ∀ k, k < L → (gD S' 126 0 (200 * r + 100 * w + k)) = s k) (hr : r < 20) (hw : w < 2) (hL : L ≤ 100) (h1 : lo ≤ hi) (h2 : hi ≤ 16) (hs : stD s (lo : Int) (hi : Int) L = some (0 + 1, G)) (H : ∀ (S' : SD) (n p dp k : Nat), Q S' → p < L → s p = (k : Int) → lo ≤ k → k < hi → dp < 100 → run oo K false mi_253 (n + 1) 17 [(0, vr (some (85, 0))), (1, vi (r : Int)), (2, vi (w : Int)), (3, vi at'), (4, vi ((200 * r + 100 * w : Nat) : Int)), (5, vi (dp : Int)), (6, vi ((200 * r + 100 * w + p : Nat) : Int))] [] S' = run oo K false mi_253 n 17 [(0, vr (some (85, 0))), (1, vi (r : Int)), (2, vi (w : Int)), (3, vi at'), (4, vi ((200 * r + 100 * w : Nat) : Int)), (5, vi ((dp + 1 : Nat) : Int)), (6, vi ((200 * r + 100 * w + (p + 1) : Nat) : Int))] [] (wD S' 134 0 dp (bi (F k)))) : ∀ (n p dp g : Nat) (S' : SD), p ≤ L → L - p < n → Q S' → stD s (lo : Int) (hi : Int) p = some (dp, g) → (∀ i, i < dp → (gD S' 134 0 (dp - 1 - i)) = bi (evS s F p i)) → ∃ S'', run oo K false mi_253 n 17 [(0, vr (some (85, 0))), (1, vi (r : Int)), (2, vi (w : Int)), (3, vi at'), (4, vi ((200 * r + 100 * w : Nat) : Int)), (5, vi (dp : Int)), (6, vi ((200 * r + 100 * w + p : Nat) : Int))] [] S' = some (vi (bi (evS s F L 0)), S'') ∧ EqX [134] [] S' S'' ∧ Q S'' := by
  intro n
  induction n with
  | zero => intro p dp g S' z1 z2; omega
  | succ n ih =>
    intro p dp g S' z1 z2 zq z3 z4
    obtain ⟨q1, q2⟩ := hE S' zq
    have n2 : aw oo (aw oo (2 * (r : Int)) + (w : Int)) = ((2 * r + w : Nat) : Int) := by rw [aw0 (z := 2 * (r : Int)) (by omega), aw0 (by omega)]; omega
    have fin : ∀ (x : Bool) (S1 : SD) (dp' g' k : Nat), p < L → EqX [134] [] S' S1 → Q S1 → stD s (lo : Int) (hi : Int) (p + 1) = some (dp', g') → (∀ i, i < dp' → (gD S1 134 0 (dp' - 1 - i)) = bi (evS s F (p + 1) i)) → ∃ S'', run oo K false mi_253 n 17 [(0, vr (some (85, 0))), (1, vi (r : Int)), (2, vi (w : Int)), (3, vi at'), (4, vi ((200 * r + 100 * w : Nat) : Int)), (5, vi (dp' : Int)), (6, vi ((200 * r + 100 * w + (p + 1) : Nat) : Int))] [] S1 = some (vi (bi (evS s F L 0)), S'') ∧ EqX [134] [] S' S'' ∧ Q S'' := by
      intro _ S1 dp' g' _ p1 p2 p3 p4 p5
      obtain ⟨S'', i1, i2, i3⟩ := ih (p + 1) dp' g' S1 (by omega) (by omega) p3 p4 p5
      exact ⟨S'', i1, EqX_tr p2 i2, i3⟩
    by_cases hp : p < L
    · obtain ⟨d', g', z5⟩ := stD_pre hs (p + 1) (by omega)
      obtain ⟨d1, g1, z6, z7⟩ := stD_st z5
      have e0 : d1 = dp ∧ g1 = g := by rw [z6] at z3; cases z3; exact ⟨rfl, rfl⟩
      obtain ⟨rfl, rfl⟩ := e0
      have y1 := stD_le (by omega) (by omega) _ _ _ z5
      have y2 := stD_le (by omega) (by omega) _ _ _ z6
      have en := awp (show 200 * r + 100 * w + p < 1000000 by omega)
      rw [show 200 * r + 100 * w + p + 1 = 200 * r + 100 * w + (p + 1) by omega] at en
      rcases z7 with ⟨c1, c2, rfl, rfl⟩ | c
      · rw [H S' n p d1 g1 zq hp c1 (by omega) (by omega) (by omega)]
        refine fin true _ _ _ 0 hp (EqX_wA EqX_rf (by decide)) (hQ _ _ _ zq) z5 (fun i hi => ?_)
        rw [evS_f c1 i, g_i]
        by_cases i0 : i = 0
        · subst i0; rw [if_pos (by omega), if_pos rfl]
        · rw [if_neg (by omega), if_neg i0, ← z4 (i - 1) (by omega), show d1 + 1 - 1 - i = d1 - 1 - (i - 1) by omega]
      · have hneg : s p < 0 := by omega
        have m1 : aw oo ((d1 : Int) - 1) = ((d1 - 1 : Nat) : Int) := by rw [aw0 (by omega)]; omega
        have m1' : aw oo ((d1 : Int) + (-1)) = ((d1 - 1 : Nat) : Int) := by rw [aw0 (by omega)]; omega
        have b1 : (0 ≤ ((d1 - 1 : Nat) : Int) ∧ ((d1 - 1 : Nat) : Int) < 100) = True := eq_true (by omega)
        have b2 : (0 ≤ ((d1 - 1 - 1 : Nat) : Int) ∧ ((d1 - 1 - 1 : Nat) : Int) < 100) = True := eq_true (by omega)
        have bt : (0 ≤ ((200 * r + 100 * w + p : Nat) : Int) ∧ ((200 * r + 100 * w + p : Nat) : Int) < 4000) = True := eq_true (by omega)
        have b0 : (0 ≤ ((2 * r + w : Nat) : Int) ∧ ((2 * r + w : Nat) : Int) < 40) = True := eq_true (by omega)
        have bl : (((200 * r + 100 * w + p : Nat) : Int) < ((200 * r + 100 * w : Nat) : Int) + (L : Int)) = True := eq_true (by omega)
        have nl : aw oo (((200 * r + 100 * w : Nat) : Int) + (L : Int)) = ((200 * r + 100 * w : Nat) : Int) + (L : Int) := aw0 (by omega)
        have hneg' := eq_true hneg
        rw [b253_17]
        simp only [n2, b0, if_true, tn, q1, nl, bl, bt, q2 p hp, hneg', en]
        rcases c with ⟨c1, c2, rfl, rfl⟩ | ⟨c1, c2, rfl, rfl⟩
        · rw [c1, if_pos rfl]
          simp only [m1, b1, if_true, tn]
          have t0 := z4 0 (by omega)
          rw [Nat.sub_zero] at t0
          have x : ∀ b : Bool, evS s F p 0 = b → (∀ i, i < d' → gD (wD S' 134 0 (d' - 1) (bi (!b))) 134 0 (d' - 1 - i) = bi (evS s F (p + 1) i)) := by
            intro b hb i hi
            rw [evS_n c1 i, g_i]
            by_cases i0 : i = 0
            · subst i0; rw [if_pos (by omega), if_pos rfl, hb]
            · rw [if_neg (by omega), if_neg i0, z4 i hi]
          cases hb : evS s F p 0 with
          | true =>
            rw [t0, hb, if_neg (by decide)]
            exact fin true _ _ _ 0 hp (EqX_wA EqX_rf (by decide)) (hQ _ _ _ zq) z5 (x true hb)
          | false =>
            rw [t0, hb, if_pos (by decide)]
            exact fin true _ _ _ 0 hp (EqX_wA EqX_rf (by decide)) (hQ _ _ _ zq) z5 (x false hb)
        · have m2 : aw oo (((d1 - 1 : Nat) : Int) - 1) = ((d1 - 1 - 1 : Nat) : Int) := by rw [aw0 (by omega)]; omega
          have t0 := z4 0 (by omega)
          rw [Nat.sub_zero] at t0
          have t1 := z4 1 (by omega)
          simp only [m1', m2, b1, b2, if_true, tn, t0, t1]
          have x : ∀ b : Bool, evS s F (p + 1) 0 = b → (∀ i, i < d1 - 1 → gD (wD S' 134 0 (d1 - 1 - 1) (bi b)) 134 0 (d1 - 1 - 1 - i) = bi (evS s F (p + 1) i)) := by
            intro b hb i hi
            rw [g_i]
            by_cases i0 : i = 0
            · subst i0; rw [if_pos (by omega), hb]
            · rw [if_neg (by omega), show d1 - 1 - 1 - i = d1 - 1 - (i + 1) by omega, z4 (i + 1) (by omega)]
              rcases c1 with c1 | c1
              · rw [evS_a c1 i, if_neg i0]
              · rw [evS_o c1 i, if_neg i0]
          have f1 := fun b hb => fin true (wD S' 134 0 (d1 - 1 - 1) (bi b)) (d1 - 1) g' 0 hp (EqX_wA EqX_rf (by decide)) (hQ _ _ _ zq) z5 (x b hb)
          rcases c1 with c1 | c1
          · rw [c1, if_neg (by decide), if_pos rfl]
            have v := evS_a (F := F) c1 0
            rw [if_pos rfl] at v
            cases h0 : evS s F p 0 <;> cases h1 : evS s F p 1 <;> rw [h0, h1] at v <;> first | exact f1 true v | exact f1 false v
          · rw [c1, if_neg (by decide), if_neg (by decide)]
            have v := evS_o (F := F) c1 0
            rw [if_pos rfl] at v
            cases h0 : evS s F p 0 <;> cases h1 : evS s F p 1 <;> rw [h0, h1] at v <;> first | exact f1 true v | exact f1 false v
    · have e : p = L := by omega
      subst e
      rw [z3] at hs
      cases hs
      have t0 := z4 0 (by omega)
      have t0 : (gD S' 134 0 0) = bi (evS s F p 0) := t0
      refine ⟨S', ?_, EqX_rf, zq⟩
      rw [b253_17, n2, if_pos (by omega), tn, q1, aw0 (by omega), if_neg (by omega), t0, if_pos (bi01 _)]
end
