def lkp : List (Nat × PE) → Nat → Option PE
  | [], _ => none
  | (i, q) :: t, n => bif Nat.beq i n then some q else lkp t n
theorem lkp_mem : ∀ (l : List (Nat × PE)) (n : Nat) (q : PE), lkp l n = some q → (n, q) ∈ l
  | [], _, _, h => by cases h
  | (i, q) :: t, n, q2, h => by
    unfold lkp at h
    by_cases e : i = n
    · subst e
      simp at h
      subst h
      exact List.mem_cons_self
    · rw [show Nat.beq i n = false by rw [nbq]; simpa using e] at h
      exact List.mem_cons_of_mem _ (lkp_mem t n q2 h)
def WD (c : Nat) (p : Nat × PE) : Prop := pwd c p.1 p.2 ∧ cwd c p.1 p.2 ∧ swd c p.1 p.2
def pqb : Option PE → Option PE → Bool
  | none, none => true
  | some (a, b, c, d, e, f), some (a1, b1, c1, d1, e1, f1) => Nat.beq a a1 && (Nat.beq b b1 && (Nat.beq c c1 && (Nat.beq d d1 && (Nat.beq e e1 && decide (f = f1)))))
  | _, _ => false
theorem pqb_eq : ∀ {x y : Option PE}, pqb x y = true → x = y := by
  intro x y h
  unfold pqb at h
  split at h
  · rfl
  · obtain ⟨h1, h⟩ := ko h
    obtain ⟨h2, h⟩ := ko h
    obtain ⟨h3, h⟩ := ko h
    obtain ⟨h4, h⟩ := ko h
    obtain ⟨h5, h⟩ := ko h
    rw [Nat.eq_of_beq_eq_true h1, Nat.eq_of_beq_eq_true h2, Nat.eq_of_beq_eq_true h3, Nat.eq_of_beq_eq_true h4, Nat.eq_of_beq_eq_true h5, of_decide_eq_true h]
  · cases h
theorem pl_sp {P : Nat × PE → Prop} {pl : Nat → Option PE} {al : List (Nat × PE)} {b : Nat} (h0 : Nat.all b (fun n _ => pqb (pl n) (lkp al n)) = true) (h2 : ∀ n, b ≤ n → pl n = none) (h3 : ∀ p ∈ al, P p) : ∀ n q, pl n = some q → P (n, q) := fun n q h => by
  by_cases hb : n < b
  · rw [Nat.all_eq_finRange_all, List.all_eq_true] at h0
    rw [pqb_eq (h0 ⟨n, hb⟩ (List.mem_finRange _))] at h
    exact h3 _ (lkp_mem _ _ _ h)
  · rw [h2 n (by omega)] at h; cases h
theorem wd_0_1 : WD 0 (1, (3, 6, 0, 0, 0, 0)) := ⟨⟨by decide, (tc_2 (i := 114) rfl rfl), (tc_2 (i := 115) rfl rfl), (tc_1 (i := 10) rfl rfl), uw_6⟩, trivial, trivial⟩
theorem wd_0_7 : WD 0 (7, (2, 0, 0, 0, 0, 0)) := ⟨⟨(tc_2 (i := 113) rfl rfl), (tc_1 (i := 26) rfl rfl), (tc_1 (i := 27) rfl rfl)⟩, trivial, trivial⟩
theorem wd_0_15 : WD 0 (15, (0, 0, 2, 3, 1, 0)) := ⟨⟨by decide, by decide, rfl, rfl, rfl, (tc_2 (i := 150) rfl rfl), uw_0⟩, trivial, trivial⟩
theorem wd_0_19 : WD 0 (19, (0, 0, 3, 3, 1, 0)) := ⟨⟨by decide, by decide, rfl, rfl, rfl, (tc_2 (i := 151) rfl rfl), uw_0⟩, trivial, trivial⟩
theorem wd_0_22 : WD 0 (22, (0, 0, 4, 3, 1, 0)) := ⟨⟨by decide, by decide, rfl, rfl, rfl, (tc_2 (i := 152) rfl rfl), uw_0⟩, trivial, trivial⟩
theorem wd_0_25 : WD 0 (25, (0, 0, 5, 3, 1, 0)) := ⟨⟨by decide, by decide, rfl, rfl, rfl, (tc_2 (i := 153) rfl rfl), uw_0⟩, trivial, trivial⟩
theorem wd_0_28 : WD 0 (28, (0, 0, 6, 3, 1, 0)) := ⟨⟨by decide, by decide, rfl, rfl, rfl, (tc_2 (i := 154) rfl rfl), uw_0⟩, trivial, trivial⟩
theorem wd_0_31 : WD 0 (31, (0, 0, 7, 3, 1, 0)) := ⟨⟨by decide, by decide, rfl, rfl, rfl, (tc_2 (i := 155) rfl rfl), uw_0⟩, trivial, trivial⟩
theorem wd_0_34 : WD 0 (34, (0, 0, 0, 3, 1, 0)) := ⟨⟨by decide, by decide, rfl, rfl, rfl, (tc_2 (i := 148) rfl rfl), uw_0⟩, trivial, trivial⟩
theorem wd_0_38 : WD 0 (38, (9, 84, 2, 6, 0, 0)) := ⟨trivial, ⟨ck_84, (tc_2 (i := 116) rfl rfl), im_84, rfl, rfl⟩, trivial⟩
theorem wd_0_41 : WD 0 (41, (0, 0, 1, 3, 1, 0)) := ⟨⟨by decide, by decide, rfl, rfl, rfl, (tc_2 (i := 149) rfl rfl), uw_0⟩, trivial, trivial⟩
theorem wd_0_45 : WD 0 (45, (1, 110, 1, 8, 3, 0)) := ⟨trivial, ⟨ck_110, (tc_5 (i := 142) rfl rfl), im_110, sl_110⟩, trivial⟩
theorem wd_0_49 : WD 0 (49, (1, 53, 0, 4, 1, 0)) := ⟨trivial, ⟨ck_53, (tc_5 (i := 143) rfl rfl), im_53, sl_53⟩, trivial⟩
theorem wd_0_55 : WD 0 (55, (1, 51, 0, 4, 1, 0)) := ⟨trivial, ⟨ck_51, (tc_5 (i := 147) rfl rfl), im_51, sl_51⟩, trivial⟩
theorem wd_0_59 : WD 0 (59, (0, 4, 14, 0, 0, 0)) := ⟨⟨by decide, by decide, rfl, rfl, rfl, (tc_2 (i := 26) rfl rfl), uw_4⟩, trivial, trivial⟩
theorem wd_0_63 : WD 0 (63, (1, 85, 1, 6, 1, 0)) := ⟨trivial, ⟨ck_85, (tc_5 (i := 148) rfl rfl), im_85, sl_85⟩, trivial⟩
theorem wd_0_67 : WD 0 (67, (1, 3, 0, 0, 0, 0)) := ⟨trivial, ⟨ck_3, (tc_5 (i := 177) rfl rfl), im_3, sl_3⟩, trivial⟩
theorem wd_0_70 : WD 0 (70, (0, 6, 7, 0, 0, 0)) := ⟨⟨by decide, by decide, rfl, rfl, rfl, (tc_2 (i := 130) rfl rfl), uw_6⟩, trivial, trivial⟩
theorem wd_0_73 : WD 0 (73, (0, 0, 8, 0, 0, 0)) := ⟨⟨by decide, by decide, rfl, rfl, rfl, (tc_2 (i := 156) rfl rfl), uw_0⟩, trivial, trivial⟩
theorem wd_0_76 : WD 0 (76, (1, 6, 0, 0, 0, 0)) := ⟨trivial, ⟨ck_6, (tc_5 (i := 181) rfl rfl), im_6, sl_6⟩, trivial⟩
theorem wd_0_79 : WD 0 (79, (1, 9, 1, 0, 1, 0)) := ⟨trivial, ⟨ck_9, (tc_5 (i := 190) rfl rfl), im_9, sl_9⟩, trivial⟩
theorem wd_0_83 : WD 0 (83, (1, 7, 0, 0, 0, 0)) := ⟨trivial, ⟨ck_7, (tc_5 (i := 202) rfl rfl), im_7, sl_7⟩, trivial⟩
theorem wd_0_86 : WD 0 (86, (1, 91, 0, 6, 0, 0)) := ⟨trivial, ⟨ck_91, (tc_5 (i := 206) rfl rfl), im_91, sl_91⟩, trivial⟩
theorem wd_0_89 : WD 0 (89, (1, 4, 0, 0, 1, 0)) := ⟨trivial, ⟨ck_4, (tc_5 (i := 218) rfl rfl), im_4, sl_4⟩, trivial⟩
theorem wd_0_92 : WD 0 (92, (1, 5, 1, 0, 0, 0)) := ⟨trivial, ⟨ck_5, (tc_5 (i := 222) rfl rfl), im_5, sl_5⟩, trivial⟩
theorem wd_0_96 : WD 0 (96, (1, 11, 1, 0, 1, 0)) := ⟨trivial, ⟨ck_11, (tc_5 (i := 226) rfl rfl), im_11, sl_11⟩, trivial⟩
theorem wd_0_99 : WD 0 (99, (0, 0, 10, 0, 0, 0)) := ⟨⟨by decide, by decide, rfl, rfl, rfl, (tc_2 (i := 158) rfl rfl), uw_0⟩, trivial, trivial⟩
theorem wd_0_102 : WD 0 (102, (0, 0, 9, 0, 0, 0)) := ⟨⟨by decide, by decide, rfl, rfl, rfl, (tc_2 (i := 157) rfl rfl), uw_0⟩, trivial, trivial⟩
theorem wd_0_105 : WD 0 (105, (0, 4, 17, 1, 0, 0)) := ⟨⟨by decide, by decide, rfl, rfl, rfl, (tc_2 (i := 32) rfl rfl), uw_4⟩, trivial, trivial⟩
theorem wd_0_109 : WD 0 (109, (0, 6, 3, 3, 1, 0)) := ⟨⟨by decide, by decide, rfl, rfl, rfl, (tc_2 (i := 125) rfl rfl), uw_6⟩, trivial, trivial⟩
theorem wd_0_112 : WD 0 (112, (1, 90, 1, 6, 1, 0)) := ⟨trivial, ⟨ck_90, (tc_5 (i := 185) rfl rfl), im_90, sl_90⟩, trivial⟩
theorem wd_0_115 : WD 0 (115, (0, 6, 2, 3, 1, 0)) := ⟨⟨by decide, by decide, rfl, rfl, rfl, (tc_2 (i := 123) rfl rfl), uw_6⟩, trivial, trivial⟩
theorem wd_0_118 : WD 0 (118, (0, 4, 7, 0, 0, 0)) := ⟨⟨by decide, by decide, rfl, rfl, rfl, (tc_2 (i := 7) rfl rfl), uw_4⟩, trivial, trivial⟩
theorem wd_0_121 : WD 0 (121, (1, 50, 1, 4, 1, 0)) := ⟨trivial, ⟨ck_50, (tc_5 (i := 194) rfl rfl), im_50, sl_50⟩, trivial⟩
theorem wd_0_124 : WD 0 (124, (1, 8, 1, 0, 1, 0)) := ⟨trivial, ⟨ck_8, (tc_5 (i := 195) rfl rfl), im_8, sl_8⟩, trivial⟩
theorem wd_0_127 : WD 0 (127, (1, 54, 2, 4, 1, 0)) := ⟨trivial, ⟨ck_54, (tc_5 (i := 199) rfl rfl), im_54, sl_54⟩, trivial⟩
theorem wd_0_131 : WD 0 (131, (1, 55, 2, 4, 1, 0)) := ⟨trivial, ⟨ck_55, (tc_5 (i := 200) rfl rfl), im_55, sl_55⟩, trivial⟩
theorem wd_0_135 : WD 0 (135, (1, 48, 0, 4, 1, 0)) := ⟨trivial, ⟨ck_48, (tc_5 (i := 201) rfl rfl), im_48, sl_48⟩, trivial⟩
theorem wd_0_138 : WD 0 (138, (1, 12, 1, 0, 1, 0)) := ⟨trivial, ⟨ck_12, (tc_5 (i := 230) rfl rfl), im_12, sl_12⟩, trivial⟩
theorem wd_0_141 : WD 0 (141, (1, 13, 2, 0, 0, 0)) := ⟨trivial, ⟨ck_13, (tc_5 (i := 234) rfl rfl), im_13, sl_13⟩, trivial⟩
theorem wd_0_145 : WD 0 (145, (1, 10, 1, 0, 1, 0)) := ⟨trivial, ⟨ck_10, (tc_5 (i := 238) rfl rfl), im_10, sl_10⟩, trivial⟩
theorem wd_0_148 : WD 0 (148, (2, 3, 0, 0, 0, 0)) := ⟨⟨(tc_6 (i := 2) rfl rfl), (tc_6 (i := 4) rfl rfl), (tc_6 (i := 3) rfl rfl), (tc_1 (i := 19) rfl rfl)⟩, trivial, trivial⟩
theorem wd_0_154 : WD 0 (154, (4, 0, 0, 0, 0, (-1000000))) := ⟨⟨by unfold r32; decide, (tc_6 (i := 13) rfl rfl)⟩, trivial, trivial⟩
def al_0 : List (Nat × PE) := [(1, (3, 6, 0, 0, 0, 0)), (7, (2, 0, 0, 0, 0, 0)), (15, (0, 0, 2, 3, 1, 0)), (19, (0, 0, 3, 3, 1, 0)), (22, (0, 0, 4, 3, 1, 0)), (25, (0, 0, 5, 3, 1, 0)), (28, (0, 0, 6, 3, 1, 0)), (31, (0, 0, 7, 3, 1, 0)), (34, (0, 0, 0, 3, 1, 0)), (38, (9, 84, 2, 6, 0, 0)), (41, (0, 0, 1, 3, 1, 0)), (45, (1, 110, 1, 8, 3, 0)), (49, (1, 53, 0, 4, 1, 0)), (55, (1, 51, 0, 4, 1, 0)), (59, (0, 4, 14, 0, 0, 0)), (63, (1, 85, 1, 6, 1, 0)), (67, (1, 3, 0, 0, 0, 0)), (70, (0, 6, 7, 0, 0, 0)), (73, (0, 0, 8, 0, 0, 0)), (76, (1, 6, 0, 0, 0, 0)), (79, (1, 9, 1, 0, 1, 0)), (83, (1, 7, 0, 0, 0, 0)), (86, (1, 91, 0, 6, 0, 0)), (89, (1, 4, 0, 0, 1, 0)), (92, (1, 5, 1, 0, 0, 0)), (96, (1, 11, 1, 0, 1, 0)), (99, (0, 0, 10, 0, 0, 0)), (102, (0, 0, 9, 0, 0, 0)), (105, (0, 4, 17, 1, 0, 0)), (109, (0, 6, 3, 3, 1, 0)), (112, (1, 90, 1, 6, 1, 0)), (115, (0, 6, 2, 3, 1, 0)), (118, (0, 4, 7, 0, 0, 0)), (121, (1, 50, 1, 4, 1, 0)), (124, (1, 8, 1, 0, 1, 0)), (127, (1, 54, 2, 4, 1, 0)), (131, (1, 55, 2, 4, 1, 0)), (135, (1, 48, 0, 4, 1, 0)), (138, (1, 12, 1, 0, 1, 0)), (141, (1, 13, 2, 0, 0, 0)), (145, (1, 10, 1, 0, 1, 0)), (148, (2, 3, 0, 0, 0, 0)), (154, (4, 0, 0, 0, 0, (-1000000)))]
set_option maxRecDepth 100000 in
theorem pw_0 : ∀ n q, pl_0 n = some q → WD 0 (n, q) := pl_sp (b := 155) (al := al_0) (by decide +kernel) (fun n h => by rw [pl_0, blt_F h]; rfl) (List.forall_mem_cons.mpr ⟨wd_0_1, (List.forall_mem_cons.mpr ⟨wd_0_7, (List.forall_mem_cons.mpr ⟨wd_0_15, (List.forall_mem_cons.mpr ⟨wd_0_19, (List.forall_mem_cons.mpr ⟨wd_0_22, (List.forall_mem_cons.mpr ⟨wd_0_25, (List.forall_mem_cons.mpr ⟨wd_0_28, (List.forall_mem_cons.mpr ⟨wd_0_31, (List.forall_mem_cons.mpr ⟨wd_0_34, (List.forall_mem_cons.mpr ⟨wd_0_38, (List.forall_mem_cons.mpr ⟨wd_0_41, (List.forall_mem_cons.mpr ⟨wd_0_45, (List.forall_mem_cons.mpr ⟨wd_0_49, (List.forall_mem_cons.mpr ⟨wd_0_55, (List.forall_mem_cons.mpr ⟨wd_0_59, (List.forall_mem_cons.mpr ⟨wd_0_63, (List.forall_mem_cons.mpr ⟨wd_0_67, (List.forall_mem_cons.mpr ⟨wd_0_70, (List.forall_mem_cons.mpr ⟨wd_0_73, (List.forall_mem_cons.mpr ⟨wd_0_76, (List.forall_mem_cons.mpr ⟨wd_0_79, (List.forall_mem_cons.mpr ⟨wd_0_83, (List.forall_mem_cons.mpr ⟨wd_0_86, (List.forall_mem_cons.mpr ⟨wd_0_89, (List.forall_mem_cons.mpr ⟨wd_0_92, (List.forall_mem_cons.mpr ⟨wd_0_96, (List.forall_mem_cons.mpr ⟨wd_0_99, (List.forall_mem_cons.mpr ⟨wd_0_102, (List.forall_mem_cons.mpr ⟨wd_0_105, (List.forall_mem_cons.mpr ⟨wd_0_109, (List.forall_mem_cons.mpr ⟨wd_0_112, (List.forall_mem_cons.mpr ⟨wd_0_115, (List.forall_mem_cons.mpr ⟨wd_0_118, (List.forall_mem_cons.mpr ⟨wd_0_121, (List.forall_mem_cons.mpr ⟨wd_0_124, (List.forall_mem_cons.mpr ⟨wd_0_127, (List.forall_mem_cons.mpr ⟨wd_0_131, (List.forall_mem_cons.mpr ⟨wd_0_135, (List.forall_mem_cons.mpr ⟨wd_0_138, (List.forall_mem_cons.mpr ⟨wd_0_141, (List.forall_mem_cons.mpr ⟨wd_0_145, (List.forall_mem_cons.mpr ⟨wd_0_148, (List.forall_mem_cons.mpr ⟨wd_0_154, (fun p hp => by cases hp)⟩)⟩)⟩)⟩)⟩)⟩)⟩)⟩)⟩)⟩)⟩)⟩)⟩)⟩)⟩)⟩)⟩)⟩)⟩)⟩)⟩)⟩)⟩)⟩)⟩)⟩)⟩)⟩)⟩)⟩)⟩)⟩)⟩)⟩)⟩)⟩)⟩)⟩)⟩)⟩)⟩)⟩)⟩)
theorem wd_1_3 : WD 1 (3, (2, 0, 0, 0, 0, 0)) := ⟨⟨(tc_1 (i := 191) rfl rfl), (tc_1 (i := 26) rfl rfl), (tc_1 (i := 27) rfl rfl)⟩, trivial, trivial⟩
theorem wd_1_11 : WD 1 (11, (0, 1, 0, 3, 1, 0)) := ⟨⟨by decide, by decide, rfl, rfl, rfl, (tc_1 (i := 192) rfl rfl), uw_1⟩, trivial, trivial⟩
theorem wd_1_15 : WD 1 (15, (0, 1, 1, 3, 1, 0)) := ⟨⟨by decide, by decide, rfl, rfl, rfl, (tc_1 (i := 193) rfl rfl), uw_1⟩, trivial, trivial⟩
theorem wd_1_18 : WD 1 (18, (0, 1, 2, 3, 1, 0)) := ⟨⟨by decide, by decide, rfl, rfl, rfl, (tc_1 (i := 194) rfl rfl), uw_1⟩, trivial, trivial⟩
theorem wd_1_21 : WD 1 (21, (0, 1, 3, 3, 1, 0)) := ⟨⟨by decide, by decide, rfl, rfl, rfl, (tc_1 (i := 195) rfl rfl), uw_1⟩, trivial, trivial⟩
theorem wd_1_24 : WD 1 (24, (0, 1, 4, 3, 1, 0)) := ⟨⟨by decide, by decide, rfl, rfl, rfl, (tc_1 (i := 196) rfl rfl), uw_1⟩, trivial, trivial⟩
theorem wd_1_27 : WD 1 (27, (0, 1, 5, 0, 0, 0)) := ⟨⟨by decide, by decide, rfl, rfl, rfl, (tc_1 (i := 197) rfl rfl), uw_1⟩, trivial, trivial⟩
theorem wd_1_31 : WD 1 (31, (1, 17, 1, 1, 1, 0)) := ⟨trivial, ⟨ck_17, (tc_4 (i := 33) rfl rfl), im_17, sl_17⟩, trivial⟩
theorem wd_1_35 : WD 1 (35, (1, 18, 2, 1, 1, 0)) := ⟨trivial, ⟨ck_18, (tc_4 (i := 29) rfl rfl), im_18, sl_18⟩, trivial⟩
def al_1 : List (Nat × PE) := [(3, (2, 0, 0, 0, 0, 0)), (11, (0, 1, 0, 3, 1, 0)), (15, (0, 1, 1, 3, 1, 0)), (18, (0, 1, 2, 3, 1, 0)), (21, (0, 1, 3, 3, 1, 0)), (24, (0, 1, 4, 3, 1, 0)), (27, (0, 1, 5, 0, 0, 0)), (31, (1, 17, 1, 1, 1, 0)), (35, (1, 18, 2, 1, 1, 0))]
set_option maxRecDepth 100000 in
theorem pw_1 : ∀ n q, pl_1 n = some q → WD 1 (n, q) := pl_sp (b := 36) (al := al_1) (by decide +kernel) (fun n h => by rw [pl_1, blt_F h]; rfl) (List.forall_mem_cons.mpr ⟨wd_1_3, (List.forall_mem_cons.mpr ⟨wd_1_11, (List.forall_mem_cons.mpr ⟨wd_1_15, (List.forall_mem_cons.mpr ⟨wd_1_18, (List.forall_mem_cons.mpr ⟨wd_1_21, (List.forall_mem_cons.mpr ⟨wd_1_24, (List.forall_mem_cons.mpr ⟨wd_1_27, (List.forall_mem_cons.mpr ⟨wd_1_31, (List.forall_mem_cons.mpr ⟨wd_1_35, (fun p hp => by cases hp)⟩)⟩)⟩)⟩)⟩)⟩)⟩)⟩)⟩)
theorem wd_2_3 : WD 2 (3, (2, 0, 0, 0, 0, 0)) := ⟨⟨(tc_2 (i := 231) rfl rfl), (tc_1 (i := 26) rfl rfl), (tc_1 (i := 27) rfl rfl)⟩, trivial, trivial⟩
theorem wd_2_9 : WD 2 (9, (0, 2, 0, 3, 1, 0)) := ⟨⟨by decide, by decide, rfl, rfl, rfl, (tc_2 (i := 232) rfl rfl), uw_2⟩, trivial, trivial⟩
theorem wd_2_15 : WD 2 (15, (0, 2, 1, 3, 1, 0)) := ⟨⟨by decide, by decide, rfl, rfl, rfl, (tc_2 (i := 234) rfl rfl), uw_2⟩, trivial, trivial⟩
theorem wd_2_18 : WD 2 (18, (0, 2, 2, 3, 1, 0)) := ⟨⟨by decide, by decide, rfl, rfl, rfl, (tc_2 (i := 236) rfl rfl), uw_2⟩, trivial, trivial⟩
theorem wd_2_21 : WD 2 (21, (0, 2, 3, 3, 1, 0)) := ⟨⟨by decide, by decide, rfl, rfl, rfl, (tc_2 (i := 237) rfl rfl), uw_2⟩, trivial, trivial⟩
theorem wd_2_24 : WD 2 (24, (0, 2, 4, 3, 1, 0)) := ⟨⟨by decide, by decide, rfl, rfl, rfl, (tc_2 (i := 239) rfl rfl), uw_2⟩, trivial, trivial⟩
theorem wd_2_27 : WD 2 (27, (0, 2, 5, 3, 1, 0)) := ⟨⟨by decide, by decide, rfl, rfl, rfl, (tc_3 (i := 0) rfl rfl), uw_2⟩, trivial, trivial⟩
theorem wd_2_31 : WD 2 (31, (0, 2, 6, 3, 1, 0)) := ⟨⟨by decide, by decide, rfl, rfl, rfl, (tc_3 (i := 1) rfl rfl), uw_2⟩, trivial, trivial⟩
theorem wd_2_34 : WD 2 (34, (0, 2, 7, 3, 1, 0)) := ⟨⟨by decide, by decide, rfl, rfl, rfl, (tc_3 (i := 2) rfl rfl), uw_2⟩, trivial, trivial⟩
theorem wd_2_37 : WD 2 (37, (0, 2, 8, 3, 1, 0)) := ⟨⟨by decide, by decide, rfl, rfl, rfl, (tc_3 (i := 3) rfl rfl), uw_2⟩, trivial, trivial⟩
theorem wd_2_41 : WD 2 (41, (8, 189, 3, 11, 1, 0)) := ⟨trivial, ⟨ck_189, ⟨_, List.mem_of_getElem? (i := 11) rfl⟩, sm_189⟩, trivial⟩
theorem wd_2_45 : WD 2 (45, (7, 23, 1, 2, 1, 0)) := ⟨trivial, ⟨ck_23, rfl, (tc_6 (i := 95) rfl rfl), sm_23⟩, trivial⟩
theorem wd_2_49 : WD 2 (49, (1, 27, 1, 2, 1, 0)) := ⟨trivial, ⟨ck_27, (tc_6 (i := 115) rfl rfl), im_27, sl_27⟩, trivial⟩
theorem wd_2_52 : WD 2 (52, (1, 31, 1, 2, 1, 0)) := ⟨trivial, ⟨ck_31, (tc_6 (i := 119) rfl rfl), im_31, sl_31⟩, trivial⟩
theorem wd_2_55 : WD 2 (55, (1, 30, 2, 2, 1, 0)) := ⟨trivial, ⟨ck_30, (tc_6 (i := 123) rfl rfl), im_30, sl_30⟩, trivial⟩
theorem wd_2_59 : WD 2 (59, (1, 24, 2, 2, 2, 0)) := ⟨trivial, ⟨ck_24, (tc_6 (i := 127) rfl rfl), im_24, sl_24⟩, trivial⟩
def al_2 : List (Nat × PE) := [(3, (2, 0, 0, 0, 0, 0)), (9, (0, 2, 0, 3, 1, 0)), (15, (0, 2, 1, 3, 1, 0)), (18, (0, 2, 2, 3, 1, 0)), (21, (0, 2, 3, 3, 1, 0)), (24, (0, 2, 4, 3, 1, 0)), (27, (0, 2, 5, 3, 1, 0)), (31, (0, 2, 6, 3, 1, 0)), (34, (0, 2, 7, 3, 1, 0)), (37, (0, 2, 8, 3, 1, 0)), (41, (8, 189, 3, 11, 1, 0)), (45, (7, 23, 1, 2, 1, 0)), (49, (1, 27, 1, 2, 1, 0)), (52, (1, 31, 1, 2, 1, 0)), (55, (1, 30, 2, 2, 1, 0)), (59, (1, 24, 2, 2, 2, 0))]
set_option maxRecDepth 100000 in
theorem pw_2 : ∀ n q, pl_2 n = some q → WD 2 (n, q) := pl_sp (b := 60) (al := al_2) (by decide +kernel) (fun n h => by rw [pl_2, blt_F h]; rfl) (List.forall_mem_cons.mpr ⟨wd_2_3, (List.forall_mem_cons.mpr ⟨wd_2_9, (List.forall_mem_cons.mpr ⟨wd_2_15, (List.forall_mem_cons.mpr ⟨wd_2_18, (List.forall_mem_cons.mpr ⟨wd_2_21, (List.forall_mem_cons.mpr ⟨wd_2_24, (List.forall_mem_cons.mpr ⟨wd_2_27, (List.forall_mem_cons.mpr ⟨wd_2_31, (List.forall_mem_cons.mpr ⟨wd_2_34, (List.forall_mem_cons.mpr ⟨wd_2_37, (List.forall_mem_cons.mpr ⟨wd_2_41, (List.forall_mem_cons.mpr ⟨wd_2_45, (List.forall_mem_cons.mpr ⟨wd_2_49, (List.forall_mem_cons.mpr ⟨wd_2_52, (List.forall_mem_cons.mpr ⟨wd_2_55, (List.forall_mem_cons.mpr ⟨wd_2_59, (fun p hp => by cases hp)⟩)⟩)⟩)⟩)⟩)⟩)⟩)⟩)⟩)⟩)⟩)⟩)⟩)⟩)⟩)⟩)
theorem wd_3_3 : WD 3 (3, (2, 0, 0, 0, 0, 0)) := ⟨⟨(tc_2 (i := 187) rfl rfl), (tc_1 (i := 26) rfl rfl), (tc_1 (i := 27) rfl rfl)⟩, trivial, trivial⟩
theorem wd_3_11 : WD 3 (11, (0, 3, 2, 3, 1, 0)) := ⟨⟨by decide, by decide, rfl, rfl, rfl, (tc_2 (i := 191) rfl rfl), uw_3⟩, trivial, trivial⟩
theorem wd_3_15 : WD 3 (15, (0, 3, 3, 3, 1, 0)) := ⟨⟨by decide, by decide, rfl, rfl, rfl, (tc_2 (i := 192) rfl rfl), uw_3⟩, trivial, trivial⟩
theorem wd_3_19 : WD 3 (19, (0, 3, 4, 3, 1, 0)) := ⟨⟨by decide, by decide, rfl, rfl, rfl, (tc_2 (i := 193) rfl rfl), uw_3⟩, trivial, trivial⟩
theorem wd_3_22 : WD 3 (22, (0, 3, 5, 3, 1, 0)) := ⟨⟨by decide, by decide, rfl, rfl, rfl, (tc_2 (i := 194) rfl rfl), uw_3⟩, trivial, trivial⟩
theorem wd_3_25 : WD 3 (25, (0, 3, 6, 3, 1, 0)) := ⟨⟨by decide, by decide, rfl, rfl, rfl, (tc_2 (i := 195) rfl rfl), uw_3⟩, trivial, trivial⟩
theorem wd_3_28 : WD 3 (28, (0, 3, 7, 3, 1, 0)) := ⟨⟨by decide, by decide, rfl, rfl, rfl, (tc_2 (i := 196) rfl rfl), uw_3⟩, trivial, trivial⟩
theorem wd_3_31 : WD 3 (31, (5, 0, 0, 0, 0, (-1))) := ⟨⟨by unfold r64; decide, (tc_2 (i := 188) rfl rfl)⟩, trivial, trivial⟩
theorem wd_3_33 : WD 3 (33, (0, 3, 10, 2, 0, 0)) := ⟨⟨by decide, by decide, rfl, rfl, rfl, (tc_2 (i := 200) rfl rfl), uw_3⟩, trivial, trivial⟩
theorem wd_3_37 : WD 3 (37, (0, 3, 0, 3, 1, 0)) := ⟨⟨by decide, by decide, rfl, rfl, rfl, (tc_2 (i := 189) rfl rfl), uw_3⟩, trivial, trivial⟩
theorem wd_3_41 : WD 3 (41, (0, 3, 1, 3, 1, 0)) := ⟨⟨by decide, by decide, rfl, rfl, rfl, (tc_2 (i := 190) rfl rfl), uw_3⟩, trivial, trivial⟩
theorem wd_3_45 : WD 3 (45, (0, 3, 9, 0, 0, 0)) := ⟨⟨by decide, by decide, rfl, rfl, rfl, (tc_2 (i := 198) rfl rfl), uw_3⟩, trivial, trivial⟩
theorem wd_3_49 : WD 3 (49, (8, 189, 3, 11, 1, 0)) := ⟨trivial, ⟨ck_189, ⟨_, List.mem_of_getElem? (i := 10) rfl⟩, sm_189⟩, trivial⟩
theorem wd_3_53 : WD 3 (53, (4, 0, 0, 0, 0, 1000000000)) := ⟨⟨by unfold r32; decide, (tc_6 (i := 23) rfl rfl)⟩, trivial, trivial⟩
theorem wd_3_54 : WD 3 (54, (0, 7, 10, 0, 0, 0)) := ⟨⟨by decide, by decide, rfl, rfl, rfl, (tc_1 (i := 44) rfl rfl), uw_7⟩, trivial, trivial⟩
theorem wd_3_57 : WD 3 (57, (1, 142, 4, 10, 1, 0)) := ⟨trivial, ⟨ck_142, (tc_6 (i := 40) rfl rfl), im_142, sl_142⟩, trivial⟩
theorem wd_3_63 : WD 3 (63, (1, 103, 2, 7, 1, 0)) := ⟨trivial, ⟨ck_103, (tc_6 (i := 41) rfl rfl), im_103, sl_103⟩, trivial⟩
theorem wd_3_67 : WD 3 (67, (1, 102, 2, 7, 1, 0)) := ⟨trivial, ⟨ck_102, (tc_6 (i := 42) rfl rfl), im_102, sl_102⟩, trivial⟩
theorem wd_3_70 : WD 3 (70, (1, 143, 4, 10, 1, 0)) := ⟨trivial, ⟨ck_143, (tc_6 (i := 43) rfl rfl), im_143, sl_143⟩, trivial⟩
theorem wd_3_74 : WD 3 (74, (1, 104, 2, 7, 1, 0)) := ⟨trivial, ⟨ck_104, (tc_6 (i := 65) rfl rfl), im_104, sl_104⟩, trivial⟩
theorem wd_3_77 : WD 3 (77, (2, 2, 0, 0, 0, 0)) := ⟨⟨(tc_6 (i := 66) rfl rfl), (tc_3 (i := 107) rfl rfl), (tc_1 (i := 14) rfl rfl), (tc_3 (i := 108) rfl rfl)⟩, trivial, trivial⟩
theorem wd_3_82 : WD 3 (82, (1, 37, 4, 3, 1, 0)) := ⟨trivial, ⟨ck_37, (tc_6 (i := 36) rfl rfl), im_37, sl_37⟩, trivial⟩
theorem wd_3_85 : WD 3 (85, (1, 36, 2, 3, 1, 0)) := ⟨trivial, ⟨ck_36, (tc_6 (i := 32) rfl rfl), im_36, sl_36⟩, trivial⟩
theorem wd_3_89 : WD 3 (89, (1, 41, 0, 3, 1, 0)) := ⟨trivial, ⟨ck_41, (tc_6 (i := 52) rfl rfl), im_41, sl_41⟩, trivial⟩
theorem wd_3_93 : WD 3 (93, (1, 42, 2, 3, 0, 0)) := ⟨trivial, ⟨ck_42, (tc_6 (i := 56) rfl rfl), im_42, sl_42⟩, trivial⟩
theorem wd_3_97 : WD 3 (97, (0, 3, 8, 0, 0, 0)) := ⟨⟨by decide, by decide, rfl, rfl, rfl, (tc_2 (i := 197) rfl rfl), uw_3⟩, trivial, trivial⟩
theorem wd_3_100 : WD 3 (100, (1, 43, 1, 3, 1, 0)) := ⟨trivial, ⟨ck_43, (tc_6 (i := 67) rfl rfl), im_43, sl_43⟩, trivial⟩
theorem wd_3_104 : WD 3 (104, (1, 44, 1, 3, 1, 0)) := ⟨trivial, ⟨ck_44, (tc_6 (i := 75) rfl rfl), im_44, sl_44⟩, trivial⟩
theorem wd_3_108 : WD 3 (108, (1, 45, 1, 3, 2, 0)) := ⟨trivial, ⟨ck_45, (tc_6 (i := 79) rfl rfl), im_45, sl_45⟩, trivial⟩
theorem wd_3_112 : WD 3 (112, (1, 39, 3, 3, 1, 0)) := ⟨trivial, ⟨ck_39, (tc_6 (i := 60) rfl rfl), im_39, sl_39⟩, trivial⟩
theorem wd_3_116 : WD 3 (116, (1, 38, 4, 3, 1, 0)) := ⟨trivial, ⟨ck_38, (tc_6 (i := 61) rfl rfl), im_38, sl_38⟩, trivial⟩
theorem wd_3_119 : WD 3 (119, (1, 100, 1, 7, 1, 0)) := ⟨trivial, ⟨ck_100, (tc_6 (i := 71) rfl rfl), im_100, sl_100⟩, trivial⟩
def al_3 : List (Nat × PE) := [(3, (2, 0, 0, 0, 0, 0)), (11, (0, 3, 2, 3, 1, 0)), (15, (0, 3, 3, 3, 1, 0)), (19, (0, 3, 4, 3, 1, 0)), (22, (0, 3, 5, 3, 1, 0)), (25, (0, 3, 6, 3, 1, 0)), (28, (0, 3, 7, 3, 1, 0)), (31, (5, 0, 0, 0, 0, (-1))), (33, (0, 3, 10, 2, 0, 0)), (37, (0, 3, 0, 3, 1, 0)), (41, (0, 3, 1, 3, 1, 0)), (45, (0, 3, 9, 0, 0, 0)), (49, (8, 189, 3, 11, 1, 0)), (53, (4, 0, 0, 0, 0, 1000000000)), (54, (0, 7, 10, 0, 0, 0)), (57, (1, 142, 4, 10, 1, 0)), (63, (1, 103, 2, 7, 1, 0)), (67, (1, 102, 2, 7, 1, 0)), (70, (1, 143, 4, 10, 1, 0)), (74, (1, 104, 2, 7, 1, 0)), (77, (2, 2, 0, 0, 0, 0)), (82, (1, 37, 4, 3, 1, 0)), (85, (1, 36, 2, 3, 1, 0)), (89, (1, 41, 0, 3, 1, 0)), (93, (1, 42, 2, 3, 0, 0)), (97, (0, 3, 8, 0, 0, 0)), (100, (1, 43, 1, 3, 1, 0)), (104, (1, 44, 1, 3, 1, 0)), (108, (1, 45, 1, 3, 2, 0)), (112, (1, 39, 3, 3, 1, 0)), (116, (1, 38, 4, 3, 1, 0)), (119, (1, 100, 1, 7, 1, 0))]
set_option maxRecDepth 100000 in
theorem pw_3 : ∀ n q, pl_3 n = some q → WD 3 (n, q) := pl_sp (b := 120) (al := al_3) (by decide +kernel) (fun n h => by rw [pl_3, blt_F h]; rfl) (List.forall_mem_cons.mpr ⟨wd_3_3, (List.forall_mem_cons.mpr ⟨wd_3_11, (List.forall_mem_cons.mpr ⟨wd_3_15, (List.forall_mem_cons.mpr ⟨wd_3_19, (List.forall_mem_cons.mpr ⟨wd_3_22, (List.forall_mem_cons.mpr ⟨wd_3_25, (List.forall_mem_cons.mpr ⟨wd_3_28, (List.forall_mem_cons.mpr ⟨wd_3_31, (List.forall_mem_cons.mpr ⟨wd_3_33, (List.forall_mem_cons.mpr ⟨wd_3_37, (List.forall_mem_cons.mpr ⟨wd_3_41, (List.forall_mem_cons.mpr ⟨wd_3_45, (List.forall_mem_cons.mpr ⟨wd_3_49, (List.forall_mem_cons.mpr ⟨wd_3_53, (List.forall_mem_cons.mpr ⟨wd_3_54, (List.forall_mem_cons.mpr ⟨wd_3_57, (List.forall_mem_cons.mpr ⟨wd_3_63, (List.forall_mem_cons.mpr ⟨wd_3_67, (List.forall_mem_cons.mpr ⟨wd_3_70, (List.forall_mem_cons.mpr ⟨wd_3_74, (List.forall_mem_cons.mpr ⟨wd_3_77, (List.forall_mem_cons.mpr ⟨wd_3_82, (List.forall_mem_cons.mpr ⟨wd_3_85, (List.forall_mem_cons.mpr ⟨wd_3_89, (List.forall_mem_cons.mpr ⟨wd_3_93, (List.forall_mem_cons.mpr ⟨wd_3_97, (List.forall_mem_cons.mpr ⟨wd_3_100, (List.forall_mem_cons.mpr ⟨wd_3_104, (List.forall_mem_cons.mpr ⟨wd_3_108, (List.forall_mem_cons.mpr ⟨wd_3_112, (List.forall_mem_cons.mpr ⟨wd_3_116, (List.forall_mem_cons.mpr ⟨wd_3_119, (fun p hp => by cases hp)⟩)⟩)⟩)⟩)⟩)⟩)⟩)⟩)⟩)⟩)⟩)⟩)⟩)⟩)⟩)⟩)⟩)⟩)⟩)⟩)⟩)⟩)⟩)⟩)⟩)⟩)⟩)⟩)⟩)⟩)⟩)⟩)
theorem wd_4_3 : WD 4 (3, (2, 0, 0, 0, 0, 0)) := ⟨⟨(tc_1 (i := 224) rfl rfl), (tc_1 (i := 26) rfl rfl), (tc_1 (i := 27) rfl rfl)⟩, trivial, trivial⟩
theorem wd_4_11 : WD 4 (11, (0, 4, 0, 3, 1, 0)) := ⟨⟨by decide, by decide, rfl, rfl, rfl, (tc_1 (i := 225) rfl rfl), uw_4⟩, trivial, trivial⟩
theorem wd_4_15 : WD 4 (15, (0, 4, 1, 3, 1, 0)) := ⟨⟨by decide, by decide, rfl, rfl, rfl, (tc_1 (i := 228) rfl rfl), uw_4⟩, trivial, trivial⟩
theorem wd_4_18 : WD 4 (18, (0, 4, 2, 3, 1, 0)) := ⟨⟨by decide, by decide, rfl, rfl, rfl, (tc_1 (i := 231) rfl rfl), uw_4⟩, trivial, trivial⟩
theorem wd_4_21 : WD 4 (21, (0, 4, 3, 3, 1, 0)) := ⟨⟨by decide, by decide, rfl, rfl, rfl, (tc_1 (i := 234) rfl rfl), uw_4⟩, trivial, trivial⟩
theorem wd_4_24 : WD 4 (24, (0, 4, 4, 3, 1, 0)) := ⟨⟨by decide, by decide, rfl, rfl, rfl, (tc_1 (i := 237) rfl rfl), uw_4⟩, trivial, trivial⟩
theorem wd_4_27 : WD 4 (27, (0, 4, 5, 3, 1, 0)) := ⟨⟨by decide, by decide, rfl, rfl, rfl, (tc_1 (i := 239) rfl rfl), uw_4⟩, trivial, trivial⟩
theorem wd_4_30 : WD 4 (30, (0, 4, 6, 3, 1, 0)) := ⟨⟨by decide, by decide, rfl, rfl, rfl, (tc_2 (i := 2) rfl rfl), uw_4⟩, trivial, trivial⟩
theorem wd_4_33 : WD 4 (33, (0, 4, 7, 0, 0, 0)) := ⟨⟨by decide, by decide, rfl, rfl, rfl, (tc_2 (i := 4) rfl rfl), uw_4⟩, trivial, trivial⟩
theorem wd_4_37 : WD 4 (37, (0, 4, 8, 0, 0, 0)) := ⟨⟨by decide, by decide, rfl, rfl, rfl, (tc_2 (i := 9) rfl rfl), uw_4⟩, trivial, trivial⟩
theorem wd_4_40 : WD 4 (40, (0, 4, 9, 0, 0, 0)) := ⟨⟨by decide, by decide, rfl, rfl, rfl, (tc_2 (i := 12) rfl rfl), uw_4⟩, trivial, trivial⟩
theorem wd_4_43 : WD 4 (43, (0, 4, 10, 0, 0, 0)) := ⟨⟨by decide, by decide, rfl, rfl, rfl, (tc_2 (i := 14) rfl rfl), uw_4⟩, trivial, trivial⟩
theorem wd_4_46 : WD 4 (46, (0, 4, 11, 0, 0, 0)) := ⟨⟨by decide, by decide, rfl, rfl, rfl, (tc_2 (i := 16) rfl rfl), uw_4⟩, trivial, trivial⟩
theorem wd_4_49 : WD 4 (49, (0, 4, 12, 0, 0, 0)) := ⟨⟨by decide, by decide, rfl, rfl, rfl, (tc_2 (i := 19) rfl rfl), uw_4⟩, trivial, trivial⟩
theorem wd_4_52 : WD 4 (52, (0, 4, 13, 0, 0, 0)) := ⟨⟨by decide, by decide, rfl, rfl, rfl, (tc_2 (i := 22) rfl rfl), uw_4⟩, trivial, trivial⟩
theorem wd_4_55 : WD 4 (55, (0, 4, 14, 0, 0, 0)) := ⟨⟨by decide, by decide, rfl, rfl, rfl, (tc_2 (i := 25) rfl rfl), uw_4⟩, trivial, trivial⟩
theorem wd_4_58 : WD 4 (58, (1, 49, 1, 4, 1, 0)) := ⟨trivial, ⟨ck_49, (tc_3 (i := 153) rfl rfl), im_49, sl_49⟩, trivial⟩
theorem wd_4_62 : WD 4 (62, (7, 52, 2, 4, 1, 0)) := ⟨trivial, ⟨ck_52, rfl, (tc_3 (i := 175) rfl rfl), sm_52⟩, trivial⟩
theorem wd_4_66 : WD 4 (66, (8, 189, 3, 11, 1, 0)) := ⟨trivial, ⟨ck_189, ⟨_, List.mem_of_getElem? (i := 5) rfl⟩, sm_189⟩, trivial⟩
theorem wd_4_70 : WD 4 (70, (4, 0, 0, 0, 0, (-1000000))) := ⟨⟨by unfold r32; decide, (tc_3 (i := 152) rfl rfl)⟩, trivial, trivial⟩
theorem wd_4_71 : WD 4 (71, (2, 2, 0, 0, 0, 0)) := ⟨⟨(tc_3 (i := 158) rfl rfl), (tc_3 (i := 107) rfl rfl), (tc_1 (i := 14) rfl rfl), (tc_3 (i := 108) rfl rfl)⟩, trivial, trivial⟩
def al_4 : List (Nat × PE) := [(3, (2, 0, 0, 0, 0, 0)), (11, (0, 4, 0, 3, 1, 0)), (15, (0, 4, 1, 3, 1, 0)), (18, (0, 4, 2, 3, 1, 0)), (21, (0, 4, 3, 3, 1, 0)), (24, (0, 4, 4, 3, 1, 0)), (27, (0, 4, 5, 3, 1, 0)), (30, (0, 4, 6, 3, 1, 0)), (33, (0, 4, 7, 0, 0, 0)), (37, (0, 4, 8, 0, 0, 0)), (40, (0, 4, 9, 0, 0, 0)), (43, (0, 4, 10, 0, 0, 0)), (46, (0, 4, 11, 0, 0, 0)), (49, (0, 4, 12, 0, 0, 0)), (52, (0, 4, 13, 0, 0, 0)), (55, (0, 4, 14, 0, 0, 0)), (58, (1, 49, 1, 4, 1, 0)), (62, (7, 52, 2, 4, 1, 0)), (66, (8, 189, 3, 11, 1, 0)), (70, (4, 0, 0, 0, 0, (-1000000))), (71, (2, 2, 0, 0, 0, 0))]
set_option maxRecDepth 100000 in
theorem pw_4 : ∀ n q, pl_4 n = some q → WD 4 (n, q) := pl_sp (b := 72) (al := al_4) (by decide +kernel) (fun n h => by rw [pl_4, blt_F h]; rfl) (List.forall_mem_cons.mpr ⟨wd_4_3, (List.forall_mem_cons.mpr ⟨wd_4_11, (List.forall_mem_cons.mpr ⟨wd_4_15, (List.forall_mem_cons.mpr ⟨wd_4_18, (List.forall_mem_cons.mpr ⟨wd_4_21, (List.forall_mem_cons.mpr ⟨wd_4_24, (List.forall_mem_cons.mpr ⟨wd_4_27, (List.forall_mem_cons.mpr ⟨wd_4_30, (List.forall_mem_cons.mpr ⟨wd_4_33, (List.forall_mem_cons.mpr ⟨wd_4_37, (List.forall_mem_cons.mpr ⟨wd_4_40, (List.forall_mem_cons.mpr ⟨wd_4_43, (List.forall_mem_cons.mpr ⟨wd_4_46, (List.forall_mem_cons.mpr ⟨wd_4_49, (List.forall_mem_cons.mpr ⟨wd_4_52, (List.forall_mem_cons.mpr ⟨wd_4_55, (List.forall_mem_cons.mpr ⟨wd_4_58, (List.forall_mem_cons.mpr ⟨wd_4_62, (List.forall_mem_cons.mpr ⟨wd_4_66, (List.forall_mem_cons.mpr ⟨wd_4_70, (List.forall_mem_cons.mpr ⟨wd_4_71, (fun p hp => by cases hp)⟩)⟩)⟩)⟩)⟩)⟩)⟩)⟩)⟩)⟩)⟩)⟩)⟩)⟩)⟩)⟩)⟩)⟩)⟩)⟩)⟩)
theorem wd_5_3 : WD 5 (3, (2, 0, 0, 0, 0, 0)) := ⟨⟨(tc_1 (i := 137) rfl rfl), (tc_1 (i := 26) rfl rfl), (tc_1 (i := 27) rfl rfl)⟩, trivial, trivial⟩
theorem wd_5_11 : WD 5 (11, (0, 5, 1, 3, 1, 0)) := ⟨⟨by decide, by decide, rfl, rfl, rfl, (tc_1 (i := 139) rfl rfl), uw_5⟩, trivial, trivial⟩
theorem wd_5_15 : WD 5 (15, (0, 5, 0, 3, 1, 0)) := ⟨⟨by decide, by decide, rfl, rfl, rfl, (tc_1 (i := 138) rfl rfl), uw_5⟩, trivial, trivial⟩
theorem wd_5_19 : WD 5 (19, (0, 5, 2, 0, 0, 0)) := ⟨⟨by decide, by decide, rfl, rfl, rfl, (tc_1 (i := 140) rfl rfl), uw_5⟩, trivial, trivial⟩
theorem wd_5_23 : WD 5 (23, (0, 5, 3, 3, 0, 0)) := ⟨⟨by decide, by decide, rfl, rfl, rfl, (tc_1 (i := 142) rfl rfl), uw_5⟩, trivial, trivial⟩
theorem wd_5_27 : WD 5 (27, (1, 47, 0, 4, 0, 0)) := ⟨trivial, ⟨ck_47, (tc_4 (i := 127) rfl rfl), im_47, sl_47⟩, trivial⟩
theorem wd_5_32 : WD 5 (32, (0, 5, 4, 0, 0, 0)) := ⟨⟨by decide, by decide, rfl, rfl, rfl, (tc_1 (i := 143) rfl rfl), uw_5⟩, trivial, trivial⟩
theorem wd_5_35 : WD 5 (35, (0, 5, 5, 0, 0, 0)) := ⟨⟨by decide, by decide, rfl, rfl, rfl, (tc_1 (i := 144) rfl rfl), uw_5⟩, trivial, trivial⟩
theorem wd_5_38 : WD 5 (38, (6, 0, 0, 0, 0, 0)) := ⟨trivial, trivial, by decide, rfl, rfl⟩
theorem wd_5_40 : WD 5 (40, (1, 66, 1, 5, 1, 0)) := ⟨trivial, ⟨ck_66, (tc_4 (i := 132) rfl rfl), im_66, sl_66⟩, trivial⟩
theorem wd_5_44 : WD 5 (44, (1, 71, 1, 5, 1, 0)) := ⟨trivial, ⟨ck_71, (tc_4 (i := 205) rfl rfl), im_71, sl_71⟩, trivial⟩
theorem wd_5_48 : WD 5 (48, (1, 81, 0, 5, 1, 0)) := ⟨trivial, ⟨ck_81, (tc_5 (i := 26) rfl rfl), im_81, sl_81⟩, trivial⟩
theorem wd_5_52 : WD 5 (52, (1, 82, 0, 5, 1, 0)) := ⟨trivial, ⟨ck_82, (tc_5 (i := 31) rfl rfl), im_82, sl_82⟩, trivial⟩
theorem wd_5_55 : WD 5 (55, (1, 68, 1, 5, 1, 0)) := ⟨trivial, ⟨ck_68, (tc_5 (i := 20) rfl rfl), im_68, sl_68⟩, trivial⟩
theorem wd_5_59 : WD 5 (59, (1, 83, 0, 5, 1, 0)) := ⟨trivial, ⟨ck_83, (tc_5 (i := 36) rfl rfl), im_83, sl_83⟩, trivial⟩
theorem wd_5_62 : WD 5 (62, (1, 69, 0, 5, 1, 0)) := ⟨trivial, ⟨ck_69, (tc_5 (i := 42) rfl rfl), im_69, sl_69⟩, trivial⟩
theorem wd_5_65 : WD 5 (65, (1, 63, 0, 5, 0, 0)) := ⟨trivial, ⟨ck_63, (tc_4 (i := 144) rfl rfl), im_63, sl_63⟩, trivial⟩
theorem wd_5_68 : WD 5 (68, (2, 4, 0, 0, 0, 0)) := ⟨trivial, trivial, (tc_4 (i := 148) rfl rfl)⟩
theorem wd_5_74 : WD 5 (74, (1, 62, 1, 5, 1, 0)) := ⟨trivial, ⟨ck_62, (tc_4 (i := 158) rfl rfl), im_62, sl_62⟩, trivial⟩
theorem wd_5_78 : WD 5 (78, (2, 5, 0, 0, 0, 0)) := ⟨trivial, trivial, (tc_4 (i := 162) rfl rfl)⟩
theorem wd_5_82 : WD 5 (82, (8, 189, 3, 11, 1, 0)) := ⟨trivial, ⟨ck_189, ⟨_, List.mem_of_getElem? (i := 8) rfl⟩, sm_189⟩, trivial⟩
theorem wd_5_86 : WD 5 (86, (1, 64, 1, 5, 1, 0)) := ⟨trivial, ⟨ck_64, (tc_4 (i := 140) rfl rfl), im_64, sl_64⟩, trivial⟩
theorem wd_5_89 : WD 5 (89, (1, 65, 1, 5, 1, 0)) := ⟨trivial, ⟨ck_65, (tc_4 (i := 136) rfl rfl), im_65, sl_65⟩, trivial⟩
theorem wd_5_92 : WD 5 (92, (1, 61, 2, 5, 1, 0)) := ⟨trivial, ⟨ck_61, (tc_4 (i := 201) rfl rfl), im_61, sl_61⟩, trivial⟩
theorem wd_5_96 : WD 5 (96, (1, 67, 1, 5, 1, 0)) := ⟨trivial, ⟨ck_67, (tc_5 (i := 7) rfl rfl), im_67, sl_67⟩, trivial⟩
theorem wd_5_99 : WD 5 (99, (0, 4, 9, 0, 0, 0)) := ⟨⟨by decide, by decide, rfl, rfl, rfl, (tc_2 (i := 13) rfl rfl), uw_4⟩, trivial, trivial⟩
theorem wd_5_100 : WD 5 (100, (0, 4, 6, 3, 1, 0)) := ⟨⟨by decide, by decide, rfl, rfl, rfl, (tc_2 (i := 3) rfl rfl), uw_4⟩, trivial, trivial⟩
theorem wd_5_103 : WD 5 (103, (1, 72, 1, 5, 1, 0)) := ⟨trivial, ⟨ck_72, (tc_4 (i := 209) rfl rfl), im_72, sl_72⟩, trivial⟩
theorem wd_5_106 : WD 5 (106, (1, 70, 1, 5, 0, 0)) := ⟨trivial, ⟨ck_70, (tc_5 (i := 16) rfl rfl), im_70, sl_70⟩, trivial⟩
theorem wd_5_110 : WD 5 (110, (6, 6, 0, 0, 0, 0)) := ⟨trivial, trivial, by decide, rfl, rfl⟩
theorem wd_5_112 : WD 5 (112, (6, 7, 0, 0, 0, 0)) := ⟨trivial, trivial, by decide, rfl, rfl⟩
theorem wd_5_114 : WD 5 (114, (6, 1, 0, 0, 0, 0)) := ⟨trivial, trivial, by decide, rfl, rfl⟩
theorem wd_5_116 : WD 5 (116, (1, 74, 0, 5, 1, 0)) := ⟨trivial, ⟨ck_74, (tc_4 (i := 214) rfl rfl), im_74, sl_74⟩, trivial⟩
theorem wd_5_119 : WD 5 (119, (6, 2, 0, 0, 0, 0)) := ⟨trivial, trivial, by decide, rfl, rfl⟩
theorem wd_5_121 : WD 5 (121, (6, 3, 0, 0, 0, 0)) := ⟨trivial, trivial, by decide, rfl, rfl⟩
theorem wd_5_123 : WD 5 (123, (6, 4, 0, 0, 0, 0)) := ⟨trivial, trivial, by decide, rfl, rfl⟩
theorem wd_5_125 : WD 5 (125, (6, 5, 0, 0, 0, 0)) := ⟨trivial, trivial, by decide, rfl, rfl⟩
theorem wd_5_127 : WD 5 (127, (1, 73, 0, 5, 1, 0)) := ⟨trivial, ⟨ck_73, (tc_4 (i := 218) rfl rfl), im_73, sl_73⟩, trivial⟩
theorem wd_5_130 : WD 5 (130, (0, 4, 7, 0, 0, 0)) := ⟨⟨by decide, by decide, rfl, rfl, rfl, (tc_2 (i := 8) rfl rfl), uw_4⟩, trivial, trivial⟩
theorem wd_5_133 : WD 5 (133, (0, 5, 7, 0, 0, 0)) := ⟨⟨by decide, by decide, rfl, rfl, rfl, (tc_1 (i := 146) rfl rfl), uw_5⟩, trivial, trivial⟩
theorem wd_5_136 : WD 5 (136, (1, 76, 0, 5, 1, 0)) := ⟨trivial, ⟨ck_76, (tc_4 (i := 226) rfl rfl), im_76, sl_76⟩, trivial⟩
theorem wd_5_139 : WD 5 (139, (1, 77, 0, 5, 1, 0)) := ⟨trivial, ⟨ck_77, (tc_4 (i := 235) rfl rfl), im_77, sl_77⟩, trivial⟩
theorem wd_5_142 : WD 5 (142, (1, 78, 0, 5, 1, 0)) := ⟨trivial, ⟨ck_78, (tc_4 (i := 239) rfl rfl), im_78, sl_78⟩, trivial⟩
theorem wd_5_145 : WD 5 (145, (0, 4, 0, 3, 1, 0)) := ⟨⟨by decide, by decide, rfl, rfl, rfl, (tc_1 (i := 227) rfl rfl), uw_4⟩, trivial, trivial⟩
theorem wd_5_148 : WD 5 (148, (0, 4, 1, 3, 1, 0)) := ⟨⟨by decide, by decide, rfl, rfl, rfl, (tc_1 (i := 230) rfl rfl), uw_4⟩, trivial, trivial⟩
theorem wd_5_151 : WD 5 (151, (0, 5, 6, 0, 0, 0)) := ⟨⟨by decide, by decide, rfl, rfl, rfl, (tc_1 (i := 145) rfl rfl), uw_5⟩, trivial, trivial⟩
theorem wd_5_154 : WD 5 (154, (0, 4, 2, 3, 1, 0)) := ⟨⟨by decide, by decide, rfl, rfl, rfl, (tc_1 (i := 233) rfl rfl), uw_4⟩, trivial, trivial⟩
theorem wd_5_157 : WD 5 (157, (0, 4, 3, 3, 1, 0)) := ⟨⟨by decide, by decide, rfl, rfl, rfl, (tc_1 (i := 236) rfl rfl), uw_4⟩, trivial, trivial⟩
theorem wd_5_160 : WD 5 (160, (0, 5, 8, 0, 0, 0)) := ⟨⟨by decide, by decide, rfl, rfl, rfl, (tc_1 (i := 147) rfl rfl), uw_5⟩, trivial, trivial⟩
theorem wd_5_163 : WD 5 (163, (1, 75, 0, 5, 1, 0)) := ⟨trivial, ⟨ck_75, (tc_5 (i := 3) rfl rfl), im_75, sl_75⟩, trivial⟩
theorem wd_5_166 : WD 5 (166, (1, 79, 0, 5, 1, 0)) := ⟨trivial, ⟨ck_79, (tc_5 (i := 11) rfl rfl), im_79, sl_79⟩, trivial⟩
theorem wd_5_169 : WD 5 (169, (0, 4, 4, 3, 1, 0)) := ⟨⟨by decide, by decide, rfl, rfl, rfl, (tc_1 (i := 238) rfl rfl), uw_4⟩, trivial, trivial⟩
theorem wd_5_172 : WD 5 (172, (0, 4, 5, 3, 1, 0)) := ⟨⟨by decide, by decide, rfl, rfl, rfl, (tc_2 (i := 1) rfl rfl), uw_4⟩, trivial, trivial⟩
theorem wd_5_175 : WD 5 (175, (1, 80, 2, 5, 1, 0)) := ⟨trivial, ⟨ck_80, (tc_4 (i := 230) rfl rfl), im_80, sl_80⟩, trivial⟩
theorem wd_5_178 : WD 5 (178, (1, 96, 1, 7, 1, 0)) := ⟨trivial, ⟨ck_96, (tc_4 (i := 234) rfl rfl), im_96, sl_96⟩, trivial⟩
theorem wd_5_183 : WD 5 (183, (4, 0, 0, 0, 0, 999999)) := ⟨⟨by unfold r32; decide, (tc_5 (i := 15) rfl rfl)⟩, trivial, trivial⟩
theorem wd_5_184 : WD 5 (184, (6, 8, 0, 0, 0, 0)) := ⟨trivial, trivial, by decide, rfl, rfl⟩
theorem wd_5_186 : WD 5 (186, (0, 4, 11, 0, 0, 0)) := ⟨⟨by decide, by decide, rfl, rfl, rfl, (tc_2 (i := 18) rfl rfl), uw_4⟩, trivial, trivial⟩
theorem wd_5_189 : WD 5 (189, (0, 4, 8, 0, 0, 0)) := ⟨⟨by decide, by decide, rfl, rfl, rfl, (tc_2 (i := 11) rfl rfl), uw_4⟩, trivial, trivial⟩
theorem wd_5_192 : WD 5 (192, (0, 4, 10, 0, 0, 0)) := ⟨⟨by decide, by decide, rfl, rfl, rfl, (tc_2 (i := 15) rfl rfl), uw_4⟩, trivial, trivial⟩
theorem wd_5_195 : WD 5 (195, (6, 9, 0, 0, 0, 0)) := ⟨trivial, trivial, by decide, rfl, rfl⟩
theorem wd_5_197 : WD 5 (197, (6, 10, 0, 0, 0, 0)) := ⟨trivial, trivial, by decide, rfl, rfl⟩
theorem wd_5_199 : WD 5 (199, (6, 11, 0, 0, 0, 0)) := ⟨trivial, trivial, by decide, rfl, rfl⟩
theorem wd_5_201 : WD 5 (201, (0, 4, 12, 0, 0, 0)) := ⟨⟨by decide, by decide, rfl, rfl, rfl, (tc_2 (i := 21) rfl rfl), uw_4⟩, trivial, trivial⟩
theorem wd_5_204 : WD 5 (204, (0, 4, 13, 0, 0, 0)) := ⟨⟨by decide, by decide, rfl, rfl, rfl, (tc_2 (i := 24) rfl rfl), uw_4⟩, trivial, trivial⟩
theorem wd_5_207 : WD 5 (207, (0, 4, 14, 0, 0, 0)) := ⟨⟨by decide, by decide, rfl, rfl, rfl, (tc_2 (i := 28) rfl rfl), uw_4⟩, trivial, trivial⟩
def al_5 : List (Nat × PE) := [(3, (2, 0, 0, 0, 0, 0)), (11, (0, 5, 1, 3, 1, 0)), (15, (0, 5, 0, 3, 1, 0)), (19, (0, 5, 2, 0, 0, 0)), (23, (0, 5, 3, 3, 0, 0)), (27, (1, 47, 0, 4, 0, 0)), (32, (0, 5, 4, 0, 0, 0)), (35, (0, 5, 5, 0, 0, 0)), (38, (6, 0, 0, 0, 0, 0)), (40, (1, 66, 1, 5, 1, 0)), (44, (1, 71, 1, 5, 1, 0)), (48, (1, 81, 0, 5, 1, 0)), (52, (1, 82, 0, 5, 1, 0)), (55, (1, 68, 1, 5, 1, 0)), (59, (1, 83, 0, 5, 1, 0)), (62, (1, 69, 0, 5, 1, 0)), (65, (1, 63, 0, 5, 0, 0)), (68, (2, 4, 0, 0, 0, 0)), (74, (1, 62, 1, 5, 1, 0)), (78, (2, 5, 0, 0, 0, 0)), (82, (8, 189, 3, 11, 1, 0)), (86, (1, 64, 1, 5, 1, 0)), (89, (1, 65, 1, 5, 1, 0)), (92, (1, 61, 2, 5, 1, 0)), (96, (1, 67, 1, 5, 1, 0)), (99, (0, 4, 9, 0, 0, 0)), (100, (0, 4, 6, 3, 1, 0)), (103, (1, 72, 1, 5, 1, 0)), (106, (1, 70, 1, 5, 0, 0)), (110, (6, 6, 0, 0, 0, 0)), (112, (6, 7, 0, 0, 0, 0)), (114, (6, 1, 0, 0, 0, 0)), (116, (1, 74, 0, 5, 1, 0)), (119, (6, 2, 0, 0, 0, 0)), (121, (6, 3, 0, 0, 0, 0)), (123, (6, 4, 0, 0, 0, 0)), (125, (6, 5, 0, 0, 0, 0)), (127, (1, 73, 0, 5, 1, 0)), (130, (0, 4, 7, 0, 0, 0)), (133, (0, 5, 7, 0, 0, 0)), (136, (1, 76, 0, 5, 1, 0)), (139, (1, 77, 0, 5, 1, 0)), (142, (1, 78, 0, 5, 1, 0)), (145, (0, 4, 0, 3, 1, 0)), (148, (0, 4, 1, 3, 1, 0)), (151, (0, 5, 6, 0, 0, 0)), (154, (0, 4, 2, 3, 1, 0)), (157, (0, 4, 3, 3, 1, 0)), (160, (0, 5, 8, 0, 0, 0)), (163, (1, 75, 0, 5, 1, 0)), (166, (1, 79, 0, 5, 1, 0)), (169, (0, 4, 4, 3, 1, 0)), (172, (0, 4, 5, 3, 1, 0)), (175, (1, 80, 2, 5, 1, 0)), (178, (1, 96, 1, 7, 1, 0)), (183, (4, 0, 0, 0, 0, 999999)), (184, (6, 8, 0, 0, 0, 0)), (186, (0, 4, 11, 0, 0, 0)), (189, (0, 4, 8, 0, 0, 0)), (192, (0, 4, 10, 0, 0, 0)), (195, (6, 9, 0, 0, 0, 0)), (197, (6, 10, 0, 0, 0, 0)), (199, (6, 11, 0, 0, 0, 0)), (201, (0, 4, 12, 0, 0, 0)), (204, (0, 4, 13, 0, 0, 0)), (207, (0, 4, 14, 0, 0, 0))]
set_option maxRecDepth 100000 in
theorem pw_5 : ∀ n q, pl_5 n = some q → WD 5 (n, q) := pl_sp (b := 208) (al := al_5) (by decide +kernel) (fun n h => by rw [pl_5, blt_F h]; rfl) (List.forall_mem_cons.mpr ⟨wd_5_3, (List.forall_mem_cons.mpr ⟨wd_5_11, (List.forall_mem_cons.mpr ⟨wd_5_15, (List.forall_mem_cons.mpr ⟨wd_5_19, (List.forall_mem_cons.mpr ⟨wd_5_23, (List.forall_mem_cons.mpr ⟨wd_5_27, (List.forall_mem_cons.mpr ⟨wd_5_32, (List.forall_mem_cons.mpr ⟨wd_5_35, (List.forall_mem_cons.mpr ⟨wd_5_38, (List.forall_mem_cons.mpr ⟨wd_5_40, (List.forall_mem_cons.mpr ⟨wd_5_44, (List.forall_mem_cons.mpr ⟨wd_5_48, (List.forall_mem_cons.mpr ⟨wd_5_52, (List.forall_mem_cons.mpr ⟨wd_5_55, (List.forall_mem_cons.mpr ⟨wd_5_59, (List.forall_mem_cons.mpr ⟨wd_5_62, (List.forall_mem_cons.mpr ⟨wd_5_65, (List.forall_mem_cons.mpr ⟨wd_5_68, (List.forall_mem_cons.mpr ⟨wd_5_74, (List.forall_mem_cons.mpr ⟨wd_5_78, (List.forall_mem_cons.mpr ⟨wd_5_82, (List.forall_mem_cons.mpr ⟨wd_5_86, (List.forall_mem_cons.mpr ⟨wd_5_89, (List.forall_mem_cons.mpr ⟨wd_5_92, (List.forall_mem_cons.mpr ⟨wd_5_96, (List.forall_mem_cons.mpr ⟨wd_5_99, (List.forall_mem_cons.mpr ⟨wd_5_100, (List.forall_mem_cons.mpr ⟨wd_5_103, (List.forall_mem_cons.mpr ⟨wd_5_106, (List.forall_mem_cons.mpr ⟨wd_5_110, (List.forall_mem_cons.mpr ⟨wd_5_112, (List.forall_mem_cons.mpr ⟨wd_5_114, (List.forall_mem_cons.mpr ⟨wd_5_116, (List.forall_mem_cons.mpr ⟨wd_5_119, (List.forall_mem_cons.mpr ⟨wd_5_121, (List.forall_mem_cons.mpr ⟨wd_5_123, (List.forall_mem_cons.mpr ⟨wd_5_125, (List.forall_mem_cons.mpr ⟨wd_5_127, (List.forall_mem_cons.mpr ⟨wd_5_130, (List.forall_mem_cons.mpr ⟨wd_5_133, (List.forall_mem_cons.mpr ⟨wd_5_136, (List.forall_mem_cons.mpr ⟨wd_5_139, (List.forall_mem_cons.mpr ⟨wd_5_142, (List.forall_mem_cons.mpr ⟨wd_5_145, (List.forall_mem_cons.mpr ⟨wd_5_148, (List.forall_mem_cons.mpr ⟨wd_5_151, (List.forall_mem_cons.mpr ⟨wd_5_154, (List.forall_mem_cons.mpr ⟨wd_5_157, (List.forall_mem_cons.mpr ⟨wd_5_160, (List.forall_mem_cons.mpr ⟨wd_5_163, (List.forall_mem_cons.mpr ⟨wd_5_166, (List.forall_mem_cons.mpr ⟨wd_5_169, (List.forall_mem_cons.mpr ⟨wd_5_172, (List.forall_mem_cons.mpr ⟨wd_5_175, (List.forall_mem_cons.mpr ⟨wd_5_178, (List.forall_mem_cons.mpr ⟨wd_5_183, (List.forall_mem_cons.mpr ⟨wd_5_184, (List.forall_mem_cons.mpr ⟨wd_5_186, (List.forall_mem_cons.mpr ⟨wd_5_189, (List.forall_mem_cons.mpr ⟨wd_5_192, (List.forall_mem_cons.mpr ⟨wd_5_195, (List.forall_mem_cons.mpr ⟨wd_5_197, (List.forall_mem_cons.mpr ⟨wd_5_199, (List.forall_mem_cons.mpr ⟨wd_5_201, (List.forall_mem_cons.mpr ⟨wd_5_204, (List.forall_mem_cons.mpr ⟨wd_5_207, (fun p hp => by cases hp)⟩)⟩)⟩)⟩)⟩)⟩)⟩)⟩)⟩)⟩)⟩)⟩)⟩)⟩)⟩)⟩)⟩)⟩)⟩)⟩)⟩)⟩)⟩)⟩)⟩)⟩)⟩)⟩)⟩)⟩)⟩)⟩)⟩)⟩)⟩)⟩)⟩)⟩)⟩)⟩)⟩)⟩)⟩)⟩)⟩)⟩)⟩)⟩)⟩)⟩)⟩)⟩)⟩)⟩)⟩)⟩)⟩)⟩)⟩)⟩)⟩)⟩)⟩)⟩)⟩)⟩)
theorem wd_6_3 : WD 6 (3, (2, 0, 0, 0, 0, 0)) := ⟨⟨(tc_2 (i := 119) rfl rfl), (tc_1 (i := 26) rfl rfl), (tc_1 (i := 27) rfl rfl)⟩, trivial, trivial⟩
theorem wd_6_11 : WD 6 (11, (0, 6, 2, 3, 1, 0)) := ⟨⟨by decide, by decide, rfl, rfl, rfl, (tc_2 (i := 122) rfl rfl), uw_6⟩, trivial, trivial⟩
theorem wd_6_15 : WD 6 (15, (0, 6, 3, 3, 1, 0)) := ⟨⟨by decide, by decide, rfl, rfl, rfl, (tc_2 (i := 124) rfl rfl), uw_6⟩, trivial, trivial⟩
theorem wd_6_18 : WD 6 (18, (0, 6, 4, 3, 1, 0)) := ⟨⟨by decide, by decide, rfl, rfl, rfl, (tc_2 (i := 126) rfl rfl), uw_6⟩, trivial, trivial⟩
theorem wd_6_21 : WD 6 (21, (0, 6, 5, 3, 1, 0)) := ⟨⟨by decide, by decide, rfl, rfl, rfl, (tc_2 (i := 127) rfl rfl), uw_6⟩, trivial, trivial⟩
theorem wd_6_24 : WD 6 (24, (0, 6, 6, 3, 1, 0)) := ⟨⟨by decide, by decide, rfl, rfl, rfl, (tc_2 (i := 128) rfl rfl), uw_6⟩, trivial, trivial⟩
theorem wd_6_27 : WD 6 (27, (0, 6, 0, 3, 1, 0)) := ⟨⟨by decide, by decide, rfl, rfl, rfl, (tc_2 (i := 120) rfl rfl), uw_6⟩, trivial, trivial⟩
theorem wd_6_31 : WD 6 (31, (0, 6, 1, 3, 1, 0)) := ⟨⟨by decide, by decide, rfl, rfl, rfl, (tc_2 (i := 121) rfl rfl), uw_6⟩, trivial, trivial⟩
theorem wd_6_35 : WD 6 (35, (1, 86, 1, 6, 1, 0)) := ⟨trivial, ⟨ck_86, (tc_5 (i := 152) rfl rfl), im_86, sl_86⟩, trivial⟩
theorem wd_6_39 : WD 6 (39, (0, 6, 7, 0, 0, 0)) := ⟨⟨by decide, by decide, rfl, rfl, rfl, (tc_2 (i := 129) rfl rfl), uw_6⟩, trivial, trivial⟩
theorem wd_6_43 : WD 6 (43, (1, 87, 2, 6, 0, 0)) := ⟨trivial, ⟨ck_87, (tc_5 (i := 161) rfl rfl), im_87, sl_87⟩, trivial⟩
theorem wd_6_49 : WD 6 (49, (1, 110, 1, 8, 3, 0)) := ⟨trivial, ⟨ck_110, (tc_5 (i := 156) rfl rfl), im_110, sl_110⟩, trivial⟩
theorem wd_6_53 : WD 6 (53, (0, 4, 7, 0, 0, 0)) := ⟨⟨by decide, by decide, rfl, rfl, rfl, (tc_2 (i := 5) rfl rfl), uw_4⟩, trivial, trivial⟩
theorem wd_6_58 : WD 6 (58, (1, 50, 1, 4, 1, 0)) := ⟨trivial, ⟨ck_50, (tc_5 (i := 157) rfl rfl), im_50, sl_50⟩, trivial⟩
theorem wd_6_62 : WD 6 (62, (1, 102, 2, 7, 1, 0)) := ⟨trivial, ⟨ck_102, (tc_5 (i := 165) rfl rfl), im_102, sl_102⟩, trivial⟩
theorem wd_6_68 : WD 6 (68, (1, 103, 2, 7, 1, 0)) := ⟨trivial, ⟨ck_103, (tc_5 (i := 166) rfl rfl), im_103, sl_103⟩, trivial⟩
theorem wd_6_71 : WD 6 (71, (1, 89, 2, 6, 0, 0)) := ⟨trivial, ⟨ck_89, (tc_5 (i := 167) rfl rfl), im_89, sl_89⟩, trivial⟩
theorem wd_6_74 : WD 6 (74, (1, 49, 1, 4, 1, 0)) := ⟨trivial, ⟨ck_49, (tc_5 (i := 171) rfl rfl), im_49, sl_49⟩, trivial⟩
theorem wd_6_77 : WD 6 (77, (0, 4, 5, 3, 1, 0)) := ⟨⟨by decide, by decide, rfl, rfl, rfl, (tc_2 (i := 0) rfl rfl), uw_4⟩, trivial, trivial⟩
theorem wd_6_80 : WD 6 (80, (1, 88, 4, 6, 0, 0)) := ⟨trivial, ⟨ck_88, (tc_5 (i := 172) rfl rfl), im_88, sl_88⟩, trivial⟩
theorem wd_6_84 : WD 6 (84, (8, 189, 3, 11, 1, 0)) := ⟨trivial, ⟨ck_189, ⟨_, List.mem_of_getElem? (i := 9) rfl⟩, sm_189⟩, trivial⟩
theorem wd_6_88 : WD 6 (88, (4, 0, 0, 0, 0, (-1000000))) := ⟨⟨by unfold r32; decide, (tc_5 (i := 189) rfl rfl)⟩, trivial, trivial⟩
def al_6 : List (Nat × PE) := [(3, (2, 0, 0, 0, 0, 0)), (11, (0, 6, 2, 3, 1, 0)), (15, (0, 6, 3, 3, 1, 0)), (18, (0, 6, 4, 3, 1, 0)), (21, (0, 6, 5, 3, 1, 0)), (24, (0, 6, 6, 3, 1, 0)), (27, (0, 6, 0, 3, 1, 0)), (31, (0, 6, 1, 3, 1, 0)), (35, (1, 86, 1, 6, 1, 0)), (39, (0, 6, 7, 0, 0, 0)), (43, (1, 87, 2, 6, 0, 0)), (49, (1, 110, 1, 8, 3, 0)), (53, (0, 4, 7, 0, 0, 0)), (58, (1, 50, 1, 4, 1, 0)), (62, (1, 102, 2, 7, 1, 0)), (68, (1, 103, 2, 7, 1, 0)), (71, (1, 89, 2, 6, 0, 0)), (74, (1, 49, 1, 4, 1, 0)), (77, (0, 4, 5, 3, 1, 0)), (80, (1, 88, 4, 6, 0, 0)), (84, (8, 189, 3, 11, 1, 0)), (88, (4, 0, 0, 0, 0, (-1000000)))]
set_option maxRecDepth 100000 in
theorem pw_6 : ∀ n q, pl_6 n = some q → WD 6 (n, q) := pl_sp (b := 89) (al := al_6) (by decide +kernel) (fun n h => by rw [pl_6, blt_F h]; rfl) (List.forall_mem_cons.mpr ⟨wd_6_3, (List.forall_mem_cons.mpr ⟨wd_6_11, (List.forall_mem_cons.mpr ⟨wd_6_15, (List.forall_mem_cons.mpr ⟨wd_6_18, (List.forall_mem_cons.mpr ⟨wd_6_21, (List.forall_mem_cons.mpr ⟨wd_6_24, (List.forall_mem_cons.mpr ⟨wd_6_27, (List.forall_mem_cons.mpr ⟨wd_6_31, (List.forall_mem_cons.mpr ⟨wd_6_35, (List.forall_mem_cons.mpr ⟨wd_6_39, (List.forall_mem_cons.mpr ⟨wd_6_43, (List.forall_mem_cons.mpr ⟨wd_6_49, (List.forall_mem_cons.mpr ⟨wd_6_53, (List.forall_mem_cons.mpr ⟨wd_6_58, (List.forall_mem_cons.mpr ⟨wd_6_62, (List.forall_mem_cons.mpr ⟨wd_6_68, (List.forall_mem_cons.mpr ⟨wd_6_71, (List.forall_mem_cons.mpr ⟨wd_6_74, (List.forall_mem_cons.mpr ⟨wd_6_77, (List.forall_mem_cons.mpr ⟨wd_6_80, (List.forall_mem_cons.mpr ⟨wd_6_84, (List.forall_mem_cons.mpr ⟨wd_6_88, (fun p hp => by cases hp)⟩)⟩)⟩)⟩)⟩)⟩)⟩)⟩)⟩)⟩)⟩)⟩)⟩)⟩)⟩)⟩)⟩)⟩)⟩)⟩)⟩)⟩)
theorem wd_7_3 : WD 7 (3, (2, 0, 0, 0, 0, 0)) := ⟨⟨(tc_1 (i := 33) rfl rfl), (tc_1 (i := 26) rfl rfl), (tc_1 (i := 27) rfl rfl)⟩, trivial, trivial⟩
theorem wd_7_9 : WD 7 (9, (0, 7, 0, 3, 1, 0)) := ⟨⟨by decide, by decide, rfl, rfl, rfl, (tc_1 (i := 34) rfl rfl), uw_7⟩, trivial, trivial⟩
theorem wd_7_15 : WD 7 (15, (0, 7, 1, 3, 1, 0)) := ⟨⟨by decide, by decide, rfl, rfl, rfl, (tc_1 (i := 35) rfl rfl), uw_7⟩, trivial, trivial⟩
theorem wd_7_18 : WD 7 (18, (0, 7, 2, 3, 1, 0)) := ⟨⟨by decide, by decide, rfl, rfl, rfl, (tc_1 (i := 36) rfl rfl), uw_7⟩, trivial, trivial⟩
theorem wd_7_21 : WD 7 (21, (0, 7, 3, 3, 1, 0)) := ⟨⟨by decide, by decide, rfl, rfl, rfl, (tc_1 (i := 37) rfl rfl), uw_7⟩, trivial, trivial⟩
theorem wd_7_24 : WD 7 (24, (0, 7, 4, 3, 1, 0)) := ⟨⟨by decide, by decide, rfl, rfl, rfl, (tc_1 (i := 38) rfl rfl), uw_7⟩, trivial, trivial⟩
theorem wd_7_27 : WD 7 (27, (0, 7, 5, 3, 1, 0)) := ⟨⟨by decide, by decide, rfl, rfl, rfl, (tc_1 (i := 39) rfl rfl), uw_7⟩, trivial, trivial⟩
theorem wd_7_30 : WD 7 (30, (0, 7, 6, 3, 1, 0)) := ⟨⟨by decide, by decide, rfl, rfl, rfl, (tc_1 (i := 40) rfl rfl), uw_7⟩, trivial, trivial⟩
theorem wd_7_33 : WD 7 (33, (0, 7, 7, 3, 1, 0)) := ⟨⟨by decide, by decide, rfl, rfl, rfl, (tc_1 (i := 41) rfl rfl), uw_7⟩, trivial, trivial⟩
theorem wd_7_36 : WD 7 (36, (0, 7, 8, 3, 1, 0)) := ⟨⟨by decide, by decide, rfl, rfl, rfl, (tc_1 (i := 42) rfl rfl), uw_7⟩, trivial, trivial⟩
theorem wd_7_39 : WD 7 (39, (8, 189, 3, 11, 1, 0)) := ⟨trivial, ⟨ck_189, ⟨_, List.mem_of_getElem? (i := 3) rfl⟩, sm_189⟩, trivial⟩
theorem wd_7_43 : WD 7 (43, (4, 0, 0, 0, 0, (-100000))) := ⟨⟨by unfold r32; decide, (tc_3 (i := 65) rfl rfl)⟩, trivial, trivial⟩
theorem wd_7_44 : WD 7 (44, (4, 0, 0, 0, 0, 100000)) := ⟨⟨by unfold r32; decide, (tc_3 (i := 66) rfl rfl)⟩, trivial, trivial⟩
theorem wd_7_45 : WD 7 (45, (0, 7, 10, 0, 0, 0)) := ⟨⟨by decide, by decide, rfl, rfl, rfl, (tc_1 (i := 45) rfl rfl), uw_7⟩, trivial, trivial⟩
theorem wd_7_49 : WD 7 (49, (1, 96, 1, 7, 1, 0)) := ⟨trivial, ⟨ck_96, (tc_3 (i := 229) rfl rfl), im_96, sl_96⟩, trivial⟩
theorem wd_7_53 : WD 7 (53, (1, 97, 1, 7, 1, 0)) := ⟨trivial, ⟨ck_97, (tc_3 (i := 225) rfl rfl), im_97, sl_97⟩, trivial⟩
theorem wd_7_57 : WD 7 (57, (1, 101, 2, 7, 1, 0)) := ⟨trivial, ⟨ck_101, (tc_4 (i := 13) rfl rfl), im_101, sl_101⟩, trivial⟩
theorem wd_7_61 : WD 7 (61, (0, 7, 9, 0, 0, 0)) := ⟨⟨by decide, by decide, rfl, rfl, rfl, (tc_1 (i := 43) rfl rfl), uw_7⟩, trivial, trivial⟩
theorem wd_7_64 : WD 7 (64, (2, 1, 0, 0, 0, 0)) := ⟨⟨(tc_3 (i := 220) rfl rfl), (tc_3 (i := 100) rfl rfl), (tc_1 (i := 14) rfl rfl), (tc_3 (i := 101) rfl rfl)⟩, trivial, trivial⟩
def al_7 : List (Nat × PE) := [(3, (2, 0, 0, 0, 0, 0)), (9, (0, 7, 0, 3, 1, 0)), (15, (0, 7, 1, 3, 1, 0)), (18, (0, 7, 2, 3, 1, 0)), (21, (0, 7, 3, 3, 1, 0)), (24, (0, 7, 4, 3, 1, 0)), (27, (0, 7, 5, 3, 1, 0)), (30, (0, 7, 6, 3, 1, 0)), (33, (0, 7, 7, 3, 1, 0)), (36, (0, 7, 8, 3, 1, 0)), (39, (8, 189, 3, 11, 1, 0)), (43, (4, 0, 0, 0, 0, (-100000))), (44, (4, 0, 0, 0, 0, 100000)), (45, (0, 7, 10, 0, 0, 0)), (49, (1, 96, 1, 7, 1, 0)), (53, (1, 97, 1, 7, 1, 0)), (57, (1, 101, 2, 7, 1, 0)), (61, (0, 7, 9, 0, 0, 0)), (64, (2, 1, 0, 0, 0, 0))]
set_option maxRecDepth 100000 in
theorem pw_7 : ∀ n q, pl_7 n = some q → WD 7 (n, q) := pl_sp (b := 65) (al := al_7) (by decide +kernel) (fun n h => by rw [pl_7, blt_F h]; rfl) (List.forall_mem_cons.mpr ⟨wd_7_3, (List.forall_mem_cons.mpr ⟨wd_7_9, (List.forall_mem_cons.mpr ⟨wd_7_15, (List.forall_mem_cons.mpr ⟨wd_7_18, (List.forall_mem_cons.mpr ⟨wd_7_21, (List.forall_mem_cons.mpr ⟨wd_7_24, (List.forall_mem_cons.mpr ⟨wd_7_27, (List.forall_mem_cons.mpr ⟨wd_7_30, (List.forall_mem_cons.mpr ⟨wd_7_33, (List.forall_mem_cons.mpr ⟨wd_7_36, (List.forall_mem_cons.mpr ⟨wd_7_39, (List.forall_mem_cons.mpr ⟨wd_7_43, (List.forall_mem_cons.mpr ⟨wd_7_44, (List.forall_mem_cons.mpr ⟨wd_7_45, (List.forall_mem_cons.mpr ⟨wd_7_49, (List.forall_mem_cons.mpr ⟨wd_7_53, (List.forall_mem_cons.mpr ⟨wd_7_57, (List.forall_mem_cons.mpr ⟨wd_7_61, (List.forall_mem_cons.mpr ⟨wd_7_64, (fun p hp => by cases hp)⟩)⟩)⟩)⟩)⟩)⟩)⟩)⟩)⟩)⟩)⟩)⟩)⟩)⟩)⟩)⟩)⟩)⟩)⟩)
theorem wd_8_3 : WD 8 (3, (2, 0, 0, 0, 0, 0)) := ⟨⟨(tc_1 (i := 217) rfl rfl), (tc_1 (i := 26) rfl rfl), (tc_1 (i := 27) rfl rfl)⟩, trivial, trivial⟩
theorem wd_8_11 : WD 8 (11, (3, 4, 0, 0, 0, 0)) := ⟨⟨by decide, (tc_1 (i := 218) rfl rfl), (tc_1 (i := 220) rfl rfl), (tc_1 (i := 8) rfl rfl), uw_4⟩, trivial, trivial⟩
theorem wd_8_13 : WD 8 (13, (0, 8, 3, 3, 1, 0)) := ⟨⟨by decide, by decide, rfl, rfl, rfl, (tc_2 (i := 78) rfl rfl), uw_8⟩, trivial, trivial⟩
theorem wd_8_17 : WD 8 (17, (0, 8, 4, 3, 1, 0)) := ⟨⟨by decide, by decide, rfl, rfl, rfl, (tc_2 (i := 79) rfl rfl), uw_8⟩, trivial, trivial⟩
theorem wd_8_21 : WD 8 (21, (0, 8, 5, 3, 1, 0)) := ⟨⟨by decide, by decide, rfl, rfl, rfl, (tc_2 (i := 80) rfl rfl), uw_8⟩, trivial, trivial⟩
theorem wd_8_24 : WD 8 (24, (0, 8, 6, 3, 1, 0)) := ⟨⟨by decide, by decide, rfl, rfl, rfl, (tc_2 (i := 81) rfl rfl), uw_8⟩, trivial, trivial⟩
theorem wd_8_27 : WD 8 (27, (0, 8, 7, 3, 1, 0)) := ⟨⟨by decide, by decide, rfl, rfl, rfl, (tc_2 (i := 82) rfl rfl), uw_8⟩, trivial, trivial⟩
theorem wd_8_30 : WD 8 (30, (0, 8, 0, 3, 1, 0)) := ⟨⟨by decide, by decide, rfl, rfl, rfl, (tc_2 (i := 75) rfl rfl), uw_8⟩, trivial, trivial⟩
theorem wd_8_34 : WD 8 (34, (0, 8, 1, 3, 1, 0)) := ⟨⟨by decide, by decide, rfl, rfl, rfl, (tc_2 (i := 76) rfl rfl), uw_8⟩, trivial, trivial⟩
theorem wd_8_38 : WD 8 (38, (0, 8, 2, 3, 1, 0)) := ⟨⟨by decide, by decide, rfl, rfl, rfl, (tc_2 (i := 77) rfl rfl), uw_8⟩, trivial, trivial⟩
theorem wd_8_42 : WD 8 (42, (10, 46, 0, 4, 0, 0)) := ⟨trivial, ⟨ck_46, ⟨_, List.mem_of_getElem? (i := 2) rfl⟩, im_46, rfl, rfl⟩, trivial⟩
theorem wd_8_43 : WD 8 (43, (0, 8, 8, 0, 0, 0)) := ⟨⟨by decide, by decide, rfl, rfl, rfl, (tc_2 (i := 83) rfl rfl), uw_8⟩, trivial, trivial⟩
theorem wd_8_47 : WD 8 (47, (1, 108, 0, 8, 3, 0)) := ⟨trivial, ⟨ck_108, (tc_5 (i := 50) rfl rfl), im_108, sl_108⟩, trivial⟩
theorem wd_8_51 : WD 8 (51, (0, 4, 15, 0, 0, 0)) := ⟨⟨by decide, by decide, rfl, rfl, rfl, (tc_2 (i := 29) rfl rfl), uw_4⟩, trivial, trivial⟩
theorem wd_8_54 : WD 8 (54, (0, 4, 16, 0, 0, 0)) := ⟨⟨by decide, by decide, rfl, rfl, rfl, (tc_2 (i := 30) rfl rfl), uw_4⟩, trivial, trivial⟩
theorem wd_8_57 : WD 8 (57, (0, 4, 17, 1, 0, 0)) := ⟨⟨by decide, by decide, rfl, rfl, rfl, (tc_2 (i := 31) rfl rfl), uw_4⟩, trivial, trivial⟩
theorem wd_8_61 : WD 8 (61, (0, 4, 18, 1, 0, 0)) := ⟨⟨by decide, by decide, rfl, rfl, rfl, (tc_2 (i := 34) rfl rfl), uw_4⟩, trivial, trivial⟩
theorem wd_8_64 : WD 8 (64, (1, 110, 1, 8, 3, 0)) := ⟨trivial, ⟨ck_110, (tc_3 (i := 91) rfl rfl), im_110, sl_110⟩, trivial⟩
theorem wd_8_68 : WD 8 (68, (1, 114, 3, 8, 1, 0)) := ⟨trivial, ⟨ck_114, (tc_3 (i := 95) rfl rfl), im_114, sl_114⟩, trivial⟩
theorem wd_8_72 : WD 8 (72, (1, 112, 3, 8, 0, 0)) := ⟨trivial, ⟨ck_112, (tc_3 (i := 163) rfl rfl), im_112, sl_112⟩, trivial⟩
theorem wd_8_76 : WD 8 (76, (0, 8, 9, 0, 0, 0)) := ⟨⟨by decide, by decide, rfl, rfl, rfl, (tc_2 (i := 85) rfl rfl), uw_8⟩, trivial, trivial⟩
theorem wd_8_79 : WD 8 (79, (0, 4, 13, 0, 0, 0)) := ⟨⟨by decide, by decide, rfl, rfl, rfl, (tc_2 (i := 23) rfl rfl), uw_4⟩, trivial, trivial⟩
theorem wd_8_82 : WD 8 (82, (0, 4, 12, 0, 0, 0)) := ⟨⟨by decide, by decide, rfl, rfl, rfl, (tc_2 (i := 20) rfl rfl), uw_4⟩, trivial, trivial⟩
theorem wd_8_85 : WD 8 (85, (0, 4, 14, 0, 0, 0)) := ⟨⟨by decide, by decide, rfl, rfl, rfl, (tc_2 (i := 27) rfl rfl), uw_4⟩, trivial, trivial⟩
theorem wd_8_88 : WD 8 (88, (2, 2, 0, 0, 0, 0)) := ⟨⟨(tc_3 (i := 106) rfl rfl), (tc_3 (i := 107) rfl rfl), (tc_1 (i := 14) rfl rfl), (tc_3 (i := 108) rfl rfl)⟩, trivial, trivial⟩
theorem wd_8_94 : WD 8 (94, (1, 16, 3, 1, 1, 0)) := ⟨trivial, ⟨ck_16, (tc_3 (i := 167) rfl rfl), im_16, sl_16⟩, trivial⟩
theorem wd_8_100 : WD 8 (100, (1, 51, 0, 4, 1, 0)) := ⟨trivial, ⟨ck_51, (tc_3 (i := 171) rfl rfl), im_51, sl_51⟩, trivial⟩
theorem wd_8_104 : WD 8 (104, (1, 122, 3, 9, 0, 0)) := ⟨trivial, ⟨ck_122, (tc_3 (i := 179) rfl rfl), im_122, sl_122⟩, trivial⟩
theorem wd_8_110 : WD 8 (110, (1, 113, 1, 8, 1, 0)) := ⟨trivial, ⟨ck_113, (tc_3 (i := 187) rfl rfl), im_113, sl_113⟩, trivial⟩
theorem wd_8_114 : WD 8 (114, (0, 4, 8, 0, 0, 0)) := ⟨⟨by decide, by decide, rfl, rfl, rfl, (tc_2 (i := 10) rfl rfl), uw_4⟩, trivial, trivial⟩
theorem wd_8_117 : WD 8 (117, (0, 4, 1, 3, 1, 0)) := ⟨⟨by decide, by decide, rfl, rfl, rfl, (tc_1 (i := 229) rfl rfl), uw_4⟩, trivial, trivial⟩
theorem wd_8_120 : WD 8 (120, (1, 146, 1, 10, 1, 0)) := ⟨trivial, ⟨ck_146, (tc_3 (i := 191) rfl rfl), im_146, sl_146⟩, trivial⟩
theorem wd_8_126 : WD 8 (126, (2, 1, 0, 0, 0, 0)) := ⟨⟨(tc_3 (i := 99) rfl rfl), (tc_3 (i := 100) rfl rfl), (tc_1 (i := 14) rfl rfl), (tc_3 (i := 101) rfl rfl)⟩, trivial, trivial⟩
theorem wd_8_129 : WD 8 (129, (0, 4, 11, 0, 0, 0)) := ⟨⟨by decide, by decide, rfl, rfl, rfl, (tc_2 (i := 17) rfl rfl), uw_4⟩, trivial, trivial⟩
theorem wd_8_132 : WD 8 (132, (1, 115, 4, 8, 1, 0)) := ⟨trivial, ⟨ck_115, (tc_3 (i := 102) rfl rfl), im_115, sl_115⟩, trivial⟩
theorem wd_8_136 : WD 8 (136, (1, 48, 0, 4, 1, 0)) := ⟨trivial, ⟨ck_48, (tc_3 (i := 159) rfl rfl), im_48, sl_48⟩, trivial⟩
theorem wd_8_140 : WD 8 (140, (0, 4, 7, 0, 0, 0)) := ⟨⟨by decide, by decide, rfl, rfl, rfl, (tc_2 (i := 6) rfl rfl), uw_4⟩, trivial, trivial⟩
theorem wd_8_143 : WD 8 (143, (1, 116, 4, 8, 1, 0)) := ⟨trivial, ⟨ck_116, (tc_3 (i := 109) rfl rfl), im_116, sl_116⟩, trivial⟩
theorem wd_8_147 : WD 8 (147, (1, 54, 2, 4, 1, 0)) := ⟨trivial, ⟨ck_54, (tc_3 (i := 148) rfl rfl), im_54, sl_54⟩, trivial⟩
theorem wd_8_151 : WD 8 (151, (1, 55, 2, 4, 1, 0)) := ⟨trivial, ⟨ck_55, (tc_3 (i := 154) rfl rfl), im_55, sl_55⟩, trivial⟩
theorem wd_8_154 : WD 8 (154, (1, 49, 1, 4, 1, 0)) := ⟨trivial, ⟨ck_49, (tc_3 (i := 113) rfl rfl), im_49, sl_49⟩, trivial⟩
theorem wd_8_158 : WD 8 (158, (4, 0, 0, 0, 0, (-1000000))) := ⟨⟨by unfold r32; decide, (tc_3 (i := 117) rfl rfl)⟩, trivial, trivial⟩
theorem wd_8_159 : WD 8 (159, (0, 4, 2, 3, 1, 0)) := ⟨⟨by decide, by decide, rfl, rfl, rfl, (tc_1 (i := 232) rfl rfl), uw_4⟩, trivial, trivial⟩
theorem wd_8_162 : WD 8 (162, (0, 4, 0, 3, 1, 0)) := ⟨⟨by decide, by decide, rfl, rfl, rfl, (tc_1 (i := 226) rfl rfl), uw_4⟩, trivial, trivial⟩
theorem wd_8_164 : WD 8 (164, (0, 4, 3, 3, 1, 0)) := ⟨⟨by decide, by decide, rfl, rfl, rfl, (tc_1 (i := 235) rfl rfl), uw_4⟩, trivial, trivial⟩
theorem wd_8_167 : WD 8 (167, (1, 144, 6, 10, 1, 0)) := ⟨trivial, ⟨ck_144, (tc_3 (i := 118) rfl rfl), im_144, sl_144⟩, trivial⟩
theorem wd_8_171 : WD 8 (171, (1, 145, 3, 10, 1, 0)) := ⟨trivial, ⟨ck_145, (tc_3 (i := 136) rfl rfl), im_145, sl_145⟩, trivial⟩
theorem wd_8_174 : WD 8 (174, (1, 142, 4, 10, 1, 0)) := ⟨trivial, ⟨ck_142, (tc_3 (i := 140) rfl rfl), im_142, sl_142⟩, trivial⟩
theorem wd_8_178 : WD 8 (178, (1, 135, 2, 10, 1, 0)) := ⟨trivial, ⟨ck_135, (tc_3 (i := 144) rfl rfl), im_135, sl_135⟩, trivial⟩
theorem wd_8_181 : WD 8 (181, (1, 118, 2, 8, 1, 0)) := ⟨trivial, ⟨ck_118, (tc_5 (i := 69) rfl rfl), im_118, sl_118⟩, trivial⟩
def al_8 : List (Nat × PE) := [(3, (2, 0, 0, 0, 0, 0)), (11, (3, 4, 0, 0, 0, 0)), (13, (0, 8, 3, 3, 1, 0)), (17, (0, 8, 4, 3, 1, 0)), (21, (0, 8, 5, 3, 1, 0)), (24, (0, 8, 6, 3, 1, 0)), (27, (0, 8, 7, 3, 1, 0)), (30, (0, 8, 0, 3, 1, 0)), (34, (0, 8, 1, 3, 1, 0)), (38, (0, 8, 2, 3, 1, 0)), (42, (10, 46, 0, 4, 0, 0)), (43, (0, 8, 8, 0, 0, 0)), (47, (1, 108, 0, 8, 3, 0)), (51, (0, 4, 15, 0, 0, 0)), (54, (0, 4, 16, 0, 0, 0)), (57, (0, 4, 17, 1, 0, 0)), (61, (0, 4, 18, 1, 0, 0)), (64, (1, 110, 1, 8, 3, 0)), (68, (1, 114, 3, 8, 1, 0)), (72, (1, 112, 3, 8, 0, 0)), (76, (0, 8, 9, 0, 0, 0)), (79, (0, 4, 13, 0, 0, 0)), (82, (0, 4, 12, 0, 0, 0)), (85, (0, 4, 14, 0, 0, 0)), (88, (2, 2, 0, 0, 0, 0)), (94, (1, 16, 3, 1, 1, 0)), (100, (1, 51, 0, 4, 1, 0)), (104, (1, 122, 3, 9, 0, 0)), (110, (1, 113, 1, 8, 1, 0)), (114, (0, 4, 8, 0, 0, 0)), (117, (0, 4, 1, 3, 1, 0)), (120, (1, 146, 1, 10, 1, 0)), (126, (2, 1, 0, 0, 0, 0)), (129, (0, 4, 11, 0, 0, 0)), (132, (1, 115, 4, 8, 1, 0)), (136, (1, 48, 0, 4, 1, 0)), (140, (0, 4, 7, 0, 0, 0)), (143, (1, 116, 4, 8, 1, 0)), (147, (1, 54, 2, 4, 1, 0)), (151, (1, 55, 2, 4, 1, 0)), (154, (1, 49, 1, 4, 1, 0)), (158, (4, 0, 0, 0, 0, (-1000000))), (159, (0, 4, 2, 3, 1, 0)), (162, (0, 4, 0, 3, 1, 0)), (164, (0, 4, 3, 3, 1, 0)), (167, (1, 144, 6, 10, 1, 0)), (171, (1, 145, 3, 10, 1, 0)), (174, (1, 142, 4, 10, 1, 0)), (178, (1, 135, 2, 10, 1, 0)), (181, (1, 118, 2, 8, 1, 0))]
set_option maxRecDepth 100000 in
theorem pw_8 : ∀ n q, pl_8 n = some q → WD 8 (n, q) := pl_sp (b := 182) (al := al_8) (by decide +kernel) (fun n h => by rw [pl_8, blt_F h]; rfl) (List.forall_mem_cons.mpr ⟨wd_8_3, (List.forall_mem_cons.mpr ⟨wd_8_11, (List.forall_mem_cons.mpr ⟨wd_8_13, (List.forall_mem_cons.mpr ⟨wd_8_17, (List.forall_mem_cons.mpr ⟨wd_8_21, (List.forall_mem_cons.mpr ⟨wd_8_24, (List.forall_mem_cons.mpr ⟨wd_8_27, (List.forall_mem_cons.mpr ⟨wd_8_30, (List.forall_mem_cons.mpr ⟨wd_8_34, (List.forall_mem_cons.mpr ⟨wd_8_38, (List.forall_mem_cons.mpr ⟨wd_8_42, (List.forall_mem_cons.mpr ⟨wd_8_43, (List.forall_mem_cons.mpr ⟨wd_8_47, (List.forall_mem_cons.mpr ⟨wd_8_51, (List.forall_mem_cons.mpr ⟨wd_8_54, (List.forall_mem_cons.mpr ⟨wd_8_57, (List.forall_mem_cons.mpr ⟨wd_8_61, (List.forall_mem_cons.mpr ⟨wd_8_64, (List.forall_mem_cons.mpr ⟨wd_8_68, (List.forall_mem_cons.mpr ⟨wd_8_72, (List.forall_mem_cons.mpr ⟨wd_8_76, (List.forall_mem_cons.mpr ⟨wd_8_79, (List.forall_mem_cons.mpr ⟨wd_8_82, (List.forall_mem_cons.mpr ⟨wd_8_85, (List.forall_mem_cons.mpr ⟨wd_8_88, (List.forall_mem_cons.mpr ⟨wd_8_94, (List.forall_mem_cons.mpr ⟨wd_8_100, (List.forall_mem_cons.mpr ⟨wd_8_104, (List.forall_mem_cons.mpr ⟨wd_8_110, (List.forall_mem_cons.mpr ⟨wd_8_114, (List.forall_mem_cons.mpr ⟨wd_8_117, (List.forall_mem_cons.mpr ⟨wd_8_120, (List.forall_mem_cons.mpr ⟨wd_8_126, (List.forall_mem_cons.mpr ⟨wd_8_129, (List.forall_mem_cons.mpr ⟨wd_8_132, (List.forall_mem_cons.mpr ⟨wd_8_136, (List.forall_mem_cons.mpr ⟨wd_8_140, (List.forall_mem_cons.mpr ⟨wd_8_143, (List.forall_mem_cons.mpr ⟨wd_8_147, (List.forall_mem_cons.mpr ⟨wd_8_151, (List.forall_mem_cons.mpr ⟨wd_8_154, (List.forall_mem_cons.mpr ⟨wd_8_158, (List.forall_mem_cons.mpr ⟨wd_8_159, (List.forall_mem_cons.mpr ⟨wd_8_162, (List.forall_mem_cons.mpr ⟨wd_8_164, (List.forall_mem_cons.mpr ⟨wd_8_167, (List.forall_mem_cons.mpr ⟨wd_8_171, (List.forall_mem_cons.mpr ⟨wd_8_174, (List.forall_mem_cons.mpr ⟨wd_8_178, (List.forall_mem_cons.mpr ⟨wd_8_181, (fun p hp => by cases hp)⟩)⟩)⟩)⟩)⟩)⟩)⟩)⟩)⟩)⟩)⟩)⟩)⟩)⟩)⟩)⟩)⟩)⟩)⟩)⟩)⟩)⟩)⟩)⟩)⟩)⟩)⟩)⟩)⟩)⟩)⟩)⟩)⟩)⟩)⟩)⟩)⟩)⟩)⟩)⟩)⟩)⟩)⟩)⟩)⟩)⟩)⟩)⟩)⟩)⟩)
theorem wd_9_3 : WD 9 (3, (2, 0, 0, 0, 0, 0)) := ⟨⟨(tc_1 (i := 172) rfl rfl), (tc_1 (i := 26) rfl rfl), (tc_1 (i := 27) rfl rfl)⟩, trivial, trivial⟩
theorem wd_9_9 : WD 9 (9, (0, 9, 0, 3, 1, 0)) := ⟨⟨by decide, by decide, rfl, rfl, rfl, (tc_1 (i := 173) rfl rfl), uw_9⟩, trivial, trivial⟩
theorem wd_9_15 : WD 9 (15, (0, 9, 1, 3, 1, 0)) := ⟨⟨by decide, by decide, rfl, rfl, rfl, (tc_1 (i := 174) rfl rfl), uw_9⟩, trivial, trivial⟩
theorem wd_9_18 : WD 9 (18, (0, 9, 2, 3, 1, 0)) := ⟨⟨by decide, by decide, rfl, rfl, rfl, (tc_1 (i := 175) rfl rfl), uw_9⟩, trivial, trivial⟩
theorem wd_9_21 : WD 9 (21, (8, 189, 3, 11, 1, 0)) := ⟨trivial, ⟨ck_189, ⟨_, List.mem_of_getElem? (i := 6) rfl⟩, sm_189⟩, trivial⟩
theorem wd_9_25 : WD 9 (25, (7, 121, 2, 9, 1, 0)) := ⟨trivial, ⟨ck_121, rfl, (tc_3 (i := 183) rfl rfl), sm_121⟩, trivial⟩
theorem wd_9_29 : WD 9 (29, (0, 9, 3, 0, 0, 0)) := ⟨⟨by decide, by decide, rfl, rfl, rfl, (tc_1 (i := 176) rfl rfl), uw_9⟩, trivial, trivial⟩
theorem wd_9_33 : WD 9 (33, (4, 0, 0, 0, 0, (-1000000))) := ⟨⟨by unfold r32; decide, (tc_5 (i := 108) rfl rfl)⟩, trivial, trivial⟩
def al_9 : List (Nat × PE) := [(3, (2, 0, 0, 0, 0, 0)), (9, (0, 9, 0, 3, 1, 0)), (15, (0, 9, 1, 3, 1, 0)), (18, (0, 9, 2, 3, 1, 0)), (21, (8, 189, 3, 11, 1, 0)), (25, (7, 121, 2, 9, 1, 0)), (29, (0, 9, 3, 0, 0, 0)), (33, (4, 0, 0, 0, 0, (-1000000)))]
set_option maxRecDepth 100000 in
theorem pw_9 : ∀ n q, pl_9 n = some q → WD 9 (n, q) := pl_sp (b := 34) (al := al_9) (by decide +kernel) (fun n h => by rw [pl_9, blt_F h]; rfl) (List.forall_mem_cons.mpr ⟨wd_9_3, (List.forall_mem_cons.mpr ⟨wd_9_9, (List.forall_mem_cons.mpr ⟨wd_9_15, (List.forall_mem_cons.mpr ⟨wd_9_18, (List.forall_mem_cons.mpr ⟨wd_9_21, (List.forall_mem_cons.mpr ⟨wd_9_25, (List.forall_mem_cons.mpr ⟨wd_9_29, (List.forall_mem_cons.mpr ⟨wd_9_33, (fun p hp => by cases hp)⟩)⟩)⟩)⟩)⟩)⟩)⟩)⟩)
theorem wd_10_5 : WD 10 (5, (2, 0, 0, 0, 0, 0)) := ⟨⟨(tc_1 (i := 76) rfl rfl), (tc_1 (i := 26) rfl rfl), (tc_1 (i := 27) rfl rfl)⟩, trivial, trivial⟩
theorem wd_10_11 : WD 10 (11, (0, 10, 1, 3, 1, 0)) := ⟨⟨by decide, by decide, rfl, rfl, rfl, (tc_1 (i := 78) rfl rfl), uw_10⟩, trivial, trivial⟩
theorem wd_10_15 : WD 10 (15, (0, 10, 2, 3, 1, 0)) := ⟨⟨by decide, by decide, rfl, rfl, rfl, (tc_1 (i := 79) rfl rfl), uw_10⟩, trivial, trivial⟩
theorem wd_10_18 : WD 10 (18, (0, 10, 3, 3, 1, 0)) := ⟨⟨by decide, by decide, rfl, rfl, rfl, (tc_1 (i := 80) rfl rfl), uw_10⟩, trivial, trivial⟩
theorem wd_10_21 : WD 10 (21, (0, 10, 4, 3, 1, 0)) := ⟨⟨by decide, by decide, rfl, rfl, rfl, (tc_1 (i := 81) rfl rfl), uw_10⟩, trivial, trivial⟩
theorem wd_10_24 : WD 10 (24, (0, 10, 5, 3, 1, 0)) := ⟨⟨by decide, by decide, rfl, rfl, rfl, (tc_1 (i := 82) rfl rfl), uw_10⟩, trivial, trivial⟩
theorem wd_10_27 : WD 10 (27, (0, 10, 6, 3, 1, 0)) := ⟨⟨by decide, by decide, rfl, rfl, rfl, (tc_1 (i := 83) rfl rfl), uw_10⟩, trivial, trivial⟩
theorem wd_10_30 : WD 10 (30, (0, 10, 7, 3, 1, 0)) := ⟨⟨by decide, by decide, rfl, rfl, rfl, (tc_1 (i := 84) rfl rfl), uw_10⟩, trivial, trivial⟩
theorem wd_10_33 : WD 10 (33, (0, 10, 8, 3, 1, 0)) := ⟨⟨by decide, by decide, rfl, rfl, rfl, (tc_1 (i := 85) rfl rfl), uw_10⟩, trivial, trivial⟩
theorem wd_10_37 : WD 10 (37, (0, 10, 9, 3, 1, 0)) := ⟨⟨by decide, by decide, rfl, rfl, rfl, (tc_1 (i := 86) rfl rfl), uw_10⟩, trivial, trivial⟩
theorem wd_10_40 : WD 10 (40, (0, 10, 10, 3, 1, 0)) := ⟨⟨by decide, by decide, rfl, rfl, rfl, (tc_1 (i := 87) rfl rfl), uw_10⟩, trivial, trivial⟩
theorem wd_10_43 : WD 10 (43, (0, 10, 11, 3, 1, 0)) := ⟨⟨by decide, by decide, rfl, rfl, rfl, (tc_1 (i := 88) rfl rfl), uw_10⟩, trivial, trivial⟩
theorem wd_10_46 : WD 10 (46, (0, 10, 12, 3, 1, 0)) := ⟨⟨by decide, by decide, rfl, rfl, rfl, (tc_1 (i := 89) rfl rfl), uw_10⟩, trivial, trivial⟩
theorem wd_10_49 : WD 10 (49, (0, 10, 13, 3, 1, 0)) := ⟨⟨by decide, by decide, rfl, rfl, rfl, (tc_1 (i := 90) rfl rfl), uw_10⟩, trivial, trivial⟩
theorem wd_10_52 : WD 10 (52, (0, 10, 14, 3, 1, 0)) := ⟨⟨by decide, by decide, rfl, rfl, rfl, (tc_1 (i := 91) rfl rfl), uw_10⟩, trivial, trivial⟩
theorem wd_10_55 : WD 10 (55, (0, 10, 15, 3, 1, 0)) := ⟨⟨by decide, by decide, rfl, rfl, rfl, (tc_1 (i := 92) rfl rfl), uw_10⟩, trivial, trivial⟩
theorem wd_10_59 : WD 10 (59, (0, 10, 0, 3, 1, 0)) := ⟨⟨by decide, by decide, rfl, rfl, rfl, (tc_1 (i := 77) rfl rfl), uw_10⟩, trivial, trivial⟩
theorem wd_10_63 : WD 10 (63, (0, 10, 16, 0, 0, 0)) := ⟨⟨by decide, by decide, rfl, rfl, rfl, (tc_1 (i := 93) rfl rfl), uw_10⟩, trivial, trivial⟩
theorem wd_10_67 : WD 10 (67, (1, 96, 1, 7, 1, 0)) := ⟨trivial, ⟨ck_96, (tc_3 (i := 123) rfl rfl), im_96, sl_96⟩, trivial⟩
theorem wd_10_73 : WD 10 (73, (8, 189, 3, 11, 1, 0)) := ⟨trivial, ⟨ck_189, ⟨_, List.mem_of_getElem? (i := 4) rfl⟩, sm_189⟩, trivial⟩
theorem wd_10_77 : WD 10 (77, (8, 190, 1, 11, 1, 0)) := ⟨trivial, ⟨ck_190, ⟨_, List.mem_of_getElem? (i := 7) rfl⟩, sm_190⟩, trivial⟩
theorem wd_10_80 : WD 10 (80, (7, 129, 1, 10, 1, 0)) := ⟨trivial, ⟨ck_129, rfl, (tc_3 (i := 207) rfl rfl), sm_129⟩, trivial⟩
theorem wd_10_83 : WD 10 (83, (1, 130, 4, 10, 0, 0)) := ⟨trivial, ⟨ck_130, (tc_3 (i := 212) rfl rfl), im_130, sl_130⟩, trivial⟩
theorem wd_10_87 : WD 10 (87, (1, 131, 3, 10, 0, 0)) := ⟨trivial, ⟨ck_131, (tc_3 (i := 232) rfl rfl), im_131, sl_131⟩, trivial⟩
theorem wd_10_91 : WD 10 (91, (1, 132, 1, 10, 1, 0)) := ⟨trivial, ⟨ck_132, (tc_3 (i := 236) rfl rfl), im_132, sl_132⟩, trivial⟩
theorem wd_10_95 : WD 10 (95, (4, 0, 0, 0, 0, (-1000000))) := ⟨⟨by unfold r32; decide, (tc_3 (i := 122) rfl rfl)⟩, trivial, trivial⟩
theorem wd_10_96 : WD 10 (96, (4, 0, 0, 0, 0, (-100000))) := ⟨⟨by unfold r32; decide, (tc_3 (i := 210) rfl rfl)⟩, trivial, trivial⟩
theorem wd_10_97 : WD 10 (97, (4, 0, 0, 0, 0, 100000)) := ⟨⟨by unfold r32; decide, (tc_3 (i := 211) rfl rfl)⟩, trivial, trivial⟩
theorem wd_10_98 : WD 10 (98, (1, 106, 2, 7, 1, 0)) := ⟨trivial, ⟨ck_106, (tc_3 (i := 216) rfl rfl), im_106, sl_106⟩, trivial⟩
theorem wd_10_102 : WD 10 (102, (1, 99, 1, 7, 1, 0)) := ⟨trivial, ⟨ck_99, (tc_3 (i := 221) rfl rfl), im_99, sl_99⟩, trivial⟩
theorem wd_10_105 : WD 10 (105, (2, 1, 0, 0, 0, 0)) := ⟨⟨(tc_3 (i := 230) rfl rfl), (tc_3 (i := 100) rfl rfl), (tc_1 (i := 14) rfl rfl), (tc_3 (i := 101) rfl rfl)⟩, trivial, trivial⟩
theorem wd_10_110 : WD 10 (110, (2, 2, 0, 0, 0, 0)) := ⟨⟨(tc_3 (i := 231) rfl rfl), (tc_3 (i := 107) rfl rfl), (tc_1 (i := 14) rfl rfl), (tc_3 (i := 108) rfl rfl)⟩, trivial, trivial⟩
theorem wd_10_113 : WD 10 (113, (1, 127, 1, 10, 1, 0)) := ⟨trivial, ⟨ck_127, (tc_3 (i := 128) rfl rfl), im_127, sl_127⟩, trivial⟩
theorem wd_10_114 : WD 10 (114, (1, 133, 2, 10, 1, 0)) := ⟨trivial, ⟨ck_133, (tc_4 (i := 0) rfl rfl), im_133, sl_133⟩, trivial⟩
theorem wd_10_118 : WD 10 (118, (1, 135, 2, 10, 1, 0)) := ⟨trivial, ⟨ck_135, (tc_4 (i := 4) rfl rfl), im_135, sl_135⟩, trivial⟩
theorem wd_10_121 : WD 10 (121, (1, 134, 2, 10, 1, 0)) := ⟨trivial, ⟨ck_134, (tc_3 (i := 132) rfl rfl), im_134, sl_134⟩, trivial⟩
theorem wd_10_124 : WD 10 (124, (1, 143, 4, 10, 1, 0)) := ⟨trivial, ⟨ck_143, (tc_4 (i := 5) rfl rfl), im_143, sl_143⟩, trivial⟩
theorem wd_10_128 : WD 10 (128, (1, 137, 1, 10, 1, 0)) := ⟨trivial, ⟨ck_137, (tc_4 (i := 62) rfl rfl), im_137, sl_137⟩, trivial⟩
theorem wd_10_131 : WD 10 (131, (1, 104, 2, 7, 1, 0)) := ⟨trivial, ⟨ck_104, (tc_4 (i := 9) rfl rfl), im_104, sl_104⟩, trivial⟩
theorem wd_10_134 : WD 10 (134, (1, 103, 2, 7, 1, 0)) := ⟨trivial, ⟨ck_103, (tc_4 (i := 17) rfl rfl), im_103, sl_103⟩, trivial⟩
theorem wd_10_137 : WD 10 (137, (1, 102, 2, 7, 1, 0)) := ⟨trivial, ⟨ck_102, (tc_4 (i := 21) rfl rfl), im_102, sl_102⟩, trivial⟩
def al_10 : List (Nat × PE) := [(5, (2, 0, 0, 0, 0, 0)), (11, (0, 10, 1, 3, 1, 0)), (15, (0, 10, 2, 3, 1, 0)), (18, (0, 10, 3, 3, 1, 0)), (21, (0, 10, 4, 3, 1, 0)), (24, (0, 10, 5, 3, 1, 0)), (27, (0, 10, 6, 3, 1, 0)), (30, (0, 10, 7, 3, 1, 0)), (33, (0, 10, 8, 3, 1, 0)), (37, (0, 10, 9, 3, 1, 0)), (40, (0, 10, 10, 3, 1, 0)), (43, (0, 10, 11, 3, 1, 0)), (46, (0, 10, 12, 3, 1, 0)), (49, (0, 10, 13, 3, 1, 0)), (52, (0, 10, 14, 3, 1, 0)), (55, (0, 10, 15, 3, 1, 0)), (59, (0, 10, 0, 3, 1, 0)), (63, (0, 10, 16, 0, 0, 0)), (67, (1, 96, 1, 7, 1, 0)), (73, (8, 189, 3, 11, 1, 0)), (77, (8, 190, 1, 11, 1, 0)), (80, (7, 129, 1, 10, 1, 0)), (83, (1, 130, 4, 10, 0, 0)), (87, (1, 131, 3, 10, 0, 0)), (91, (1, 132, 1, 10, 1, 0)), (95, (4, 0, 0, 0, 0, (-1000000))), (96, (4, 0, 0, 0, 0, (-100000))), (97, (4, 0, 0, 0, 0, 100000)), (98, (1, 106, 2, 7, 1, 0)), (102, (1, 99, 1, 7, 1, 0)), (105, (2, 1, 0, 0, 0, 0)), (110, (2, 2, 0, 0, 0, 0)), (113, (1, 127, 1, 10, 1, 0)), (114, (1, 133, 2, 10, 1, 0)), (118, (1, 135, 2, 10, 1, 0)), (121, (1, 134, 2, 10, 1, 0)), (124, (1, 143, 4, 10, 1, 0)), (128, (1, 137, 1, 10, 1, 0)), (131, (1, 104, 2, 7, 1, 0)), (134, (1, 103, 2, 7, 1, 0)), (137, (1, 102, 2, 7, 1, 0))]
set_option maxRecDepth 100000 in
theorem pw_10 : ∀ n q, pl_10 n = some q → WD 10 (n, q) := pl_sp (b := 138) (al := al_10) (by decide +kernel) (fun n h => by rw [pl_10, blt_F h]; rfl) (List.forall_mem_cons.mpr ⟨wd_10_5, (List.forall_mem_cons.mpr ⟨wd_10_11, (List.forall_mem_cons.mpr ⟨wd_10_15, (List.forall_mem_cons.mpr ⟨wd_10_18, (List.forall_mem_cons.mpr ⟨wd_10_21, (List.forall_mem_cons.mpr ⟨wd_10_24, (List.forall_mem_cons.mpr ⟨wd_10_27, (List.forall_mem_cons.mpr ⟨wd_10_30, (List.forall_mem_cons.mpr ⟨wd_10_33, (List.forall_mem_cons.mpr ⟨wd_10_37, (List.forall_mem_cons.mpr ⟨wd_10_40, (List.forall_mem_cons.mpr ⟨wd_10_43, (List.forall_mem_cons.mpr ⟨wd_10_46, (List.forall_mem_cons.mpr ⟨wd_10_49, (List.forall_mem_cons.mpr ⟨wd_10_52, (List.forall_mem_cons.mpr ⟨wd_10_55, (List.forall_mem_cons.mpr ⟨wd_10_59, (List.forall_mem_cons.mpr ⟨wd_10_63, (List.forall_mem_cons.mpr ⟨wd_10_67, (List.forall_mem_cons.mpr ⟨wd_10_73, (List.forall_mem_cons.mpr ⟨wd_10_77, (List.forall_mem_cons.mpr ⟨wd_10_80, (List.forall_mem_cons.mpr ⟨wd_10_83, (List.forall_mem_cons.mpr ⟨wd_10_87, (List.forall_mem_cons.mpr ⟨wd_10_91, (List.forall_mem_cons.mpr ⟨wd_10_95, (List.forall_mem_cons.mpr ⟨wd_10_96, (List.forall_mem_cons.mpr ⟨wd_10_97, (List.forall_mem_cons.mpr ⟨wd_10_98, (List.forall_mem_cons.mpr ⟨wd_10_102, (List.forall_mem_cons.mpr ⟨wd_10_105, (List.forall_mem_cons.mpr ⟨wd_10_110, (List.forall_mem_cons.mpr ⟨wd_10_113, (List.forall_mem_cons.mpr ⟨wd_10_114, (List.forall_mem_cons.mpr ⟨wd_10_118, (List.forall_mem_cons.mpr ⟨wd_10_121, (List.forall_mem_cons.mpr ⟨wd_10_124, (List.forall_mem_cons.mpr ⟨wd_10_128, (List.forall_mem_cons.mpr ⟨wd_10_131, (List.forall_mem_cons.mpr ⟨wd_10_134, (List.forall_mem_cons.mpr ⟨wd_10_137, (fun p hp => by cases hp)⟩)⟩)⟩)⟩)⟩)⟩)⟩)⟩)⟩)⟩)⟩)⟩)⟩)⟩)⟩)⟩)⟩)⟩)⟩)⟩)⟩)⟩)⟩)⟩)⟩)⟩)⟩)⟩)⟩)⟩)⟩)⟩)⟩)⟩)⟩)⟩)⟩)⟩)⟩)⟩)⟩)
theorem wd_11_3 : WD 11 (3, (2, 0, 0, 0, 0, 0)) := ⟨⟨(tc_1 (i := 25) rfl rfl), (tc_1 (i := 26) rfl rfl), (tc_1 (i := 27) rfl rfl)⟩, trivial, trivial⟩
theorem wd_11_9 : WD 11 (9, (3, 7, 0, 0, 0, 0)) := ⟨⟨by decide, (tc_1 (i := 28) rfl rfl), (tc_1 (i := 29) rfl rfl), (tc_1 (i := 2) rfl rfl), uw_7⟩, trivial, trivial⟩
theorem wd_11_11 : WD 11 (11, (10, 92, 0, 7, 0, 0)) := ⟨trivial, ⟨ck_92, ⟨_, List.mem_of_getElem? (i := 0) rfl⟩, im_92, rfl, rfl⟩, trivial⟩
theorem wd_11_12 : WD 11 (12, (0, 11, 0, 3, 1, 0)) := ⟨⟨by decide, by decide, rfl, rfl, rfl, (tc_3 (i := 23) rfl rfl), uw_11⟩, trivial, trivial⟩
theorem wd_11_16 : WD 11 (16, (3, 10, 0, 0, 0, 0)) := ⟨⟨by decide, (tc_1 (i := 71) rfl rfl), (tc_1 (i := 72) rfl rfl), (tc_1 (i := 3) rfl rfl), uw_10⟩, trivial, trivial⟩
theorem wd_11_18 : WD 11 (18, (9, 126, 1, 10, 0, 0)) := ⟨trivial, ⟨ck_126, (tc_1 (i := 73) rfl rfl), im_126, rfl, rfl⟩, trivial⟩
theorem wd_11_21 : WD 11 (21, (0, 11, 1, 3, 1, 0)) := ⟨⟨by decide, by decide, rfl, rfl, rfl, (tc_3 (i := 24) rfl rfl), uw_11⟩, trivial, trivial⟩
theorem wd_11_25 : WD 11 (25, (3, 5, 0, 0, 0, 0)) := ⟨⟨by decide, (tc_1 (i := 132) rfl rfl), (tc_1 (i := 133) rfl rfl), (tc_1 (i := 4) rfl rfl), uw_5⟩, trivial, trivial⟩
theorem wd_11_27 : WD 11 (27, (9, 56, 1, 5, 0, 0)) := ⟨trivial, ⟨ck_56, (tc_1 (i := 134) rfl rfl), im_56, rfl, rfl⟩, trivial⟩
theorem wd_11_28 : WD 11 (28, (0, 11, 2, 3, 1, 0)) := ⟨⟨by decide, by decide, rfl, rfl, rfl, (tc_3 (i := 25) rfl rfl), uw_11⟩, trivial, trivial⟩
theorem wd_11_32 : WD 11 (32, (3, 9, 0, 0, 0, 0)) := ⟨⟨by decide, (tc_1 (i := 167) rfl rfl), (tc_1 (i := 168) rfl rfl), (tc_1 (i := 5) rfl rfl), uw_9⟩, trivial, trivial⟩
theorem wd_11_34 : WD 11 (34, (9, 119, 0, 9, 0, 0)) := ⟨trivial, ⟨ck_119, (tc_1 (i := 169) rfl rfl), im_119, rfl, rfl⟩, trivial⟩
theorem wd_11_35 : WD 11 (35, (0, 11, 3, 3, 1, 0)) := ⟨⟨by decide, by decide, rfl, rfl, rfl, (tc_3 (i := 26) rfl rfl), uw_11⟩, trivial, trivial⟩
theorem wd_11_39 : WD 11 (39, (3, 1, 0, 0, 0, 0)) := ⟨⟨by decide, (tc_1 (i := 186) rfl rfl), (tc_1 (i := 187) rfl rfl), (tc_1 (i := 6) rfl rfl), uw_1⟩, trivial, trivial⟩
theorem wd_11_41 : WD 11 (41, (10, 15, 0, 1, 0, 0)) := ⟨trivial, ⟨ck_15, ⟨_, List.mem_of_getElem? (i := 1) rfl⟩, im_15, rfl, rfl⟩, trivial⟩
theorem wd_11_42 : WD 11 (42, (0, 11, 4, 3, 1, 0)) := ⟨⟨by decide, by decide, rfl, rfl, rfl, (tc_3 (i := 27) rfl rfl), uw_11⟩, trivial, trivial⟩
theorem wd_11_46 : WD 11 (46, (3, 8, 0, 0, 0, 0)) := ⟨⟨by decide, (tc_1 (i := 212) rfl rfl), (tc_1 (i := 213) rfl rfl), (tc_1 (i := 7) rfl rfl), uw_8⟩, trivial, trivial⟩
theorem wd_11_48 : WD 11 (48, (9, 107, 3, 8, 0, 0)) := ⟨trivial, ⟨ck_107, (tc_1 (i := 214) rfl rfl), im_107, rfl, rfl⟩, trivial⟩
theorem wd_11_51 : WD 11 (51, (0, 11, 5, 3, 1, 0)) := ⟨⟨by decide, by decide, rfl, rfl, rfl, (tc_3 (i := 28) rfl rfl), uw_11⟩, trivial, trivial⟩
theorem wd_11_55 : WD 11 (55, (3, 0, 0, 0, 0, 0)) := ⟨⟨by decide, (tc_2 (i := 108) rfl rfl), (tc_2 (i := 109) rfl rfl), (tc_1 (i := 9) rfl rfl), uw_0⟩, trivial, trivial⟩
theorem wd_11_57 : WD 11 (57, (9, 0, 2, 0, 0, 0)) := ⟨trivial, ⟨ck_0, (tc_2 (i := 110) rfl rfl), im_0, rfl, rfl⟩, trivial⟩
theorem wd_11_60 : WD 11 (60, (0, 11, 6, 3, 1, 0)) := ⟨⟨by decide, by decide, rfl, rfl, rfl, (tc_3 (i := 29) rfl rfl), uw_11⟩, trivial, trivial⟩
theorem wd_11_64 : WD 11 (64, (3, 3, 0, 0, 0, 0)) := ⟨⟨by decide, (tc_2 (i := 182) rfl rfl), (tc_2 (i := 183) rfl rfl), (tc_1 (i := 11) rfl rfl), uw_3⟩, trivial, trivial⟩
theorem wd_11_66 : WD 11 (66, (9, 34, 2, 3, 0, 0)) := ⟨trivial, ⟨ck_34, (tc_2 (i := 184) rfl rfl), im_34, rfl, rfl⟩, trivial⟩
theorem wd_11_69 : WD 11 (69, (0, 11, 7, 3, 1, 0)) := ⟨⟨by decide, by decide, rfl, rfl, rfl, (tc_3 (i := 30) rfl rfl), uw_11⟩, trivial, trivial⟩
theorem wd_11_73 : WD 11 (73, (3, 2, 0, 0, 0, 0)) := ⟨⟨by decide, (tc_2 (i := 226) rfl rfl), (tc_2 (i := 227) rfl rfl), (tc_1 (i := 12) rfl rfl), uw_2⟩, trivial, trivial⟩
theorem wd_11_75 : WD 11 (75, (9, 22, 0, 2, 0, 0)) := ⟨trivial, ⟨ck_22, (tc_2 (i := 228) rfl rfl), im_22, rfl, rfl⟩, trivial⟩
theorem wd_11_76 : WD 11 (76, (0, 11, 8, 3, 1, 0)) := ⟨⟨by decide, by decide, rfl, rfl, rfl, (tc_3 (i := 31) rfl rfl), uw_11⟩, trivial, trivial⟩
theorem wd_11_80 : WD 11 (80, (0, 11, 9, 0, 0, 0)) := ⟨⟨by decide, by decide, rfl, rfl, rfl, (tc_3 (i := 32) rfl rfl), uw_11⟩, trivial, trivial⟩
theorem wd_11_84 : WD 11 (84, (1, 93, 5, 7, 1, 0)) := ⟨trivial, ⟨ck_93, (tc_3 (i := 58) rfl rfl), im_93, sl_93⟩, trivial⟩
theorem wd_11_88 : WD 11 (88, (1, 94, 3, 7, 1, 0)) := ⟨trivial, ⟨ck_94, (tc_3 (i := 71) rfl rfl), im_94, sl_94⟩, trivial⟩
theorem wd_11_92 : WD 11 (92, (1, 95, 2, 7, 1, 0)) := ⟨trivial, ⟨ck_95, (tc_3 (i := 79) rfl rfl), im_95, sl_95⟩, trivial⟩
theorem wd_11_96 : WD 11 (96, (1, 111, 1, 8, 1, 0)) := ⟨trivial, ⟨ck_111, (tc_3 (i := 87) rfl rfl), im_111, sl_111⟩, trivial⟩
theorem wd_11_100 : WD 11 (100, (1, 128, 7, 10, 1, 0)) := ⟨trivial, ⟨ck_128, (tc_3 (i := 199) rfl rfl), im_128, sl_128⟩, trivial⟩
theorem wd_11_104 : WD 11 (104, (1, 19, 2, 1, 1, 0)) := ⟨trivial, ⟨ck_19, (tc_4 (i := 25) rfl rfl), im_19, sl_19⟩, trivial⟩
theorem wd_11_107 : WD 11 (107, (1, 136, 2, 10, 1, 0)) := ⟨trivial, ⟨ck_136, (tc_4 (i := 41) rfl rfl), im_136, sl_136⟩, trivial⟩
theorem wd_11_110 : WD 11 (110, (1, 96, 1, 7, 1, 0)) := ⟨trivial, ⟨ck_96, (tc_4 (i := 49) rfl rfl), im_96, sl_96⟩, trivial⟩
theorem wd_11_114 : WD 11 (114, (7, 189, 3, 11, 1, 0)) := ⟨trivial, ⟨ck_189, rfl, (tc_3 (i := 206) rfl rfl), sm_189⟩, trivial⟩
theorem wd_11_117 : WD 11 (117, (1, 105, 2, 7, 0, 0)) := ⟨trivial, ⟨ck_105, (tc_4 (i := 50) rfl rfl), im_105, sl_105⟩, trivial⟩
theorem wd_11_121 : WD 11 (121, (1, 139, 2, 10, 1, 0)) := ⟨trivial, ⟨ck_139, (tc_4 (i := 58) rfl rfl), im_139, sl_139⟩, trivial⟩
theorem wd_11_124 : WD 11 (124, (1, 140, 2, 10, 1, 0)) := ⟨trivial, ⟨ck_140, (tc_4 (i := 70) rfl rfl), im_140, sl_140⟩, trivial⟩
theorem wd_11_128 : WD 11 (128, (1, 141, 1, 10, 1, 0)) := ⟨trivial, ⟨ck_141, (tc_4 (i := 78) rfl rfl), im_141, sl_141⟩, trivial⟩
theorem wd_11_131 : WD 11 (131, (7, 190, 1, 11, 1, 0)) := ⟨trivial, ⟨ck_190, rfl, (tc_4 (i := 86) rfl rfl), sm_190⟩, trivial⟩
theorem wd_11_134 : WD 11 (134, (4, 0, 0, 0, 0, (-1000000))) := ⟨⟨by unfold r32; decide, (tc_4 (i := 87) rfl rfl)⟩, trivial, trivial⟩
theorem wd_11_135 : WD 11 (135, (1, 142, 4, 10, 1, 0)) := ⟨trivial, ⟨ck_142, (tc_4 (i := 88) rfl rfl), im_142, sl_142⟩, trivial⟩
theorem wd_11_139 : WD 11 (139, (1, 135, 2, 10, 1, 0)) := ⟨trivial, ⟨ck_135, (tc_4 (i := 89) rfl rfl), im_135, sl_135⟩, trivial⟩
theorem wd_11_142 : WD 11 (142, (1, 143, 4, 10, 1, 0)) := ⟨trivial, ⟨ck_143, (tc_4 (i := 94) rfl rfl), im_143, sl_143⟩, trivial⟩
theorem wd_11_146 : WD 11 (146, (1, 57, 0, 5, 1, 0)) := ⟨trivial, ⟨ck_57, (tc_4 (i := 99) rfl rfl), im_57, sl_57⟩, trivial⟩
theorem wd_11_150 : WD 11 (150, (1, 58, 1, 5, 0, 0)) := ⟨trivial, ⟨ck_58, (tc_4 (i := 103) rfl rfl), im_58, sl_58⟩, trivial⟩
theorem wd_11_154 : WD 11 (154, (0, 5, 2, 0, 0, 0)) := ⟨⟨by decide, by decide, rfl, rfl, rfl, (tc_1 (i := 141) rfl rfl), uw_5⟩, trivial, trivial⟩
theorem wd_11_157 : WD 11 (157, (1, 59, 1, 5, 1, 0)) := ⟨trivial, ⟨ck_59, (tc_4 (i := 111) rfl rfl), im_59, sl_59⟩, trivial⟩
theorem wd_11_160 : WD 11 (160, (1, 108, 0, 8, 3, 0)) := ⟨trivial, ⟨ck_108, (tc_4 (i := 119) rfl rfl), im_108, sl_108⟩, trivial⟩
theorem wd_11_164 : WD 11 (164, (1, 60, 1, 5, 1, 0)) := ⟨trivial, ⟨ck_60, (tc_4 (i := 123) rfl rfl), im_60, sl_60⟩, trivial⟩
theorem wd_11_168 : WD 11 (168, (1, 109, 2, 8, 1, 0)) := ⟨trivial, ⟨ck_109, (tc_5 (i := 46) rfl rfl), im_109, sl_109⟩, trivial⟩
theorem wd_11_171 : WD 11 (171, (1, 110, 1, 8, 3, 0)) := ⟨trivial, ⟨ck_110, (tc_5 (i := 55) rfl rfl), im_110, sl_110⟩, trivial⟩
theorem wd_11_175 : WD 11 (175, (0, 4, 17, 1, 0, 0)) := ⟨⟨by decide, by decide, rfl, rfl, rfl, (tc_2 (i := 33) rfl rfl), uw_4⟩, trivial, trivial⟩
theorem wd_11_181 : WD 11 (181, (0, 4, 18, 1, 0, 0)) := ⟨⟨by decide, by decide, rfl, rfl, rfl, (tc_2 (i := 35) rfl rfl), uw_4⟩, trivial, trivial⟩
theorem wd_11_184 : WD 11 (184, (1, 114, 3, 8, 1, 0)) := ⟨trivial, ⟨ck_114, (tc_5 (i := 60) rfl rfl), im_114, sl_114⟩, trivial⟩
theorem wd_11_188 : WD 11 (188, (1, 117, 3, 8, 1, 0)) := ⟨trivial, ⟨ck_117, (tc_5 (i := 65) rfl rfl), im_117, sl_117⟩, trivial⟩
theorem wd_11_191 : WD 11 (191, (1, 120, 3, 9, 1, 0)) := ⟨trivial, ⟨ck_120, (tc_5 (i := 77) rfl rfl), im_120, sl_120⟩, trivial⟩
theorem wd_11_194 : WD 11 (194, (1, 123, 2, 9, 1, 0)) := ⟨trivial, ⟨ck_123, (tc_5 (i := 85) rfl rfl), im_123, sl_123⟩, trivial⟩
theorem wd_11_197 : WD 11 (197, (1, 102, 2, 7, 1, 0)) := ⟨trivial, ⟨ck_102, (tc_5 (i := 89) rfl rfl), im_102, sl_102⟩, trivial⟩
theorem wd_11_200 : WD 11 (200, (1, 103, 2, 7, 1, 0)) := ⟨trivial, ⟨ck_103, (tc_5 (i := 90) rfl rfl), im_103, sl_103⟩, trivial⟩
theorem wd_11_203 : WD 11 (203, (1, 122, 3, 9, 0, 0)) := ⟨trivial, ⟨ck_122, (tc_5 (i := 91) rfl rfl), im_122, sl_122⟩, trivial⟩
theorem wd_11_207 : WD 11 (207, (1, 98, 1, 7, 1, 0)) := ⟨trivial, ⟨ck_98, (tc_5 (i := 96) rfl rfl), im_98, sl_98⟩, trivial⟩
theorem wd_11_210 : WD 11 (210, (1, 125, 2, 9, 1, 0)) := ⟨trivial, ⟨ck_125, (tc_5 (i := 100) rfl rfl), im_125, sl_125⟩, trivial⟩
theorem wd_11_213 : WD 11 (213, (1, 124, 2, 9, 1, 0)) := ⟨trivial, ⟨ck_124, (tc_5 (i := 104) rfl rfl), im_124, sl_124⟩, trivial⟩
theorem wd_11_214 : WD 11 (214, (1, 16, 3, 1, 1, 0)) := ⟨trivial, ⟨ck_16, (tc_5 (i := 113) rfl rfl), im_16, sl_16⟩, trivial⟩
theorem wd_11_217 : WD 11 (217, (1, 20, 3, 1, 1, 0)) := ⟨trivial, ⟨ck_20, (tc_5 (i := 122) rfl rfl), im_20, sl_20⟩, trivial⟩
theorem wd_11_221 : WD 11 (221, (1, 21, 3, 1, 1, 0)) := ⟨trivial, ⟨ck_21, (tc_5 (i := 130) rfl rfl), im_21, sl_21⟩, trivial⟩
theorem wd_11_222 : WD 11 (222, (1, 1, 2, 0, 1, 0)) := ⟨trivial, ⟨ck_1, (tc_5 (i := 138) rfl rfl), im_1, sl_1⟩, trivial⟩
theorem wd_11_225 : WD 11 (225, (1, 2, 0, 0, 1, 0)) := ⟨trivial, ⟨ck_2, (tc_5 (i := 214) rfl rfl), im_2, sl_2⟩, trivial⟩
theorem wd_11_229 : WD 11 (229, (1, 14, 2, 0, 1, 0)) := ⟨trivial, ⟨ck_14, (tc_6 (i := 9) rfl rfl), im_14, sl_14⟩, trivial⟩
theorem wd_11_232 : WD 11 (232, (1, 35, 3, 3, 1, 0)) := ⟨trivial, ⟨ck_35, (tc_6 (i := 18) rfl rfl), im_35, sl_35⟩, trivial⟩
theorem wd_11_235 : WD 11 (235, (1, 39, 3, 3, 1, 0)) := ⟨trivial, ⟨ck_39, (tc_6 (i := 28) rfl rfl), im_39, sl_39⟩, trivial⟩
theorem wd_11_238 : WD 11 (238, (1, 40, 2, 3, 1, 0)) := ⟨trivial, ⟨ck_40, (tc_6 (i := 48) rfl rfl), im_40, sl_40⟩, trivial⟩
theorem wd_11_241 : WD 11 (241, (0, 3, 10, 2, 0, 0)) := ⟨⟨by decide, by decide, rfl, rfl, rfl, (tc_2 (i := 201) rfl rfl), uw_3⟩, trivial, trivial⟩
theorem wd_11_245 : WD 11 (245, (1, 25, 2, 2, 1, 0)) := ⟨trivial, ⟨ck_25, (tc_6 (i := 91) rfl rfl), im_25, sl_25⟩, trivial⟩
theorem wd_11_248 : WD 11 (248, (1, 26, 3, 2, 1, 0)) := ⟨trivial, ⟨ck_26, (tc_6 (i := 103) rfl rfl), im_26, sl_26⟩, trivial⟩
theorem wd_11_251 : WD 11 (251, (1, 28, 2, 2, 1, 0)) := ⟨trivial, ⟨ck_28, (tc_6 (i := 111) rfl rfl), im_28, sl_28⟩, trivial⟩
theorem wd_11_254 : WD 11 (254, (1, 29, 2, 2, 1, 0)) := ⟨trivial, ⟨ck_29, (tc_6 (i := 135) rfl rfl), im_29, sl_29⟩, trivial⟩
theorem wd_11_257 : WD 11 (257, (1, 31, 1, 2, 1, 0)) := ⟨trivial, ⟨ck_31, (tc_6 (i := 143) rfl rfl), im_31, sl_31⟩, trivial⟩
theorem wd_11_260 : WD 11 (260, (1, 32, 1, 2, 1, 0)) := ⟨trivial, ⟨ck_32, (tc_6 (i := 148) rfl rfl), im_32, sl_32⟩, trivial⟩
theorem wd_11_263 : WD 11 (263, (1, 33, 1, 2, 1, 0)) := ⟨trivial, ⟨ck_33, (tc_6 (i := 156) rfl rfl), im_33, sl_33⟩, trivial⟩
theorem wd_11_266 : WD 11 (266, (1, 97, 1, 7, 1, 0)) := ⟨trivial, ⟨ck_97, (tc_6 (i := 164) rfl rfl), im_97, sl_97⟩, trivial⟩
theorem wd_11_269 : WD 11 (269, (0, 2, 1, 3, 1, 0)) := ⟨⟨by decide, by decide, rfl, rfl, rfl, (tc_2 (i := 235) rfl rfl), uw_2⟩, trivial, trivial⟩
theorem wd_11_273 : WD 11 (273, (0, 2, 0, 3, 1, 0)) := ⟨⟨by decide, by decide, rfl, rfl, rfl, (tc_2 (i := 233) rfl rfl), uw_2⟩, trivial, trivial⟩
theorem wd_11_276 : WD 11 (276, (1, 137, 1, 10, 1, 0)) := ⟨trivial, ⟨ck_137, (tc_6 (i := 165) rfl rfl), im_137, sl_137⟩, trivial⟩
theorem wd_11_279 : WD 11 (279, (0, 2, 3, 3, 1, 0)) := ⟨⟨by decide, by decide, rfl, rfl, rfl, (tc_2 (i := 238) rfl rfl), uw_2⟩, trivial, trivial⟩
theorem wd_11_282 : WD 11 (282, (1, 138, 1, 10, 1, 0)) := ⟨trivial, ⟨ck_138, (tc_6 (i := 166) rfl rfl), im_138, sl_138⟩, trivial⟩
theorem wd_11_285 : WD 11 (285, (0, 7, 10, 0, 0, 0)) := ⟨⟨by decide, by decide, rfl, rfl, rfl, (tc_1 (i := 46) rfl rfl), uw_7⟩, trivial, trivial⟩
theorem wd_11_286 : WD 11 (286, (0, 10, 16, 0, 0, 0)) := ⟨⟨by decide, by decide, rfl, rfl, rfl, (tc_1 (i := 94) rfl rfl), uw_10⟩, trivial, trivial⟩
theorem wd_11_287 : WD 11 (287, (0, 8, 8, 0, 0, 0)) := ⟨⟨by decide, by decide, rfl, rfl, rfl, (tc_2 (i := 84) rfl rfl), uw_8⟩, trivial, trivial⟩
theorem wd_11_288 : WD 11 (288, (0, 8, 9, 0, 0, 0)) := ⟨⟨by decide, by decide, rfl, rfl, rfl, (tc_2 (i := 86) rfl rfl), uw_8⟩, trivial, trivial⟩
theorem wd_11_291 : WD 11 (291, (0, 1, 5, 0, 0, 0)) := ⟨⟨by decide, by decide, rfl, rfl, rfl, (tc_1 (i := 198) rfl rfl), uw_1⟩, trivial, trivial⟩
theorem wd_11_292 : WD 11 (292, (0, 3, 9, 0, 0, 0)) := ⟨⟨by decide, by decide, rfl, rfl, rfl, (tc_2 (i := 199) rfl rfl), uw_3⟩, trivial, trivial⟩
def al_11 : List (Nat × PE) := [(3, (2, 0, 0, 0, 0, 0)), (9, (3, 7, 0, 0, 0, 0)), (11, (10, 92, 0, 7, 0, 0)), (12, (0, 11, 0, 3, 1, 0)), (16, (3, 10, 0, 0, 0, 0)), (18, (9, 126, 1, 10, 0, 0)), (21, (0, 11, 1, 3, 1, 0)), (25, (3, 5, 0, 0, 0, 0)), (27, (9, 56, 1, 5, 0, 0)), (28, (0, 11, 2, 3, 1, 0)), (32, (3, 9, 0, 0, 0, 0)), (34, (9, 119, 0, 9, 0, 0)), (35, (0, 11, 3, 3, 1, 0)), (39, (3, 1, 0, 0, 0, 0)), (41, (10, 15, 0, 1, 0, 0)), (42, (0, 11, 4, 3, 1, 0)), (46, (3, 8, 0, 0, 0, 0)), (48, (9, 107, 3, 8, 0, 0)), (51, (0, 11, 5, 3, 1, 0)), (55, (3, 0, 0, 0, 0, 0)), (57, (9, 0, 2, 0, 0, 0)), (60, (0, 11, 6, 3, 1, 0)), (64, (3, 3, 0, 0, 0, 0)), (66, (9, 34, 2, 3, 0, 0)), (69, (0, 11, 7, 3, 1, 0)), (73, (3, 2, 0, 0, 0, 0)), (75, (9, 22, 0, 2, 0, 0)), (76, (0, 11, 8, 3, 1, 0)), (80, (0, 11, 9, 0, 0, 0)), (84, (1, 93, 5, 7, 1, 0)), (88, (1, 94, 3, 7, 1, 0)), (92, (1, 95, 2, 7, 1, 0)), (96, (1, 111, 1, 8, 1, 0)), (100, (1, 128, 7, 10, 1, 0)), (104, (1, 19, 2, 1, 1, 0)), (107, (1, 136, 2, 10, 1, 0)), (110, (1, 96, 1, 7, 1, 0)), (114, (7, 189, 3, 11, 1, 0)), (117, (1, 105, 2, 7, 0, 0)), (121, (1, 139, 2, 10, 1, 0)), (124, (1, 140, 2, 10, 1, 0)), (128, (1, 141, 1, 10, 1, 0)), (131, (7, 190, 1, 11, 1, 0)), (134, (4, 0, 0, 0, 0, (-1000000))), (135, (1, 142, 4, 10, 1, 0)), (139, (1, 135, 2, 10, 1, 0)), (142, (1, 143, 4, 10, 1, 0)), (146, (1, 57, 0, 5, 1, 0)), (150, (1, 58, 1, 5, 0, 0)), (154, (0, 5, 2, 0, 0, 0)), (157, (1, 59, 1, 5, 1, 0)), (160, (1, 108, 0, 8, 3, 0)), (164, (1, 60, 1, 5, 1, 0)), (168, (1, 109, 2, 8, 1, 0)), (171, (1, 110, 1, 8, 3, 0)), (175, (0, 4, 17, 1, 0, 0)), (181, (0, 4, 18, 1, 0, 0)), (184, (1, 114, 3, 8, 1, 0)), (188, (1, 117, 3, 8, 1, 0)), (191, (1, 120, 3, 9, 1, 0)), (194, (1, 123, 2, 9, 1, 0)), (197, (1, 102, 2, 7, 1, 0)), (200, (1, 103, 2, 7, 1, 0)), (203, (1, 122, 3, 9, 0, 0)), (207, (1, 98, 1, 7, 1, 0)), (210, (1, 125, 2, 9, 1, 0)), (213, (1, 124, 2, 9, 1, 0)), (214, (1, 16, 3, 1, 1, 0)), (217, (1, 20, 3, 1, 1, 0)), (221, (1, 21, 3, 1, 1, 0)), (222, (1, 1, 2, 0, 1, 0)), (225, (1, 2, 0, 0, 1, 0)), (229, (1, 14, 2, 0, 1, 0)), (232, (1, 35, 3, 3, 1, 0)), (235, (1, 39, 3, 3, 1, 0)), (238, (1, 40, 2, 3, 1, 0)), (241, (0, 3, 10, 2, 0, 0)), (245, (1, 25, 2, 2, 1, 0)), (248, (1, 26, 3, 2, 1, 0)), (251, (1, 28, 2, 2, 1, 0)), (254, (1, 29, 2, 2, 1, 0)), (257, (1, 31, 1, 2, 1, 0)), (260, (1, 32, 1, 2, 1, 0)), (263, (1, 33, 1, 2, 1, 0)), (266, (1, 97, 1, 7, 1, 0)), (269, (0, 2, 1, 3, 1, 0)), (273, (0, 2, 0, 3, 1, 0)), (276, (1, 137, 1, 10, 1, 0)), (279, (0, 2, 3, 3, 1, 0)), (282, (1, 138, 1, 10, 1, 0)), (285, (0, 7, 10, 0, 0, 0)), (286, (0, 10, 16, 0, 0, 0)), (287, (0, 8, 8, 0, 0, 0)), (288, (0, 8, 9, 0, 0, 0)), (291, (0, 1, 5, 0, 0, 0)), (292, (0, 3, 9, 0, 0, 0))]
set_option maxRecDepth 100000 in
theorem pw_11 : ∀ n q, pl_11 n = some q → WD 11 (n, q) := pl_sp (b := 293) (al := al_11) (by decide +kernel) (fun n h => by rw [pl_11, blt_F h]; rfl) (List.forall_mem_cons.mpr ⟨wd_11_3, (List.forall_mem_cons.mpr ⟨wd_11_9, (List.forall_mem_cons.mpr ⟨wd_11_11, (List.forall_mem_cons.mpr ⟨wd_11_12, (List.forall_mem_cons.mpr ⟨wd_11_16, (List.forall_mem_cons.mpr ⟨wd_11_18, (List.forall_mem_cons.mpr ⟨wd_11_21, (List.forall_mem_cons.mpr ⟨wd_11_25, (List.forall_mem_cons.mpr ⟨wd_11_27, (List.forall_mem_cons.mpr ⟨wd_11_28, (List.forall_mem_cons.mpr ⟨wd_11_32, (List.forall_mem_cons.mpr ⟨wd_11_34, (List.forall_mem_cons.mpr ⟨wd_11_35, (List.forall_mem_cons.mpr ⟨wd_11_39, (List.forall_mem_cons.mpr ⟨wd_11_41, (List.forall_mem_cons.mpr ⟨wd_11_42, (List.forall_mem_cons.mpr ⟨wd_11_46, (List.forall_mem_cons.mpr ⟨wd_11_48, (List.forall_mem_cons.mpr ⟨wd_11_51, (List.forall_mem_cons.mpr ⟨wd_11_55, (List.forall_mem_cons.mpr ⟨wd_11_57, (List.forall_mem_cons.mpr ⟨wd_11_60, (List.forall_mem_cons.mpr ⟨wd_11_64, (List.forall_mem_cons.mpr ⟨wd_11_66, (List.forall_mem_cons.mpr ⟨wd_11_69, (List.forall_mem_cons.mpr ⟨wd_11_73, (List.forall_mem_cons.mpr ⟨wd_11_75, (List.forall_mem_cons.mpr ⟨wd_11_76, (List.forall_mem_cons.mpr ⟨wd_11_80, (List.forall_mem_cons.mpr ⟨wd_11_84, (List.forall_mem_cons.mpr ⟨wd_11_88, (List.forall_mem_cons.mpr ⟨wd_11_92, (List.forall_mem_cons.mpr ⟨wd_11_96, (List.forall_mem_cons.mpr ⟨wd_11_100, (List.forall_mem_cons.mpr ⟨wd_11_104, (List.forall_mem_cons.mpr ⟨wd_11_107, (List.forall_mem_cons.mpr ⟨wd_11_110, (List.forall_mem_cons.mpr ⟨wd_11_114, (List.forall_mem_cons.mpr ⟨wd_11_117, (List.forall_mem_cons.mpr ⟨wd_11_121, (List.forall_mem_cons.mpr ⟨wd_11_124, (List.forall_mem_cons.mpr ⟨wd_11_128, (List.forall_mem_cons.mpr ⟨wd_11_131, (List.forall_mem_cons.mpr ⟨wd_11_134, (List.forall_mem_cons.mpr ⟨wd_11_135, (List.forall_mem_cons.mpr ⟨wd_11_139, (List.forall_mem_cons.mpr ⟨wd_11_142, (List.forall_mem_cons.mpr ⟨wd_11_146, (List.forall_mem_cons.mpr ⟨wd_11_150, (List.forall_mem_cons.mpr ⟨wd_11_154, (List.forall_mem_cons.mpr ⟨wd_11_157, (List.forall_mem_cons.mpr ⟨wd_11_160, (List.forall_mem_cons.mpr ⟨wd_11_164, (List.forall_mem_cons.mpr ⟨wd_11_168, (List.forall_mem_cons.mpr ⟨wd_11_171, (List.forall_mem_cons.mpr ⟨wd_11_175, (List.forall_mem_cons.mpr ⟨wd_11_181, (List.forall_mem_cons.mpr ⟨wd_11_184, (List.forall_mem_cons.mpr ⟨wd_11_188, (List.forall_mem_cons.mpr ⟨wd_11_191, (List.forall_mem_cons.mpr ⟨wd_11_194, (List.forall_mem_cons.mpr ⟨wd_11_197, (List.forall_mem_cons.mpr ⟨wd_11_200, (List.forall_mem_cons.mpr ⟨wd_11_203, (List.forall_mem_cons.mpr ⟨wd_11_207, (List.forall_mem_cons.mpr ⟨wd_11_210, (List.forall_mem_cons.mpr ⟨wd_11_213, (List.forall_mem_cons.mpr ⟨wd_11_214, (List.forall_mem_cons.mpr ⟨wd_11_217, (List.forall_mem_cons.mpr ⟨wd_11_221, (List.forall_mem_cons.mpr ⟨wd_11_222, (List.forall_mem_cons.mpr ⟨wd_11_225, (List.forall_mem_cons.mpr ⟨wd_11_229, (List.forall_mem_cons.mpr ⟨wd_11_232, (List.forall_mem_cons.mpr ⟨wd_11_235, (List.forall_mem_cons.mpr ⟨wd_11_238, (List.forall_mem_cons.mpr ⟨wd_11_241, (List.forall_mem_cons.mpr ⟨wd_11_245, (List.forall_mem_cons.mpr ⟨wd_11_248, (List.forall_mem_cons.mpr ⟨wd_11_251, (List.forall_mem_cons.mpr ⟨wd_11_254, (List.forall_mem_cons.mpr ⟨wd_11_257, (List.forall_mem_cons.mpr ⟨wd_11_260, (List.forall_mem_cons.mpr ⟨wd_11_263, (List.forall_mem_cons.mpr ⟨wd_11_266, (List.forall_mem_cons.mpr ⟨wd_11_269, (List.forall_mem_cons.mpr ⟨wd_11_273, (List.forall_mem_cons.mpr ⟨wd_11_276, (List.forall_mem_cons.mpr ⟨wd_11_279, (List.forall_mem_cons.mpr ⟨wd_11_282, (List.forall_mem_cons.mpr ⟨wd_11_285, (List.forall_mem_cons.mpr ⟨wd_11_286, (List.forall_mem_cons.mpr ⟨wd_11_287, (List.forall_mem_cons.mpr ⟨wd_11_288, (List.forall_mem_cons.mpr ⟨wd_11_291, (List.forall_mem_cons.mpr ⟨wd_11_292, (fun p hp => by cases hp)⟩)⟩)⟩)⟩)⟩)⟩)⟩)⟩)⟩)⟩)⟩)⟩)⟩)⟩)⟩)⟩)⟩)⟩)⟩)⟩)⟩)⟩)⟩)⟩)⟩)⟩)⟩)⟩)⟩)⟩)⟩)⟩)⟩)⟩)⟩)⟩)⟩)⟩)⟩)⟩)⟩)⟩)⟩)⟩)⟩)⟩)⟩)⟩)⟩)⟩)⟩)⟩)⟩)⟩)⟩)⟩)⟩)⟩)⟩)⟩)⟩)⟩)⟩)⟩)⟩)⟩)⟩)⟩)⟩)⟩)⟩)⟩)⟩)⟩)⟩)⟩)⟩)⟩)⟩)⟩)⟩)⟩)⟩)⟩)⟩)⟩)⟩)⟩)⟩)⟩)⟩)⟩)⟩)⟩)⟩)⟩)
theorem wd_12_1 : WD 12 (1, (2, 0, 0, 0, 0, 0)) := ⟨⟨(tc_6 (i := 179) rfl rfl), (tc_1 (i := 26) rfl rfl), (tc_1 (i := 27) rfl rfl)⟩, trivial, trivial⟩
theorem wd_12_7 : WD 12 (7, (0, 12, 1, 3, 1, 0)) := ⟨⟨by decide, by decide, rfl, rfl, rfl, (tc_6 (i := 182) rfl rfl), uw_12⟩, trivial, trivial⟩
theorem wd_12_13 : WD 12 (13, (0, 12, 2, 3, 1, 0)) := ⟨⟨by decide, by decide, rfl, rfl, rfl, (tc_6 (i := 183) rfl rfl), uw_12⟩, trivial, trivial⟩
theorem wd_12_16 : WD 12 (16, (0, 12, 3, 3, 1, 0)) := ⟨⟨by decide, by decide, rfl, rfl, rfl, (tc_6 (i := 184) rfl rfl), uw_12⟩, trivial, trivial⟩
theorem wd_12_19 : WD 12 (19, (0, 12, 4, 3, 1, 0)) := ⟨⟨by decide, by decide, rfl, rfl, rfl, (tc_6 (i := 185) rfl rfl), uw_12⟩, trivial, trivial⟩
theorem wd_12_22 : WD 12 (22, (0, 12, 5, 3, 1, 0)) := ⟨⟨by decide, by decide, rfl, rfl, rfl, (tc_6 (i := 186) rfl rfl), uw_12⟩, trivial, trivial⟩
theorem wd_12_25 : WD 12 (25, (0, 12, 7, 3, 1, 0)) := ⟨⟨by decide, by decide, rfl, rfl, rfl, (tc_6 (i := 188) rfl rfl), uw_12⟩, trivial, trivial⟩
theorem wd_12_28 : WD 12 (28, (0, 12, 8, 3, 1, 0)) := ⟨⟨by decide, by decide, rfl, rfl, rfl, (tc_6 (i := 189) rfl rfl), uw_12⟩, trivial, trivial⟩
theorem wd_12_31 : WD 12 (31, (0, 12, 9, 3, 1, 0)) := ⟨⟨by decide, by decide, rfl, rfl, rfl, (tc_6 (i := 190) rfl rfl), uw_12⟩, trivial, trivial⟩
theorem wd_12_34 : WD 12 (34, (0, 12, 10, 3, 1, 0)) := ⟨⟨by decide, by decide, rfl, rfl, rfl, (tc_6 (i := 191) rfl rfl), uw_12⟩, trivial, trivial⟩
theorem wd_12_37 : WD 12 (37, (0, 12, 11, 3, 1, 0)) := ⟨⟨by decide, by decide, rfl, rfl, rfl, (tc_6 (i := 192) rfl rfl), uw_12⟩, trivial, trivial⟩
theorem wd_12_40 : WD 12 (40, (0, 12, 12, 3, 1, 0)) := ⟨⟨by decide, by decide, rfl, rfl, rfl, (tc_6 (i := 193) rfl rfl), uw_12⟩, trivial, trivial⟩
theorem wd_12_43 : WD 12 (43, (0, 12, 14, 3, 1, 0)) := ⟨⟨by decide, by decide, rfl, rfl, rfl, (tc_6 (i := 195) rfl rfl), uw_12⟩, trivial, trivial⟩
theorem wd_12_46 : WD 12 (46, (0, 12, 15, 3, 1, 0)) := ⟨⟨by decide, by decide, rfl, rfl, rfl, (tc_6 (i := 196) rfl rfl), uw_12⟩, trivial, trivial⟩
theorem wd_12_49 : WD 12 (49, (0, 12, 16, 3, 1, 0)) := ⟨⟨by decide, by decide, rfl, rfl, rfl, (tc_6 (i := 197) rfl rfl), uw_12⟩, trivial, trivial⟩
theorem wd_12_52 : WD 12 (52, (0, 12, 17, 3, 1, 0)) := ⟨⟨by decide, by decide, rfl, rfl, rfl, (tc_6 (i := 198) rfl rfl), uw_12⟩, trivial, trivial⟩
theorem wd_12_55 : WD 12 (55, (0, 12, 18, 3, 1, 0)) := ⟨⟨by decide, by decide, rfl, rfl, rfl, (tc_6 (i := 199) rfl rfl), uw_12⟩, trivial, trivial⟩
theorem wd_12_58 : WD 12 (58, (0, 12, 19, 3, 1, 0)) := ⟨⟨by decide, by decide, rfl, rfl, rfl, (tc_6 (i := 200) rfl rfl), uw_12⟩, trivial, trivial⟩
theorem wd_12_61 : WD 12 (61, (0, 12, 20, 3, 1, 0)) := ⟨⟨by decide, by decide, rfl, rfl, rfl, (tc_6 (i := 201) rfl rfl), uw_12⟩, trivial, trivial⟩
theorem wd_12_64 : WD 12 (64, (0, 12, 21, 3, 1, 0)) := ⟨⟨by decide, by decide, rfl, rfl, rfl, (tc_6 (i := 202) rfl rfl), uw_12⟩, trivial, trivial⟩
theorem wd_12_68 : WD 12 (68, (0, 12, 22, 3, 1, 0)) := ⟨⟨by decide, by decide, rfl, rfl, rfl, (tc_6 (i := 203) rfl rfl), uw_12⟩, trivial, trivial⟩
theorem wd_12_71 : WD 12 (71, (0, 12, 23, 3, 1, 0)) := ⟨⟨by decide, by decide, rfl, rfl, rfl, (tc_6 (i := 204) rfl rfl), uw_12⟩, trivial, trivial⟩
theorem wd_12_74 : WD 12 (74, (0, 12, 24, 3, 1, 0)) := ⟨⟨by decide, by decide, rfl, rfl, rfl, (tc_6 (i := 205) rfl rfl), uw_12⟩, trivial, trivial⟩
theorem wd_12_77 : WD 12 (77, (0, 12, 25, 3, 1, 0)) := ⟨⟨by decide, by decide, rfl, rfl, rfl, (tc_6 (i := 206) rfl rfl), uw_12⟩, trivial, trivial⟩
theorem wd_12_80 : WD 12 (80, (0, 12, 26, 3, 1, 0)) := ⟨⟨by decide, by decide, rfl, rfl, rfl, (tc_6 (i := 207) rfl rfl), uw_12⟩, trivial, trivial⟩
theorem wd_12_83 : WD 12 (83, (0, 12, 28, 3, 1, 0)) := ⟨⟨by decide, by decide, rfl, rfl, rfl, (tc_6 (i := 209) rfl rfl), uw_12⟩, trivial, trivial⟩
theorem wd_12_86 : WD 12 (86, (0, 12, 29, 3, 1, 0)) := ⟨⟨by decide, by decide, rfl, rfl, rfl, (tc_6 (i := 210) rfl rfl), uw_12⟩, trivial, trivial⟩
theorem wd_12_89 : WD 12 (89, (0, 12, 30, 3, 1, 0)) := ⟨⟨by decide, by decide, rfl, rfl, rfl, (tc_6 (i := 211) rfl rfl), uw_12⟩, trivial, trivial⟩
theorem wd_12_93 : WD 12 (93, (0, 12, 33, 3, 1, 0)) := ⟨⟨by decide, by decide, rfl, rfl, rfl, (tc_6 (i := 214) rfl rfl), uw_12⟩, trivial, trivial⟩
theorem wd_12_96 : WD 12 (96, (0, 12, 34, 3, 1, 0)) := ⟨⟨by decide, by decide, rfl, rfl, rfl, (tc_6 (i := 215) rfl rfl), uw_12⟩, trivial, trivial⟩
theorem wd_12_99 : WD 12 (99, (0, 12, 35, 3, 1, 0)) := ⟨⟨by decide, by decide, rfl, rfl, rfl, (tc_6 (i := 216) rfl rfl), uw_12⟩, trivial, trivial⟩
theorem wd_12_102 : WD 12 (102, (0, 12, 36, 3, 1, 0)) := ⟨⟨by decide, by decide, rfl, rfl, rfl, (tc_6 (i := 217) rfl rfl), uw_12⟩, trivial, trivial⟩
theorem wd_12_105 : WD 12 (105, (0, 12, 37, 3, 1, 0)) := ⟨⟨by decide, by decide, rfl, rfl, rfl, (tc_6 (i := 218) rfl rfl), uw_12⟩, trivial, trivial⟩
theorem wd_12_108 : WD 12 (108, (0, 12, 38, 3, 1, 0)) := ⟨⟨by decide, by decide, rfl, rfl, rfl, (tc_6 (i := 219) rfl rfl), uw_12⟩, trivial, trivial⟩
theorem wd_12_111 : WD 12 (111, (0, 12, 39, 3, 1, 0)) := ⟨⟨by decide, by decide, rfl, rfl, rfl, (tc_6 (i := 220) rfl rfl), uw_12⟩, trivial, trivial⟩
theorem wd_12_114 : WD 12 (114, (0, 12, 40, 3, 1, 0)) := ⟨⟨by decide, by decide, rfl, rfl, rfl, (tc_6 (i := 221) rfl rfl), uw_12⟩, trivial, trivial⟩
theorem wd_12_117 : WD 12 (117, (0, 12, 41, 3, 1, 0)) := ⟨⟨by decide, by decide, rfl, rfl, rfl, (tc_6 (i := 222) rfl rfl), uw_12⟩, trivial, trivial⟩
theorem wd_12_120 : WD 12 (120, (0, 12, 42, 3, 1, 0)) := ⟨⟨by decide, by decide, rfl, rfl, rfl, (tc_6 (i := 223) rfl rfl), uw_12⟩, trivial, trivial⟩
theorem wd_12_123 : WD 12 (123, (0, 12, 43, 3, 1, 0)) := ⟨⟨by decide, by decide, rfl, rfl, rfl, (tc_6 (i := 224) rfl rfl), uw_12⟩, trivial, trivial⟩
theorem wd_12_126 : WD 12 (126, (0, 12, 44, 3, 1, 0)) := ⟨⟨by decide, by decide, rfl, rfl, rfl, (tc_6 (i := 225) rfl rfl), uw_12⟩, trivial, trivial⟩
theorem wd_12_129 : WD 12 (129, (0, 12, 45, 3, 1, 0)) := ⟨⟨by decide, by decide, rfl, rfl, rfl, (tc_6 (i := 226) rfl rfl), uw_12⟩, trivial, trivial⟩
theorem wd_12_132 : WD 12 (132, (0, 12, 46, 3, 1, 0)) := ⟨⟨by decide, by decide, rfl, rfl, rfl, (tc_6 (i := 227) rfl rfl), uw_12⟩, trivial, trivial⟩
theorem wd_12_135 : WD 12 (135, (0, 12, 47, 3, 1, 0)) := ⟨⟨by decide, by decide, rfl, rfl, rfl, (tc_6 (i := 228) rfl rfl), uw_12⟩, trivial, trivial⟩
theorem wd_12_138 : WD 12 (138, (0, 12, 48, 3, 1, 0)) := ⟨⟨by decide, by decide, rfl, rfl, rfl, (tc_6 (i := 229) rfl rfl), uw_12⟩, trivial, trivial⟩
theorem wd_12_141 : WD 12 (141, (0, 12, 49, 3, 1, 0)) := ⟨⟨by decide, by decide, rfl, rfl, rfl, (tc_6 (i := 230) rfl rfl), uw_12⟩, trivial, trivial⟩
theorem wd_12_144 : WD 12 (144, (0, 12, 50, 3, 1, 0)) := ⟨⟨by decide, by decide, rfl, rfl, rfl, (tc_6 (i := 231) rfl rfl), uw_12⟩, trivial, trivial⟩
theorem wd_12_147 : WD 12 (147, (0, 12, 51, 3, 1, 0)) := ⟨⟨by decide, by decide, rfl, rfl, rfl, (tc_6 (i := 232) rfl rfl), uw_12⟩, trivial, trivial⟩
theorem wd_12_150 : WD 12 (150, (0, 12, 52, 3, 1, 0)) := ⟨⟨by decide, by decide, rfl, rfl, rfl, (tc_6 (i := 233) rfl rfl), uw_12⟩, trivial, trivial⟩
theorem wd_12_153 : WD 12 (153, (0, 12, 60, 3, 1, 0)) := ⟨⟨by decide, by decide, rfl, rfl, rfl, (tc_7 (i := 1) rfl rfl), uw_12⟩, trivial, trivial⟩
theorem wd_12_156 : WD 12 (156, (0, 12, 62, 3, 1, 0)) := ⟨⟨by decide, by decide, rfl, rfl, rfl, (tc_7 (i := 3) rfl rfl), uw_12⟩, trivial, trivial⟩
theorem wd_12_159 : WD 12 (159, (0, 12, 65, 3, 1, 0)) := ⟨⟨by decide, by decide, rfl, rfl, rfl, (tc_7 (i := 6) rfl rfl), uw_12⟩, trivial, trivial⟩
theorem wd_12_162 : WD 12 (162, (0, 12, 66, 3, 1, 0)) := ⟨⟨by decide, by decide, rfl, rfl, rfl, (tc_7 (i := 7) rfl rfl), uw_12⟩, trivial, trivial⟩
theorem wd_12_165 : WD 12 (165, (0, 12, 67, 3, 1, 0)) := ⟨⟨by decide, by decide, rfl, rfl, rfl, (tc_7 (i := 8) rfl rfl), uw_12⟩, trivial, trivial⟩
theorem wd_12_168 : WD 12 (168, (0, 12, 68, 3, 1, 0)) := ⟨⟨by decide, by decide, rfl, rfl, rfl, (tc_7 (i := 9) rfl rfl), uw_12⟩, trivial, trivial⟩
theorem wd_12_171 : WD 12 (171, (0, 12, 69, 3, 1, 0)) := ⟨⟨by decide, by decide, rfl, rfl, rfl, (tc_7 (i := 10) rfl rfl), uw_12⟩, trivial, trivial⟩
theorem wd_12_174 : WD 12 (174, (0, 12, 70, 3, 1, 0)) := ⟨⟨by decide, by decide, rfl, rfl, rfl, (tc_7 (i := 11) rfl rfl), uw_12⟩, trivial, trivial⟩
theorem wd_12_177 : WD 12 (177, (0, 12, 71, 3, 1, 0)) := ⟨⟨by decide, by decide, rfl, rfl, rfl, (tc_7 (i := 12) rfl rfl), uw_12⟩, trivial, trivial⟩
theorem wd_12_180 : WD 12 (180, (0, 12, 74, 3, 1, 0)) := ⟨⟨by decide, by decide, rfl, rfl, rfl, (tc_7 (i := 15) rfl rfl), uw_12⟩, trivial, trivial⟩
theorem wd_12_183 : WD 12 (183, (0, 12, 75, 3, 1, 0)) := ⟨⟨by decide, by decide, rfl, rfl, rfl, (tc_7 (i := 16) rfl rfl), uw_12⟩, trivial, trivial⟩
theorem wd_12_186 : WD 12 (186, (0, 12, 76, 3, 1, 0)) := ⟨⟨by decide, by decide, rfl, rfl, rfl, (tc_7 (i := 17) rfl rfl), uw_12⟩, trivial, trivial⟩
theorem wd_12_189 : WD 12 (189, (0, 12, 77, 3, 1, 0)) := ⟨⟨by decide, by decide, rfl, rfl, rfl, (tc_7 (i := 18) rfl rfl), uw_12⟩, trivial, trivial⟩
theorem wd_12_192 : WD 12 (192, (0, 12, 78, 3, 1, 0)) := ⟨⟨by decide, by decide, rfl, rfl, rfl, (tc_7 (i := 19) rfl rfl), uw_12⟩, trivial, trivial⟩
theorem wd_12_195 : WD 12 (195, (0, 12, 80, 3, 1, 0)) := ⟨⟨by decide, by decide, rfl, rfl, rfl, (tc_7 (i := 21) rfl rfl), uw_12⟩, trivial, trivial⟩
theorem wd_12_198 : WD 12 (198, (0, 12, 81, 3, 1, 0)) := ⟨⟨by decide, by decide, rfl, rfl, rfl, (tc_7 (i := 22) rfl rfl), uw_12⟩, trivial, trivial⟩
theorem wd_12_201 : WD 12 (201, (0, 12, 82, 3, 1, 0)) := ⟨⟨by decide, by decide, rfl, rfl, rfl, (tc_7 (i := 23) rfl rfl), uw_12⟩, trivial, trivial⟩
theorem wd_12_204 : WD 12 (204, (0, 12, 83, 3, 1, 0)) := ⟨⟨by decide, by decide, rfl, rfl, rfl, (tc_7 (i := 24) rfl rfl), uw_12⟩, trivial, trivial⟩
theorem wd_12_207 : WD 12 (207, (0, 12, 84, 3, 1, 0)) := ⟨⟨by decide, by decide, rfl, rfl, rfl, (tc_7 (i := 25) rfl rfl), uw_12⟩, trivial, trivial⟩
theorem wd_12_210 : WD 12 (210, (0, 12, 85, 3, 1, 0)) := ⟨⟨by decide, by decide, rfl, rfl, rfl, (tc_7 (i := 26) rfl rfl), uw_12⟩, trivial, trivial⟩
theorem wd_12_213 : WD 12 (213, (0, 12, 86, 3, 1, 0)) := ⟨⟨by decide, by decide, rfl, rfl, rfl, (tc_7 (i := 27) rfl rfl), uw_12⟩, trivial, trivial⟩
theorem wd_12_216 : WD 12 (216, (0, 12, 88, 3, 1, 0)) := ⟨⟨by decide, by decide, rfl, rfl, rfl, (tc_7 (i := 29) rfl rfl), uw_12⟩, trivial, trivial⟩
theorem wd_12_219 : WD 12 (219, (0, 12, 89, 3, 1, 0)) := ⟨⟨by decide, by decide, rfl, rfl, rfl, (tc_7 (i := 30) rfl rfl), uw_12⟩, trivial, trivial⟩
theorem wd_12_222 : WD 12 (222, (0, 12, 91, 3, 1, 0)) := ⟨⟨by decide, by decide, rfl, rfl, rfl, (tc_7 (i := 32) rfl rfl), uw_12⟩, trivial, trivial⟩
theorem wd_12_225 : WD 12 (225, (0, 12, 93, 3, 1, 0)) := ⟨⟨by decide, by decide, rfl, rfl, rfl, (tc_7 (i := 34) rfl rfl), uw_12⟩, trivial, trivial⟩
theorem wd_12_228 : WD 12 (228, (0, 12, 94, 3, 1, 0)) := ⟨⟨by decide, by decide, rfl, rfl, rfl, (tc_7 (i := 35) rfl rfl), uw_12⟩, trivial, trivial⟩
theorem wd_12_231 : WD 12 (231, (0, 12, 95, 3, 1, 0)) := ⟨⟨by decide, by decide, rfl, rfl, rfl, (tc_7 (i := 36) rfl rfl), uw_12⟩, trivial, trivial⟩
theorem wd_12_234 : WD 12 (234, (0, 12, 97, 3, 1, 0)) := ⟨⟨by decide, by decide, rfl, rfl, rfl, (tc_7 (i := 38) rfl rfl), uw_12⟩, trivial, trivial⟩
theorem wd_12_237 : WD 12 (237, (0, 12, 98, 3, 1, 0)) := ⟨⟨by decide, by decide, rfl, rfl, rfl, (tc_7 (i := 39) rfl rfl), uw_12⟩, trivial, trivial⟩
theorem wd_12_240 : WD 12 (240, (0, 12, 99, 3, 1, 0)) := ⟨⟨by decide, by decide, rfl, rfl, rfl, (tc_7 (i := 40) rfl rfl), uw_12⟩, trivial, trivial⟩
theorem wd_12_243 : WD 12 (243, (0, 12, 101, 3, 1, 0)) := ⟨⟨by decide, by decide, rfl, rfl, rfl, (tc_7 (i := 42) rfl rfl), uw_12⟩, trivial, trivial⟩
theorem wd_12_246 : WD 12 (246, (0, 12, 102, 3, 1, 0)) := ⟨⟨by decide, by decide, rfl, rfl, rfl, (tc_7 (i := 43) rfl rfl), uw_12⟩, trivial, trivial⟩
theorem wd_12_250 : WD 12 (250, (0, 12, 103, 3, 1, 0)) := ⟨⟨by decide, by decide, rfl, rfl, rfl, (tc_7 (i := 44) rfl rfl), uw_12⟩, trivial, trivial⟩
theorem wd_12_253 : WD 12 (253, (5, 0, 0, 0, 0, (-1))) := ⟨⟨by unfold r64; decide, (tc_6 (i := 180) rfl rfl)⟩, trivial, trivial⟩
theorem wd_12_255 : WD 12 (255, (0, 12, 104, 2, 0, 0)) := ⟨⟨by decide, by decide, rfl, rfl, rfl, (tc_7 (i := 45) rfl rfl), uw_12⟩, trivial, trivial⟩
theorem wd_12_259 : WD 12 (259, (0, 12, 105, 3, 1, 0)) := ⟨⟨by decide, by decide, rfl, rfl, rfl, (tc_7 (i := 46) rfl rfl), uw_12⟩, trivial, trivial⟩
theorem wd_12_262 : WD 12 (262, (0, 12, 106, 3, 1, 0)) := ⟨⟨by decide, by decide, rfl, rfl, rfl, (tc_7 (i := 47) rfl rfl), uw_12⟩, trivial, trivial⟩
theorem wd_12_265 : WD 12 (265, (0, 12, 107, 3, 1, 0)) := ⟨⟨by decide, by decide, rfl, rfl, rfl, (tc_7 (i := 48) rfl rfl), uw_12⟩, trivial, trivial⟩
theorem wd_12_268 : WD 12 (268, (0, 12, 108, 3, 1, 0)) := ⟨⟨by decide, by decide, rfl, rfl, rfl, (tc_7 (i := 49) rfl rfl), uw_12⟩, trivial, trivial⟩
theorem wd_12_271 : WD 12 (271, (0, 12, 109, 3, 1, 0)) := ⟨⟨by decide, by decide, rfl, rfl, rfl, (tc_7 (i := 50) rfl rfl), uw_12⟩, trivial, trivial⟩
theorem wd_12_274 : WD 12 (274, (0, 12, 6, 0, 0, 0)) := ⟨⟨by decide, by decide, rfl, rfl, rfl, (tc_6 (i := 187) rfl rfl), uw_12⟩, trivial, trivial⟩
theorem wd_12_278 : WD 12 (278, (5, 0, 0, 0, 0, 7)) := ⟨⟨by unfold r64; decide, (tc_8 (i := 36) rfl rfl)⟩, trivial, trivial⟩
theorem wd_12_280 : WD 12 (280, (7, 192, 3, 12, 1, 0)) := ⟨trivial, ⟨ck_192, rfl, (tc_8 (i := 37) rfl rfl), sm_192⟩, trivial⟩
theorem wd_12_284 : WD 12 (284, (7, 196, 1, 12, 1, 0)) := ⟨trivial, ⟨ck_196, rfl, (tc_8 (i := 40) rfl rfl), sm_196⟩, trivial⟩
theorem wd_12_288 : WD 12 (288, (5, 0, 0, 0, 0, (-100000))) := ⟨⟨by unfold r64; decide, (tc_8 (i := 43) rfl rfl)⟩, trivial, trivial⟩
theorem wd_12_290 : WD 12 (290, (5, 0, 0, 0, 0, 100000)) := ⟨⟨by unfold r64; decide, (tc_8 (i := 44) rfl rfl)⟩, trivial, trivial⟩
theorem wd_12_292 : WD 12 (292, (5, 0, 0, 0, 0, 10000)) := ⟨⟨by unfold r64; decide, (tc_8 (i := 45) rfl rfl)⟩, trivial, trivial⟩
theorem wd_12_294 : WD 12 (294, (5, 0, 0, 0, 0, 500)) := ⟨⟨by unfold r64; decide, (tc_8 (i := 50) rfl rfl)⟩, trivial, trivial⟩
theorem wd_12_296 : WD 12 (296, (5, 0, 0, 0, 0, 9999)) := ⟨⟨by unfold r64; decide, (tc_8 (i := 51) rfl rfl)⟩, trivial, trivial⟩
theorem wd_12_298 : WD 12 (298, (1, 197, 1, 12, 1, 0)) := ⟨trivial, ⟨ck_197, (tc_8 (i := 60) rfl rfl), im_197, sl_197⟩, trivial⟩
theorem wd_12_301 : WD 12 (301, (0, 12, 0, 0, 0, 0)) := ⟨⟨by decide, by decide, rfl, rfl, rfl, (tc_6 (i := 181) rfl rfl), uw_12⟩, trivial, trivial⟩
theorem wd_12_304 : WD 12 (304, (0, 12, 27, 0, 0, 0)) := ⟨⟨by decide, by decide, rfl, rfl, rfl, (tc_6 (i := 208) rfl rfl), uw_12⟩, trivial, trivial⟩
theorem wd_12_307 : WD 12 (307, (4, 0, 0, 0, 0, (-1000000))) := ⟨⟨by unfold r32; decide, (tc_8 (i := 75) rfl rfl)⟩, trivial, trivial⟩
theorem wd_12_308 : WD 12 (308, (1, 207, 4, 12, 1, 0)) := ⟨trivial, ⟨ck_207, (tc_8 (i := 94) rfl rfl), im_207, sl_207⟩, trivial⟩
theorem wd_12_312 : WD 12 (312, (1, 208, 4, 12, 1, 0)) := ⟨trivial, ⟨ck_208, (tc_8 (i := 106) rfl rfl), im_208, sl_208⟩, trivial⟩
theorem wd_12_315 : WD 12 (315, (1, 203, 2, 12, 1, 0)) := ⟨trivial, ⟨ck_203, (tc_8 (i := 98) rfl rfl), im_203, sl_203⟩, trivial⟩
theorem wd_12_319 : WD 12 (319, (1, 201, 2, 12, 1, 0)) := ⟨trivial, ⟨ck_201, (tc_8 (i := 102) rfl rfl), im_201, sl_201⟩, trivial⟩
theorem wd_12_322 : WD 12 (322, (7, 194, 2, 12, 1, 0)) := ⟨trivial, ⟨ck_194, rfl, (tc_8 (i := 83) rfl rfl), sm_194⟩, trivial⟩
theorem wd_12_325 : WD 12 (325, (7, 195, 2, 12, 1, 0)) := ⟨trivial, ⟨ck_195, rfl, (tc_8 (i := 80) rfl rfl), sm_195⟩, trivial⟩
theorem wd_12_328 : WD 12 (328, (1, 202, 2, 12, 1, 0)) := ⟨trivial, ⟨ck_202, (tc_8 (i := 110) rfl rfl), im_202, sl_202⟩, trivial⟩
theorem wd_12_331 : WD 12 (331, (1, 206, 5, 12, 1, 0)) := ⟨trivial, ⟨ck_206, (tc_8 (i := 90) rfl rfl), im_206, sl_206⟩, trivial⟩
theorem wd_12_335 : WD 12 (335, (0, 12, 13, 0, 0, 0)) := ⟨⟨by decide, by decide, rfl, rfl, rfl, (tc_6 (i := 194) rfl rfl), uw_12⟩, trivial, trivial⟩
theorem wd_12_338 : WD 12 (338, (5, 0, 0, 0, 0, 200)) := ⟨⟨by unfold r64; decide, (tc_8 (i := 68) rfl rfl)⟩, trivial, trivial⟩
theorem wd_12_340 : WD 12 (340, (7, 193, 1, 12, 1, 0)) := ⟨trivial, ⟨ck_193, rfl, (tc_8 (i := 69) rfl rfl), sm_193⟩, trivial⟩
theorem wd_12_343 : WD 12 (343, (7, 205, 1, 12, 1, 0)) := ⟨trivial, ⟨ck_205, rfl, (tc_8 (i := 72) rfl rfl), sm_205⟩, trivial⟩
theorem wd_12_346 : WD 12 (346, (1, 210, 1, 12, 0, 0)) := ⟨trivial, ⟨ck_210, (tc_8 (i := 76) rfl rfl), im_210, sl_210⟩, trivial⟩
theorem wd_12_350 : WD 12 (350, (1, 209, 2, 12, 1, 0)) := ⟨trivial, ⟨ck_209, (tc_8 (i := 86) rfl rfl), im_209, sl_209⟩, trivial⟩
theorem wd_12_354 : WD 12 (354, (1, 269, 1, 12, 1, 0)) := ⟨trivial, ⟨ck_269, (tc_8 (i := 114) rfl rfl), im_269, sl_269⟩, trivial⟩
theorem wd_12_358 : WD 12 (358, (1, 213, 2, 12, 1, 0)) := ⟨trivial, ⟨ck_213, (tc_8 (i := 130) rfl rfl), im_213, sl_213⟩, trivial⟩
theorem wd_12_361 : WD 12 (361, (1, 217, 4, 12, 1, 0)) := ⟨trivial, ⟨ck_217, (tc_8 (i := 150) rfl rfl), im_217, sl_217⟩, trivial⟩
theorem wd_12_364 : WD 12 (364, (1, 218, 4, 12, 1, 0)) := ⟨trivial, ⟨ck_218, (tc_8 (i := 146) rfl rfl), im_218, sl_218⟩, trivial⟩
theorem wd_12_367 : WD 12 (367, (5, 0, 0, 0, 0, 2)) := ⟨⟨by unfold r64; decide, (tc_8 (i := 158) rfl rfl)⟩, trivial, trivial⟩
theorem wd_12_369 : WD 12 (369, (0, 12, 31, 0, 0, 0)) := ⟨⟨by decide, by decide, rfl, rfl, rfl, (tc_6 (i := 212) rfl rfl), uw_12⟩, trivial, trivial⟩
theorem wd_12_372 : WD 12 (372, (1, 221, 1, 12, 0, 0)) := ⟨trivial, ⟨ck_221, (tc_8 (i := 163) rfl rfl), im_221, sl_221⟩, trivial⟩
theorem wd_12_375 : WD 12 (375, (0, 12, 54, 0, 0, 0)) := ⟨⟨by decide, by decide, rfl, rfl, rfl, (tc_6 (i := 235) rfl rfl), uw_12⟩, trivial, trivial⟩
theorem wd_12_378 : WD 12 (378, (0, 12, 53, 0, 0, 0)) := ⟨⟨by decide, by decide, rfl, rfl, rfl, (tc_6 (i := 234) rfl rfl), uw_12⟩, trivial, trivial⟩
theorem wd_12_381 : WD 12 (381, (1, 225, 0, 12, 1, 0)) := ⟨trivial, ⟨ck_225, (tc_8 (i := 188) rfl rfl), im_225, sl_225⟩, trivial⟩
theorem wd_12_385 : WD 12 (385, (1, 227, 1, 12, 1, 0)) := ⟨trivial, ⟨ck_227, (tc_8 (i := 184) rfl rfl), im_227, sl_227⟩, trivial⟩
theorem wd_12_389 : WD 12 (389, (1, 228, 0, 12, 0, 0)) := ⟨trivial, ⟨ck_228, (tc_8 (i := 192) rfl rfl), im_228, sl_228⟩, trivial⟩
theorem wd_12_392 : WD 12 (392, (1, 226, 1, 12, 1, 0)) := ⟨trivial, ⟨ck_226, (tc_8 (i := 225) rfl rfl), im_226, sl_226⟩, trivial⟩
theorem wd_12_395 : WD 12 (395, (1, 224, 2, 12, 1, 0)) := ⟨trivial, ⟨ck_224, (tc_8 (i := 196) rfl rfl), im_224, sl_224⟩, trivial⟩
theorem wd_12_398 : WD 12 (398, (0, 12, 57, 0, 0, 0)) := ⟨⟨by decide, by decide, rfl, rfl, rfl, (tc_6 (i := 238) rfl rfl), uw_12⟩, trivial, trivial⟩
theorem wd_12_401 : WD 12 (401, (4, 0, 0, 0, 0, 999999)) := ⟨⟨by unfold r32; decide, (tc_9 (i := 5) rfl rfl)⟩, trivial, trivial⟩
theorem wd_12_402 : WD 12 (402, (1, 230, 2, 12, 1, 0)) := ⟨trivial, ⟨ck_230, (tc_8 (i := 221) rfl rfl), im_230, sl_230⟩, trivial⟩
theorem wd_12_405 : WD 12 (405, (5, 0, 0, 0, 0, 116)) := ⟨⟨by unfold r64; decide, (tc_8 (i := 213) rfl rfl)⟩, trivial, trivial⟩
theorem wd_12_407 : WD 12 (407, (0, 12, 55, 0, 0, 0)) := ⟨⟨by decide, by decide, rfl, rfl, rfl, (tc_6 (i := 236) rfl rfl), uw_12⟩, trivial, trivial⟩
theorem wd_12_410 : WD 12 (410, (1, 233, 0, 12, 1, 0)) := ⟨trivial, ⟨ck_233, (tc_8 (i := 217) rfl rfl), im_233, sl_233⟩, trivial⟩
theorem wd_12_414 : WD 12 (414, (0, 12, 56, 0, 0, 0)) := ⟨⟨by decide, by decide, rfl, rfl, rfl, (tc_6 (i := 237) rfl rfl), uw_12⟩, trivial, trivial⟩
theorem wd_12_417 : WD 12 (417, (5, 0, 0, 0, 0, 7168376)) := ⟨⟨by unfold r64; decide, (tc_8 (i := 214) rfl rfl)⟩, trivial, trivial⟩
theorem wd_12_419 : WD 12 (419, (5, 0, 0, 0, 0, 7170414)) := ⟨⟨by unfold r64; decide, (tc_8 (i := 215) rfl rfl)⟩, trivial, trivial⟩
theorem wd_12_421 : WD 12 (421, (5, 0, 0, 0, 0, 6383461)) := ⟨⟨by unfold r64; decide, (tc_8 (i := 216) rfl rfl)⟩, trivial, trivial⟩
theorem wd_12_423 : WD 12 (423, (0, 12, 32, 0, 0, 0)) := ⟨⟨by decide, by decide, rfl, rfl, rfl, (tc_6 (i := 213) rfl rfl), uw_12⟩, trivial, trivial⟩
theorem wd_12_426 : WD 12 (426, (1, 234, 0, 12, 1, 0)) := ⟨trivial, ⟨ck_234, (tc_8 (i := 229) rfl rfl), im_234, sl_234⟩, trivial⟩
theorem wd_12_429 : WD 12 (429, (1, 232, 0, 12, 1, 0)) := ⟨trivial, ⟨ck_232, (tc_8 (i := 233) rfl rfl), im_232, sl_232⟩, trivial⟩
theorem wd_12_432 : WD 12 (432, (1, 235, 1, 12, 1, 0)) := ⟨trivial, ⟨ck_235, (tc_8 (i := 237) rfl rfl), im_235, sl_235⟩, trivial⟩
theorem wd_12_435 : WD 12 (435, (1, 231, 0, 12, 1, 0)) := ⟨trivial, ⟨ck_231, (tc_9 (i := 1) rfl rfl), im_231, sl_231⟩, trivial⟩
theorem wd_12_438 : WD 12 (438, (0, 12, 59, 0, 0, 0)) := ⟨⟨by decide, by decide, rfl, rfl, rfl, (tc_7 (i := 0) rfl rfl), uw_12⟩, trivial, trivial⟩
theorem wd_12_441 : WD 12 (441, (1, 237, 2, 12, 0, 0)) := ⟨trivial, ⟨ck_237, (tc_9 (i := 6) rfl rfl), im_237, sl_237⟩, trivial⟩
theorem wd_12_445 : WD 12 (445, (1, 239, 1, 12, 1, 0)) := ⟨trivial, ⟨ck_239, (tc_9 (i := 14) rfl rfl), im_239, sl_239⟩, trivial⟩
theorem wd_12_448 : WD 12 (448, (1, 238, 1, 12, 0, 0)) := ⟨trivial, ⟨ck_238, (tc_9 (i := 18) rfl rfl), im_238, sl_238⟩, trivial⟩
theorem wd_12_451 : WD 12 (451, (0, 12, 58, 0, 0, 0)) := ⟨⟨by decide, by decide, rfl, rfl, rfl, (tc_6 (i := 239) rfl rfl), uw_12⟩, trivial, trivial⟩
theorem wd_12_454 : WD 12 (454, (5, 0, 0, 0, 0, 7237492)) := ⟨⟨by unfold r64; decide, (tc_8 (i := 204) rfl rfl)⟩, trivial, trivial⟩
theorem wd_12_456 : WD 12 (456, (1, 241, 1, 12, 1, 0)) := ⟨trivial, ⟨ck_241, (tc_8 (i := 205) rfl rfl), im_241, sl_241⟩, trivial⟩
theorem wd_12_459 : WD 12 (459, (1, 236, 0, 12, 1, 0)) := ⟨trivial, ⟨ck_236, (tc_8 (i := 209) rfl rfl), im_236, sl_236⟩, trivial⟩
theorem wd_12_462 : WD 12 (462, (1, 240, 1, 12, 0, 0)) := ⟨trivial, ⟨ck_240, (tc_9 (i := 10) rfl rfl), im_240, sl_240⟩, trivial⟩
theorem wd_12_465 : WD 12 (465, (1, 243, 0, 12, 1, 0)) := ⟨trivial, ⟨ck_243, (tc_9 (i := 22) rfl rfl), im_243, sl_243⟩, trivial⟩
theorem wd_12_468 : WD 12 (468, (5, 0, 0, 0, 0, 6385252)) := ⟨⟨by unfold r64; decide, (tc_9 (i := 26) rfl rfl)⟩, trivial, trivial⟩
theorem wd_12_470 : WD 12 (470, (5, 0, 0, 0, 0, 28530)) := ⟨⟨by unfold r64; decide, (tc_9 (i := 27) rfl rfl)⟩, trivial, trivial⟩
theorem wd_12_472 : WD 12 (472, (5, 0, 0, 0, 0, 2003399528)) := ⟨⟨by unfold r64; decide, (tc_9 (i := 34) rfl rfl)⟩, trivial, trivial⟩
theorem wd_12_474 : WD 12 (474, (5, 0, 0, 0, 0, 478660552050)) := ⟨⟨by unfold r64; decide, (tc_9 (i := 35) rfl rfl)⟩, trivial, trivial⟩
theorem wd_12_476 : WD 12 (476, (5, 0, 0, 0, 0, 2003330414)) := ⟨⟨by unfold r64; decide, (tc_8 (i := 179) rfl rfl)⟩, trivial, trivial⟩
theorem wd_12_478 : WD 12 (478, (1, 229, 1, 12, 1, 0)) := ⟨trivial, ⟨ck_229, (tc_8 (i := 180) rfl rfl), im_229, sl_229⟩, trivial⟩
theorem wd_12_481 : WD 12 (481, (1, 242, 1, 12, 1, 0)) := ⟨trivial, ⟨ck_242, (tc_8 (i := 200) rfl rfl), im_242, sl_242⟩, trivial⟩
theorem wd_12_484 : WD 12 (484, (5, 0, 0, 0, 0, 6713202)) := ⟨⟨by unfold r64; decide, (tc_9 (i := 28) rfl rfl)⟩, trivial, trivial⟩
theorem wd_12_486 : WD 12 (486, (5, 0, 0, 0, 0, 129117125440371)) := ⟨⟨by unfold r64; decide, (tc_9 (i := 29) rfl rfl)⟩, trivial, trivial⟩
theorem wd_12_488 : WD 12 (488, (1, 244, 0, 12, 1, 0)) := ⟨trivial, ⟨ck_244, (tc_9 (i := 30) rfl rfl), im_244, sl_244⟩, trivial⟩
theorem wd_12_491 : WD 12 (491, (1, 245, 0, 12, 1, 0)) := ⟨trivial, ⟨ck_245, (tc_8 (i := 175) rfl rfl), im_245, sl_245⟩, trivial⟩
theorem wd_12_494 : WD 12 (494, (1, 247, 1, 12, 1, 0)) := ⟨trivial, ⟨ck_247, (tc_9 (i := 40) rfl rfl), im_247, sl_247⟩, trivial⟩
theorem wd_12_497 : WD 12 (497, (0, 12, 61, 0, 0, 0)) := ⟨⟨by decide, by decide, rfl, rfl, rfl, (tc_7 (i := 2) rfl rfl), uw_12⟩, trivial, trivial⟩
theorem wd_12_500 : WD 12 (500, (1, 251, 2, 12, 1, 0)) := ⟨trivial, ⟨ck_251, (tc_9 (i := 64) rfl rfl), im_251, sl_251⟩, trivial⟩
theorem wd_12_503 : WD 12 (503, (1, 250, 2, 12, 1, 0)) := ⟨trivial, ⟨ck_250, (tc_9 (i := 68) rfl rfl), im_250, sl_250⟩, trivial⟩
theorem wd_12_506 : WD 12 (506, (1, 249, 3, 12, 1, 0)) := ⟨trivial, ⟨ck_249, (tc_9 (i := 56) rfl rfl), im_249, sl_249⟩, trivial⟩
theorem wd_12_510 : WD 12 (510, (0, 12, 63, 1, 0, 0)) := ⟨⟨by decide, by decide, rfl, rfl, rfl, (tc_7 (i := 4) rfl rfl), uw_12⟩, trivial, trivial⟩
theorem wd_12_514 : WD 12 (514, (1, 252, 2, 12, 1, 0)) := ⟨trivial, ⟨ck_252, (tc_9 (i := 60) rfl rfl), im_252, sl_252⟩, trivial⟩
theorem wd_12_517 : WD 12 (517, (1, 253, 3, 12, 1, 0)) := ⟨trivial, ⟨ck_253, (tc_9 (i := 52) rfl rfl), im_253, sl_253⟩, trivial⟩
theorem wd_12_520 : WD 12 (520, (1, 254, 1, 12, 1, 0)) := ⟨trivial, ⟨ck_254, (tc_9 (i := 72) rfl rfl), im_254, sl_254⟩, trivial⟩
theorem wd_12_523 : WD 12 (523, (1, 255, 3, 12, 1, 0)) := ⟨trivial, ⟨ck_255, (tc_9 (i := 48) rfl rfl), im_255, sl_255⟩, trivial⟩
theorem wd_12_526 : WD 12 (526, (0, 12, 64, 0, 0, 0)) := ⟨⟨by decide, by decide, rfl, rfl, rfl, (tc_7 (i := 5) rfl rfl), uw_12⟩, trivial, trivial⟩
theorem wd_12_529 : WD 12 (529, (0, 12, 73, 0, 0, 0)) := ⟨⟨by decide, by decide, rfl, rfl, rfl, (tc_7 (i := 14) rfl rfl), uw_12⟩, trivial, trivial⟩
theorem wd_12_532 : WD 12 (532, (1, 257, 1, 12, 1, 0)) := ⟨trivial, ⟨ck_257, (tc_9 (i := 84) rfl rfl), im_257, sl_257⟩, trivial⟩
theorem wd_12_535 : WD 12 (535, (1, 262, 4, 12, 0, 0)) := ⟨trivial, ⟨ck_262, (tc_9 (i := 88) rfl rfl), im_262, sl_262⟩, trivial⟩
theorem wd_12_539 : WD 12 (539, (1, 266, 3, 12, 1, 0)) := ⟨trivial, ⟨ck_266, (tc_9 (i := 92) rfl rfl), im_266, sl_266⟩, trivial⟩
theorem wd_12_543 : WD 12 (543, (1, 258, 1, 12, 0, 0)) := ⟨trivial, ⟨ck_258, (tc_9 (i := 80) rfl rfl), im_258, sl_258⟩, trivial⟩
theorem wd_12_546 : WD 12 (546, (5, 0, 0, 0, 0, 9)) := ⟨⟨by unfold r64; decide, (tc_9 (i := 104) rfl rfl)⟩, trivial, trivial⟩
theorem wd_12_548 : WD 12 (548, (0, 12, 72, 0, 0, 0)) := ⟨⟨by decide, by decide, rfl, rfl, rfl, (tc_7 (i := 13) rfl rfl), uw_12⟩, trivial, trivial⟩
theorem wd_12_551 : WD 12 (551, (1, 264, 2, 12, 1, 0)) := ⟨trivial, ⟨ck_264, (tc_9 (i := 113) rfl rfl), im_264, sl_264⟩, trivial⟩
theorem wd_12_554 : WD 12 (554, (5, 0, 0, 0, 0, 60)) := ⟨⟨by unfold r64; decide, (tc_9 (i := 121) rfl rfl)⟩, trivial, trivial⟩
theorem wd_12_556 : WD 12 (556, (5, 0, 0, 0, 0, 3999)) := ⟨⟨by unfold r64; decide, (tc_9 (i := 122) rfl rfl)⟩, trivial, trivial⟩
theorem wd_12_558 : WD 12 (558, (1, 268, 1, 12, 1, 0)) := ⟨trivial, ⟨ck_268, (tc_8 (i := 118) rfl rfl), im_268, sl_268⟩, trivial⟩
theorem wd_12_561 : WD 12 (561, (0, 12, 79, 0, 0, 0)) := ⟨⟨by decide, by decide, rfl, rfl, rfl, (tc_7 (i := 20) rfl rfl), uw_12⟩, trivial, trivial⟩
theorem wd_12_564 : WD 12 (564, (0, 12, 90, 0, 0, 0)) := ⟨⟨by decide, by decide, rfl, rfl, rfl, (tc_7 (i := 31) rfl rfl), uw_12⟩, trivial, trivial⟩
theorem wd_12_567 : WD 12 (567, (1, 275, 2, 12, 0, 0)) := ⟨trivial, ⟨ck_275, (tc_9 (i := 151) rfl rfl), im_275, sl_275⟩, trivial⟩
theorem wd_12_570 : WD 12 (570, (0, 12, 92, 0, 0, 0)) := ⟨⟨by decide, by decide, rfl, rfl, rfl, (tc_7 (i := 33) rfl rfl), uw_12⟩, trivial, trivial⟩
theorem wd_12_573 : WD 12 (573, (1, 273, 1, 12, 1, 0)) := ⟨trivial, ⟨ck_273, (tc_9 (i := 139) rfl rfl), im_273, sl_273⟩, trivial⟩
theorem wd_12_576 : WD 12 (576, (1, 274, 0, 12, 1, 0)) := ⟨trivial, ⟨ck_274, (tc_9 (i := 143) rfl rfl), im_274, sl_274⟩, trivial⟩
theorem wd_12_579 : WD 12 (579, (1, 276, 0, 12, 1, 0)) := ⟨trivial, ⟨ck_276, (tc_9 (i := 147) rfl rfl), im_276, sl_276⟩, trivial⟩
theorem wd_12_582 : WD 12 (582, (1, 277, 1, 12, 0, 0)) := ⟨trivial, ⟨ck_277, (tc_9 (i := 155) rfl rfl), im_277, sl_277⟩, trivial⟩
theorem wd_12_585 : WD 12 (585, (1, 278, 1, 12, 1, 0)) := ⟨trivial, ⟨ck_278, (tc_9 (i := 159) rfl rfl), im_278, sl_278⟩, trivial⟩
theorem wd_12_588 : WD 12 (588, (0, 12, 96, 0, 0, 0)) := ⟨⟨by decide, by decide, rfl, rfl, rfl, (tc_7 (i := 37) rfl rfl), uw_12⟩, trivial, trivial⟩
theorem wd_12_591 : WD 12 (591, (1, 279, 0, 12, 0, 0)) := ⟨trivial, ⟨ck_279, (tc_9 (i := 163) rfl rfl), im_279, sl_279⟩, trivial⟩
theorem wd_12_594 : WD 12 (594, (0, 12, 87, 0, 0, 0)) := ⟨⟨by decide, by decide, rfl, rfl, rfl, (tc_7 (i := 28) rfl rfl), uw_12⟩, trivial, trivial⟩
theorem wd_12_597 : WD 12 (597, (1, 282, 1, 12, 1, 0)) := ⟨trivial, ⟨ck_282, (tc_9 (i := 175) rfl rfl), im_282, sl_282⟩, trivial⟩
theorem wd_12_600 : WD 12 (600, (1, 284, 1, 12, 1, 0)) := ⟨trivial, ⟨ck_284, (tc_9 (i := 183) rfl rfl), im_284, sl_284⟩, trivial⟩
theorem wd_12_603 : WD 12 (603, (1, 283, 0, 12, 1, 0)) := ⟨trivial, ⟨ck_283, (tc_9 (i := 187) rfl rfl), im_283, sl_283⟩, trivial⟩
theorem wd_12_606 : WD 12 (606, (1, 281, 0, 12, 0, 0)) := ⟨trivial, ⟨ck_281, (tc_9 (i := 171) rfl rfl), im_281, sl_281⟩, trivial⟩
theorem wd_12_609 : WD 12 (609, (1, 285, 0, 12, 1, 0)) := ⟨trivial, ⟨ck_285, (tc_9 (i := 179) rfl rfl), im_285, sl_285⟩, trivial⟩
theorem wd_12_612 : WD 12 (612, (0, 12, 100, 0, 0, 0)) := ⟨⟨by decide, by decide, rfl, rfl, rfl, (tc_7 (i := 41) rfl rfl), uw_12⟩, trivial, trivial⟩
theorem wd_12_615 : WD 12 (615, (5, 0, 0, 0, 0, 1000000000)) := ⟨⟨by unfold r64; decide, (tc_9 (i := 199) rfl rfl)⟩, trivial, trivial⟩
theorem wd_12_617 : WD 12 (617, (1, 289, 4, 12, 1, 0)) := ⟨trivial, ⟨ck_289, (tc_9 (i := 208) rfl rfl), im_289, sl_289⟩, trivial⟩
theorem wd_12_621 : WD 12 (621, (1, 290, 3, 12, 1, 0)) := ⟨trivial, ⟨ck_290, (tc_9 (i := 204) rfl rfl), im_290, sl_290⟩, trivial⟩
theorem wd_12_625 : WD 12 (625, (7, 294, 1, 12, 1, 0)) := ⟨trivial, ⟨ck_294, rfl, (tc_9 (i := 224) rfl rfl), sm_294⟩, trivial⟩
theorem wd_12_628 : WD 12 (628, (5, 0, 0, 0, 0, 1000)) := ⟨⟨by unfold r64; decide, (tc_9 (i := 231) rfl rfl)⟩, trivial, trivial⟩
theorem wd_12_630 : WD 12 (630, (7, 298, 2, 12, 2, 0)) := ⟨trivial, ⟨ck_298, rfl, (tc_10 (i := 5) rfl rfl), sm_298⟩, trivial⟩
theorem wd_12_634 : WD 12 (634, (5, 0, 0, 0, 0, 999)) := ⟨⟨by unfold r64; decide, (tc_9 (i := 236) rfl rfl)⟩, trivial, trivial⟩
theorem wd_12_636 : WD 12 (636, (1, 297, 1, 12, 1, 0)) := ⟨trivial, ⟨ck_297, (tc_9 (i := 237) rfl rfl), im_297, sl_297⟩, trivial⟩
theorem wd_12_639 : WD 12 (639, (1, 299, 1, 12, 1, 0)) := ⟨trivial, ⟨ck_299, (tc_10 (i := 1) rfl rfl), im_299, sl_299⟩, trivial⟩
def al_12 : List (Nat × PE) := [(1, (2, 0, 0, 0, 0, 0)), (7, (0, 12, 1, 3, 1, 0)), (13, (0, 12, 2, 3, 1, 0)), (16, (0, 12, 3, 3, 1, 0)), (19, (0, 12, 4, 3, 1, 0)), (22, (0, 12, 5, 3, 1, 0)), (25, (0, 12, 7, 3, 1, 0)), (28, (0, 12, 8, 3, 1, 0)), (31, (0, 12, 9, 3, 1, 0)), (34, (0, 12, 10, 3, 1, 0)), (37, (0, 12, 11, 3, 1, 0)), (40, (0, 12, 12, 3, 1, 0)), (43, (0, 12, 14, 3, 1, 0)), (46, (0, 12, 15, 3, 1, 0)), (49, (0, 12, 16, 3, 1, 0)), (52, (0, 12, 17, 3, 1, 0)), (55, (0, 12, 18, 3, 1, 0)), (58, (0, 12, 19, 3, 1, 0)), (61, (0, 12, 20, 3, 1, 0)), (64, (0, 12, 21, 3, 1, 0)), (68, (0, 12, 22, 3, 1, 0)), (71, (0, 12, 23, 3, 1, 0)), (74, (0, 12, 24, 3, 1, 0)), (77, (0, 12, 25, 3, 1, 0)), (80, (0, 12, 26, 3, 1, 0)), (83, (0, 12, 28, 3, 1, 0)), (86, (0, 12, 29, 3, 1, 0)), (89, (0, 12, 30, 3, 1, 0)), (93, (0, 12, 33, 3, 1, 0)), (96, (0, 12, 34, 3, 1, 0)), (99, (0, 12, 35, 3, 1, 0)), (102, (0, 12, 36, 3, 1, 0)), (105, (0, 12, 37, 3, 1, 0)), (108, (0, 12, 38, 3, 1, 0)), (111, (0, 12, 39, 3, 1, 0)), (114, (0, 12, 40, 3, 1, 0)), (117, (0, 12, 41, 3, 1, 0)), (120, (0, 12, 42, 3, 1, 0)), (123, (0, 12, 43, 3, 1, 0)), (126, (0, 12, 44, 3, 1, 0)), (129, (0, 12, 45, 3, 1, 0)), (132, (0, 12, 46, 3, 1, 0)), (135, (0, 12, 47, 3, 1, 0)), (138, (0, 12, 48, 3, 1, 0)), (141, (0, 12, 49, 3, 1, 0)), (144, (0, 12, 50, 3, 1, 0)), (147, (0, 12, 51, 3, 1, 0)), (150, (0, 12, 52, 3, 1, 0)), (153, (0, 12, 60, 3, 1, 0)), (156, (0, 12, 62, 3, 1, 0)), (159, (0, 12, 65, 3, 1, 0)), (162, (0, 12, 66, 3, 1, 0)), (165, (0, 12, 67, 3, 1, 0)), (168, (0, 12, 68, 3, 1, 0)), (171, (0, 12, 69, 3, 1, 0)), (174, (0, 12, 70, 3, 1, 0)), (177, (0, 12, 71, 3, 1, 0)), (180, (0, 12, 74, 3, 1, 0)), (183, (0, 12, 75, 3, 1, 0)), (186, (0, 12, 76, 3, 1, 0)), (189, (0, 12, 77, 3, 1, 0)), (192, (0, 12, 78, 3, 1, 0)), (195, (0, 12, 80, 3, 1, 0)), (198, (0, 12, 81, 3, 1, 0)), (201, (0, 12, 82, 3, 1, 0)), (204, (0, 12, 83, 3, 1, 0)), (207, (0, 12, 84, 3, 1, 0)), (210, (0, 12, 85, 3, 1, 0)), (213, (0, 12, 86, 3, 1, 0)), (216, (0, 12, 88, 3, 1, 0)), (219, (0, 12, 89, 3, 1, 0)), (222, (0, 12, 91, 3, 1, 0)), (225, (0, 12, 93, 3, 1, 0)), (228, (0, 12, 94, 3, 1, 0)), (231, (0, 12, 95, 3, 1, 0)), (234, (0, 12, 97, 3, 1, 0)), (237, (0, 12, 98, 3, 1, 0)), (240, (0, 12, 99, 3, 1, 0)), (243, (0, 12, 101, 3, 1, 0)), (246, (0, 12, 102, 3, 1, 0)), (250, (0, 12, 103, 3, 1, 0)), (253, (5, 0, 0, 0, 0, (-1))), (255, (0, 12, 104, 2, 0, 0)), (259, (0, 12, 105, 3, 1, 0)), (262, (0, 12, 106, 3, 1, 0)), (265, (0, 12, 107, 3, 1, 0)), (268, (0, 12, 108, 3, 1, 0)), (271, (0, 12, 109, 3, 1, 0)), (274, (0, 12, 6, 0, 0, 0)), (278, (5, 0, 0, 0, 0, 7)), (280, (7, 192, 3, 12, 1, 0)), (284, (7, 196, 1, 12, 1, 0)), (288, (5, 0, 0, 0, 0, (-100000))), (290, (5, 0, 0, 0, 0, 100000)), (292, (5, 0, 0, 0, 0, 10000)), (294, (5, 0, 0, 0, 0, 500)), (296, (5, 0, 0, 0, 0, 9999)), (298, (1, 197, 1, 12, 1, 0)), (301, (0, 12, 0, 0, 0, 0)), (304, (0, 12, 27, 0, 0, 0)), (307, (4, 0, 0, 0, 0, (-1000000))), (308, (1, 207, 4, 12, 1, 0)), (312, (1, 208, 4, 12, 1, 0)), (315, (1, 203, 2, 12, 1, 0)), (319, (1, 201, 2, 12, 1, 0)), (322, (7, 194, 2, 12, 1, 0)), (325, (7, 195, 2, 12, 1, 0)), (328, (1, 202, 2, 12, 1, 0)), (331, (1, 206, 5, 12, 1, 0)), (335, (0, 12, 13, 0, 0, 0)), (338, (5, 0, 0, 0, 0, 200)), (340, (7, 193, 1, 12, 1, 0)), (343, (7, 205, 1, 12, 1, 0)), (346, (1, 210, 1, 12, 0, 0)), (350, (1, 209, 2, 12, 1, 0)), (354, (1, 269, 1, 12, 1, 0)), (358, (1, 213, 2, 12, 1, 0)), (361, (1, 217, 4, 12, 1, 0)), (364, (1, 218, 4, 12, 1, 0)), (367, (5, 0, 0, 0, 0, 2)), (369, (0, 12, 31, 0, 0, 0)), (372, (1, 221, 1, 12, 0, 0)), (375, (0, 12, 54, 0, 0, 0)), (378, (0, 12, 53, 0, 0, 0)), (381, (1, 225, 0, 12, 1, 0)), (385, (1, 227, 1, 12, 1, 0)), (389, (1, 228, 0, 12, 0, 0)), (392, (1, 226, 1, 12, 1, 0)), (395, (1, 224, 2, 12, 1, 0)), (398, (0, 12, 57, 0, 0, 0)), (401, (4, 0, 0, 0, 0, 999999)), (402, (1, 230, 2, 12, 1, 0)), (405, (5, 0, 0, 0, 0, 116)), (407, (0, 12, 55, 0, 0, 0)), (410, (1, 233, 0, 12, 1, 0)), (414, (0, 12, 56, 0, 0, 0)), (417, (5, 0, 0, 0, 0, 7168376)), (419, (5, 0, 0, 0, 0, 7170414)), (421, (5, 0, 0, 0, 0, 6383461)), (423, (0, 12, 32, 0, 0, 0)), (426, (1, 234, 0, 12, 1, 0)), (429, (1, 232, 0, 12, 1, 0)), (432, (1, 235, 1, 12, 1, 0)), (435, (1, 231, 0, 12, 1, 0)), (438, (0, 12, 59, 0, 0, 0)), (441, (1, 237, 2, 12, 0, 0)), (445, (1, 239, 1, 12, 1, 0)), (448, (1, 238, 1, 12, 0, 0)), (451, (0, 12, 58, 0, 0, 0)), (454, (5, 0, 0, 0, 0, 7237492)), (456, (1, 241, 1, 12, 1, 0)), (459, (1, 236, 0, 12, 1, 0)), (462, (1, 240, 1, 12, 0, 0)), (465, (1, 243, 0, 12, 1, 0)), (468, (5, 0, 0, 0, 0, 6385252)), (470, (5, 0, 0, 0, 0, 28530)), (472, (5, 0, 0, 0, 0, 2003399528)), (474, (5, 0, 0, 0, 0, 478660552050)), (476, (5, 0, 0, 0, 0, 2003330414)), (478, (1, 229, 1, 12, 1, 0)), (481, (1, 242, 1, 12, 1, 0)), (484, (5, 0, 0, 0, 0, 6713202)), (486, (5, 0, 0, 0, 0, 129117125440371)), (488, (1, 244, 0, 12, 1, 0)), (491, (1, 245, 0, 12, 1, 0)), (494, (1, 247, 1, 12, 1, 0)), (497, (0, 12, 61, 0, 0, 0)), (500, (1, 251, 2, 12, 1, 0)), (503, (1, 250, 2, 12, 1, 0)), (506, (1, 249, 3, 12, 1, 0)), (510, (0, 12, 63, 1, 0, 0)), (514, (1, 252, 2, 12, 1, 0)), (517, (1, 253, 3, 12, 1, 0)), (520, (1, 254, 1, 12, 1, 0)), (523, (1, 255, 3, 12, 1, 0)), (526, (0, 12, 64, 0, 0, 0)), (529, (0, 12, 73, 0, 0, 0)), (532, (1, 257, 1, 12, 1, 0)), (535, (1, 262, 4, 12, 0, 0)), (539, (1, 266, 3, 12, 1, 0)), (543, (1, 258, 1, 12, 0, 0)), (546, (5, 0, 0, 0, 0, 9)), (548, (0, 12, 72, 0, 0, 0)), (551, (1, 264, 2, 12, 1, 0)), (554, (5, 0, 0, 0, 0, 60)), (556, (5, 0, 0, 0, 0, 3999)), (558, (1, 268, 1, 12, 1, 0)), (561, (0, 12, 79, 0, 0, 0)), (564, (0, 12, 90, 0, 0, 0)), (567, (1, 275, 2, 12, 0, 0)), (570, (0, 12, 92, 0, 0, 0)), (573, (1, 273, 1, 12, 1, 0)), (576, (1, 274, 0, 12, 1, 0)), (579, (1, 276, 0, 12, 1, 0)), (582, (1, 277, 1, 12, 0, 0)), (585, (1, 278, 1, 12, 1, 0)), (588, (0, 12, 96, 0, 0, 0)), (591, (1, 279, 0, 12, 0, 0)), (594, (0, 12, 87, 0, 0, 0)), (597, (1, 282, 1, 12, 1, 0)), (600, (1, 284, 1, 12, 1, 0)), (603, (1, 283, 0, 12, 1, 0)), (606, (1, 281, 0, 12, 0, 0)), (609, (1, 285, 0, 12, 1, 0)), (612, (0, 12, 100, 0, 0, 0)), (615, (5, 0, 0, 0, 0, 1000000000)), (617, (1, 289, 4, 12, 1, 0)), (621, (1, 290, 3, 12, 1, 0)), (625, (7, 294, 1, 12, 1, 0)), (628, (5, 0, 0, 0, 0, 1000)), (630, (7, 298, 2, 12, 2, 0)), (634, (5, 0, 0, 0, 0, 999)), (636, (1, 297, 1, 12, 1, 0)), (639, (1, 299, 1, 12, 1, 0))]
set_option maxRecDepth 100000 in
theorem pw_12 : ∀ n q, pl_12 n = some q → WD 12 (n, q) := pl_sp (b := 640) (al := al_12) (by decide +kernel) (fun n h => by rw [pl_12, blt_F h]; rfl) (List.forall_mem_cons.mpr ⟨wd_12_1, (List.forall_mem_cons.mpr ⟨wd_12_7, (List.forall_mem_cons.mpr ⟨wd_12_13, (List.forall_mem_cons.mpr ⟨wd_12_16, (List.forall_mem_cons.mpr ⟨wd_12_19, (List.forall_mem_cons.mpr ⟨wd_12_22, (List.forall_mem_cons.mpr ⟨wd_12_25, (List.forall_mem_cons.mpr ⟨wd_12_28, (List.forall_mem_cons.mpr ⟨wd_12_31, (List.forall_mem_cons.mpr ⟨wd_12_34, (List.forall_mem_cons.mpr ⟨wd_12_37, (List.forall_mem_cons.mpr ⟨wd_12_40, (List.forall_mem_cons.mpr ⟨wd_12_43, (List.forall_mem_cons.mpr ⟨wd_12_46, (List.forall_mem_cons.mpr ⟨wd_12_49, (List.forall_mem_cons.mpr ⟨wd_12_52, (List.forall_mem_cons.mpr ⟨wd_12_55, (List.forall_mem_cons.mpr ⟨wd_12_58, (List.forall_mem_cons.mpr ⟨wd_12_61, (List.forall_mem_cons.mpr ⟨wd_12_64, (List.forall_mem_cons.mpr ⟨wd_12_68, (List.forall_mem_cons.mpr ⟨wd_12_71, (List.forall_mem_cons.mpr ⟨wd_12_74, (List.forall_mem_cons.mpr ⟨wd_12_77, (List.forall_mem_cons.mpr ⟨wd_12_80, (List.forall_mem_cons.mpr ⟨wd_12_83, (List.forall_mem_cons.mpr ⟨wd_12_86, (List.forall_mem_cons.mpr ⟨wd_12_89, (List.forall_mem_cons.mpr ⟨wd_12_93, (List.forall_mem_cons.mpr ⟨wd_12_96, (List.forall_mem_cons.mpr ⟨wd_12_99, (List.forall_mem_cons.mpr ⟨wd_12_102, (List.forall_mem_cons.mpr ⟨wd_12_105, (List.forall_mem_cons.mpr ⟨wd_12_108, (List.forall_mem_cons.mpr ⟨wd_12_111, (List.forall_mem_cons.mpr ⟨wd_12_114, (List.forall_mem_cons.mpr ⟨wd_12_117, (List.forall_mem_cons.mpr ⟨wd_12_120, (List.forall_mem_cons.mpr ⟨wd_12_123, (List.forall_mem_cons.mpr ⟨wd_12_126, (List.forall_mem_cons.mpr ⟨wd_12_129, (List.forall_mem_cons.mpr ⟨wd_12_132, (List.forall_mem_cons.mpr ⟨wd_12_135, (List.forall_mem_cons.mpr ⟨wd_12_138, (List.forall_mem_cons.mpr ⟨wd_12_141, (List.forall_mem_cons.mpr ⟨wd_12_144, (List.forall_mem_cons.mpr ⟨wd_12_147, (List.forall_mem_cons.mpr ⟨wd_12_150, (List.forall_mem_cons.mpr ⟨wd_12_153, (List.forall_mem_cons.mpr ⟨wd_12_156, (List.forall_mem_cons.mpr ⟨wd_12_159, (List.forall_mem_cons.mpr ⟨wd_12_162, (List.forall_mem_cons.mpr ⟨wd_12_165, (List.forall_mem_cons.mpr ⟨wd_12_168, (List.forall_mem_cons.mpr ⟨wd_12_171, (List.forall_mem_cons.mpr ⟨wd_12_174, (List.forall_mem_cons.mpr ⟨wd_12_177, (List.forall_mem_cons.mpr ⟨wd_12_180, (List.forall_mem_cons.mpr ⟨wd_12_183, (List.forall_mem_cons.mpr ⟨wd_12_186, (List.forall_mem_cons.mpr ⟨wd_12_189, (List.forall_mem_cons.mpr ⟨wd_12_192, (List.forall_mem_cons.mpr ⟨wd_12_195, (List.forall_mem_cons.mpr ⟨wd_12_198, (List.forall_mem_cons.mpr ⟨wd_12_201, (List.forall_mem_cons.mpr ⟨wd_12_204, (List.forall_mem_cons.mpr ⟨wd_12_207, (List.forall_mem_cons.mpr ⟨wd_12_210, (List.forall_mem_cons.mpr ⟨wd_12_213, (List.forall_mem_cons.mpr ⟨wd_12_216, (List.forall_mem_cons.mpr ⟨wd_12_219, (List.forall_mem_cons.mpr ⟨wd_12_222, (List.forall_mem_cons.mpr ⟨wd_12_225, (List.forall_mem_cons.mpr ⟨wd_12_228, (List.forall_mem_cons.mpr ⟨wd_12_231, (List.forall_mem_cons.mpr ⟨wd_12_234, (List.forall_mem_cons.mpr ⟨wd_12_237, (List.forall_mem_cons.mpr ⟨wd_12_240, (List.forall_mem_cons.mpr ⟨wd_12_243, (List.forall_mem_cons.mpr ⟨wd_12_246, (List.forall_mem_cons.mpr ⟨wd_12_250, (List.forall_mem_cons.mpr ⟨wd_12_253, (List.forall_mem_cons.mpr ⟨wd_12_255, (List.forall_mem_cons.mpr ⟨wd_12_259, (List.forall_mem_cons.mpr ⟨wd_12_262, (List.forall_mem_cons.mpr ⟨wd_12_265, (List.forall_mem_cons.mpr ⟨wd_12_268, (List.forall_mem_cons.mpr ⟨wd_12_271, (List.forall_mem_cons.mpr ⟨wd_12_274, (List.forall_mem_cons.mpr ⟨wd_12_278, (List.forall_mem_cons.mpr ⟨wd_12_280, (List.forall_mem_cons.mpr ⟨wd_12_284, (List.forall_mem_cons.mpr ⟨wd_12_288, (List.forall_mem_cons.mpr ⟨wd_12_290, (List.forall_mem_cons.mpr ⟨wd_12_292, (List.forall_mem_cons.mpr ⟨wd_12_294, (List.forall_mem_cons.mpr ⟨wd_12_296, (List.forall_mem_cons.mpr ⟨wd_12_298, (List.forall_mem_cons.mpr ⟨wd_12_301, (List.forall_mem_cons.mpr ⟨wd_12_304, (List.forall_mem_cons.mpr ⟨wd_12_307, (List.forall_mem_cons.mpr ⟨wd_12_308, (List.forall_mem_cons.mpr ⟨wd_12_312, (List.forall_mem_cons.mpr ⟨wd_12_315, (List.forall_mem_cons.mpr ⟨wd_12_319, (List.forall_mem_cons.mpr ⟨wd_12_322, (List.forall_mem_cons.mpr ⟨wd_12_325, (List.forall_mem_cons.mpr ⟨wd_12_328, (List.forall_mem_cons.mpr ⟨wd_12_331, (List.forall_mem_cons.mpr ⟨wd_12_335, (List.forall_mem_cons.mpr ⟨wd_12_338, (List.forall_mem_cons.mpr ⟨wd_12_340, (List.forall_mem_cons.mpr ⟨wd_12_343, (List.forall_mem_cons.mpr ⟨wd_12_346, (List.forall_mem_cons.mpr ⟨wd_12_350, (List.forall_mem_cons.mpr ⟨wd_12_354, (List.forall_mem_cons.mpr ⟨wd_12_358, (List.forall_mem_cons.mpr ⟨wd_12_361, (List.forall_mem_cons.mpr ⟨wd_12_364, (List.forall_mem_cons.mpr ⟨wd_12_367, (List.forall_mem_cons.mpr ⟨wd_12_369, (List.forall_mem_cons.mpr ⟨wd_12_372, (List.forall_mem_cons.mpr ⟨wd_12_375, (List.forall_mem_cons.mpr ⟨wd_12_378, (List.forall_mem_cons.mpr ⟨wd_12_381, (List.forall_mem_cons.mpr ⟨wd_12_385, (List.forall_mem_cons.mpr ⟨wd_12_389, (List.forall_mem_cons.mpr ⟨wd_12_392, (List.forall_mem_cons.mpr ⟨wd_12_395, (List.forall_mem_cons.mpr ⟨wd_12_398, (List.forall_mem_cons.mpr ⟨wd_12_401, (List.forall_mem_cons.mpr ⟨wd_12_402, (List.forall_mem_cons.mpr ⟨wd_12_405, (List.forall_mem_cons.mpr ⟨wd_12_407, (List.forall_mem_cons.mpr ⟨wd_12_410, (List.forall_mem_cons.mpr ⟨wd_12_414, (List.forall_mem_cons.mpr ⟨wd_12_417, (List.forall_mem_cons.mpr ⟨wd_12_419, (List.forall_mem_cons.mpr ⟨wd_12_421, (List.forall_mem_cons.mpr ⟨wd_12_423, (List.forall_mem_cons.mpr ⟨wd_12_426, (List.forall_mem_cons.mpr ⟨wd_12_429, (List.forall_mem_cons.mpr ⟨wd_12_432, (List.forall_mem_cons.mpr ⟨wd_12_435, (List.forall_mem_cons.mpr ⟨wd_12_438, (List.forall_mem_cons.mpr ⟨wd_12_441, (List.forall_mem_cons.mpr ⟨wd_12_445, (List.forall_mem_cons.mpr ⟨wd_12_448, (List.forall_mem_cons.mpr ⟨wd_12_451, (List.forall_mem_cons.mpr ⟨wd_12_454, (List.forall_mem_cons.mpr ⟨wd_12_456, (List.forall_mem_cons.mpr ⟨wd_12_459, (List.forall_mem_cons.mpr ⟨wd_12_462, (List.forall_mem_cons.mpr ⟨wd_12_465, (List.forall_mem_cons.mpr ⟨wd_12_468, (List.forall_mem_cons.mpr ⟨wd_12_470, (List.forall_mem_cons.mpr ⟨wd_12_472, (List.forall_mem_cons.mpr ⟨wd_12_474, (List.forall_mem_cons.mpr ⟨wd_12_476, (List.forall_mem_cons.mpr ⟨wd_12_478, (List.forall_mem_cons.mpr ⟨wd_12_481, (List.forall_mem_cons.mpr ⟨wd_12_484, (List.forall_mem_cons.mpr ⟨wd_12_486, (List.forall_mem_cons.mpr ⟨wd_12_488, (List.forall_mem_cons.mpr ⟨wd_12_491, (List.forall_mem_cons.mpr ⟨wd_12_494, (List.forall_mem_cons.mpr ⟨wd_12_497, (List.forall_mem_cons.mpr ⟨wd_12_500, (List.forall_mem_cons.mpr ⟨wd_12_503, (List.forall_mem_cons.mpr ⟨wd_12_506, (List.forall_mem_cons.mpr ⟨wd_12_510, (List.forall_mem_cons.mpr ⟨wd_12_514, (List.forall_mem_cons.mpr ⟨wd_12_517, (List.forall_mem_cons.mpr ⟨wd_12_520, (List.forall_mem_cons.mpr ⟨wd_12_523, (List.forall_mem_cons.mpr ⟨wd_12_526, (List.forall_mem_cons.mpr ⟨wd_12_529, (List.forall_mem_cons.mpr ⟨wd_12_532, (List.forall_mem_cons.mpr ⟨wd_12_535, (List.forall_mem_cons.mpr ⟨wd_12_539, (List.forall_mem_cons.mpr ⟨wd_12_543, (List.forall_mem_cons.mpr ⟨wd_12_546, (List.forall_mem_cons.mpr ⟨wd_12_548, (List.forall_mem_cons.mpr ⟨wd_12_551, (List.forall_mem_cons.mpr ⟨wd_12_554, (List.forall_mem_cons.mpr ⟨wd_12_556, (List.forall_mem_cons.mpr ⟨wd_12_558, (List.forall_mem_cons.mpr ⟨wd_12_561, (List.forall_mem_cons.mpr ⟨wd_12_564, (List.forall_mem_cons.mpr ⟨wd_12_567, (List.forall_mem_cons.mpr ⟨wd_12_570, (List.forall_mem_cons.mpr ⟨wd_12_573, (List.forall_mem_cons.mpr ⟨wd_12_576, (List.forall_mem_cons.mpr ⟨wd_12_579, (List.forall_mem_cons.mpr ⟨wd_12_582, (List.forall_mem_cons.mpr ⟨wd_12_585, (List.forall_mem_cons.mpr ⟨wd_12_588, (List.forall_mem_cons.mpr ⟨wd_12_591, (List.forall_mem_cons.mpr ⟨wd_12_594, (List.forall_mem_cons.mpr ⟨wd_12_597, (List.forall_mem_cons.mpr ⟨wd_12_600, (List.forall_mem_cons.mpr ⟨wd_12_603, (List.forall_mem_cons.mpr ⟨wd_12_606, (List.forall_mem_cons.mpr ⟨wd_12_609, (List.forall_mem_cons.mpr ⟨wd_12_612, (List.forall_mem_cons.mpr ⟨wd_12_615, (List.forall_mem_cons.mpr ⟨wd_12_617, (List.forall_mem_cons.mpr ⟨wd_12_621, (List.forall_mem_cons.mpr ⟨wd_12_625, (List.forall_mem_cons.mpr ⟨wd_12_628, (List.forall_mem_cons.mpr ⟨wd_12_630, (List.forall_mem_cons.mpr ⟨wd_12_634, (List.forall_mem_cons.mpr ⟨wd_12_636, (List.forall_mem_cons.mpr ⟨wd_12_639, (fun p hp => by cases hp)⟩)⟩)⟩)⟩)⟩)⟩)⟩)⟩)⟩)⟩)⟩)⟩)⟩)⟩)⟩)⟩)⟩)⟩)⟩)⟩)⟩)⟩)⟩)⟩)⟩)⟩)⟩)⟩)⟩)⟩)⟩)⟩)⟩)⟩)⟩)⟩)⟩)⟩)⟩)⟩)⟩)⟩)⟩)⟩)⟩)⟩)⟩)⟩)⟩)⟩)⟩)⟩)⟩)⟩)⟩)⟩)⟩)⟩)⟩)⟩)⟩)⟩)⟩)⟩)⟩)⟩)⟩)⟩)⟩)⟩)⟩)⟩)⟩)⟩)⟩)⟩)⟩)⟩)⟩)⟩)⟩)⟩)⟩)⟩)⟩)⟩)⟩)⟩)⟩)⟩)⟩)⟩)⟩)⟩)⟩)⟩)⟩)⟩)⟩)⟩)⟩)⟩)⟩)⟩)⟩)⟩)⟩)⟩)⟩)⟩)⟩)⟩)⟩)⟩)⟩)⟩)⟩)⟩)⟩)⟩)⟩)⟩)⟩)⟩)⟩)⟩)⟩)⟩)⟩)⟩)⟩)⟩)⟩)⟩)⟩)⟩)⟩)⟩)⟩)⟩)⟩)⟩)⟩)⟩)⟩)⟩)⟩)⟩)⟩)⟩)⟩)⟩)⟩)⟩)⟩)⟩)⟩)⟩)⟩)⟩)⟩)⟩)⟩)⟩)⟩)⟩)⟩)⟩)⟩)⟩)⟩)⟩)⟩)⟩)⟩)⟩)⟩)⟩)⟩)⟩)⟩)⟩)⟩)⟩)⟩)⟩)⟩)⟩)⟩)⟩)⟩)⟩)⟩)⟩)⟩)⟩)⟩)⟩)⟩)⟩)⟩)⟩)⟩)⟩)⟩)⟩)⟩)⟩)⟩)⟩)⟩)⟩)⟩)⟩)
theorem wd_13_7 : WD 13 (7, (3, 11, 0, 0, 0, 0)) := ⟨⟨by decide, (tc_1 (i := 20) rfl rfl), (tc_1 (i := 21) rfl rfl), (tc_1 (i := 1) rfl rfl), uw_11⟩, trivial, trivial⟩
theorem wd_13_9 : WD 13 (9, (9, 147, 0, 11, 0, 0)) := ⟨trivial, ⟨ck_147, (tc_1 (i := 22) rfl rfl), im_147, rfl, rfl⟩, trivial⟩
theorem wd_13_10 : WD 13 (10, (3, 12, 0, 0, 0, 0)) := ⟨⟨by decide, (tc_6 (i := 174) rfl rfl), (tc_6 (i := 175) rfl rfl), (tc_1 (i := 13) rfl rfl), uw_12⟩, trivial, trivial⟩
theorem wd_13_12 : WD 13 (12, (9, 191, 0, 12, 0, 0)) := ⟨trivial, ⟨ck_191, (tc_6 (i := 176) rfl rfl), im_191, rfl, rfl⟩, trivial⟩
theorem wd_13_13 : WD 13 (13, (1, 148, 5, 11, 1, 0)) := ⟨trivial, ⟨ck_148, (tc_3 (i := 54) rfl rfl), im_148, sl_148⟩, trivial⟩
theorem wd_13_17 : WD 13 (17, (1, 198, 5, 12, 1, 0)) := ⟨trivial, ⟨ck_198, (tc_8 (i := 32) rfl rfl), im_198, sl_198⟩, trivial⟩
theorem wd_13_18 : WD 13 (18, (1, 149, 3, 11, 1, 0)) := ⟨trivial, ⟨ck_149, (tc_3 (i := 67) rfl rfl), im_149, sl_149⟩, trivial⟩
theorem wd_13_22 : WD 13 (22, (1, 199, 3, 12, 1, 0)) := ⟨trivial, ⟨ck_199, (tc_8 (i := 46) rfl rfl), im_199, sl_199⟩, trivial⟩
theorem wd_13_23 : WD 13 (23, (1, 150, 2, 11, 1, 0)) := ⟨trivial, ⟨ck_150, (tc_3 (i := 75) rfl rfl), im_150, sl_150⟩, trivial⟩
theorem wd_13_27 : WD 13 (27, (1, 200, 2, 12, 1, 0)) := ⟨trivial, ⟨ck_200, (tc_8 (i := 52) rfl rfl), im_200, sl_200⟩, trivial⟩
theorem wd_13_28 : WD 13 (28, (1, 151, 0, 11, 1, 0)) := ⟨trivial, ⟨ck_151, (tc_3 (i := 83) rfl rfl), im_151, sl_151⟩, trivial⟩
theorem wd_13_32 : WD 13 (32, (1, 259, 0, 12, 1, 0)) := ⟨trivial, ⟨ck_259, (tc_9 (i := 76) rfl rfl), im_259, sl_259⟩, trivial⟩
theorem wd_13_33 : WD 13 (33, (1, 152, 6, 11, 1, 0)) := ⟨trivial, ⟨ck_152, (tc_3 (i := 195) rfl rfl), im_152, sl_152⟩, trivial⟩
theorem wd_13_37 : WD 13 (37, (1, 211, 6, 12, 1, 0)) := ⟨trivial, ⟨ck_211, (tc_8 (i := 64) rfl rfl), im_211, sl_211⟩, trivial⟩
theorem wd_13_38 : WD 13 (38, (1, 153, 2, 11, 1, 0)) := ⟨trivial, ⟨ck_153, (tc_4 (i := 37) rfl rfl), im_153, sl_153⟩, trivial⟩
theorem wd_13_41 : WD 13 (41, (1, 212, 2, 12, 1, 0)) := ⟨trivial, ⟨ck_212, (tc_8 (i := 122) rfl rfl), im_212, sl_212⟩, trivial⟩
theorem wd_13_42 : WD 13 (42, (1, 154, 2, 11, 1, 0)) := ⟨trivial, ⟨ck_154, (tc_4 (i := 45) rfl rfl), im_154, sl_154⟩, trivial⟩
theorem wd_13_46 : WD 13 (46, (1, 204, 2, 12, 1, 0)) := ⟨trivial, ⟨ck_204, (tc_8 (i := 56) rfl rfl), im_204, sl_204⟩, trivial⟩
theorem wd_13_47 : WD 13 (47, (1, 155, 2, 11, 1, 0)) := ⟨trivial, ⟨ck_155, (tc_4 (i := 54) rfl rfl), im_155, sl_155⟩, trivial⟩
theorem wd_13_50 : WD 13 (50, (1, 214, 2, 12, 1, 0)) := ⟨trivial, ⟨ck_214, (tc_8 (i := 126) rfl rfl), im_214, sl_214⟩, trivial⟩
theorem wd_13_51 : WD 13 (51, (1, 156, 2, 11, 1, 0)) := ⟨trivial, ⟨ck_156, (tc_4 (i := 66) rfl rfl), im_156, sl_156⟩, trivial⟩
theorem wd_13_54 : WD 13 (54, (1, 215, 2, 12, 1, 0)) := ⟨trivial, ⟨ck_215, (tc_8 (i := 134) rfl rfl), im_215, sl_215⟩, trivial⟩
theorem wd_13_55 : WD 13 (55, (1, 157, 1, 11, 1, 0)) := ⟨trivial, ⟨ck_157, (tc_4 (i := 74) rfl rfl), im_157, sl_157⟩, trivial⟩
theorem wd_13_59 : WD 13 (59, (1, 216, 1, 12, 1, 0)) := ⟨trivial, ⟨ck_216, (tc_8 (i := 138) rfl rfl), im_216, sl_216⟩, trivial⟩
theorem wd_13_60 : WD 13 (60, (1, 158, 4, 11, 1, 0)) := ⟨trivial, ⟨ck_158, (tc_4 (i := 82) rfl rfl), im_158, sl_158⟩, trivial⟩
theorem wd_13_64 : WD 13 (64, (1, 219, 4, 12, 1, 0)) := ⟨trivial, ⟨ck_219, (tc_8 (i := 142) rfl rfl), im_219, sl_219⟩, trivial⟩
theorem wd_13_65 : WD 13 (65, (1, 159, 5, 11, 1, 0)) := ⟨trivial, ⟨ck_159, (tc_4 (i := 90) rfl rfl), im_159, sl_159⟩, trivial⟩
theorem wd_13_69 : WD 13 (69, (1, 220, 5, 12, 1, 0)) := ⟨trivial, ⟨ck_220, (tc_8 (i := 154) rfl rfl), im_220, sl_220⟩, trivial⟩
theorem wd_13_70 : WD 13 (70, (1, 160, 5, 11, 1, 0)) := ⟨trivial, ⟨ck_160, (tc_4 (i := 95) rfl rfl), im_160, sl_160⟩, trivial⟩
theorem wd_13_73 : WD 13 (73, (1, 222, 5, 12, 1, 0)) := ⟨trivial, ⟨ck_222, (tc_8 (i := 159) rfl rfl), im_222, sl_222⟩, trivial⟩
theorem wd_13_74 : WD 13 (74, (1, 161, 1, 11, 1, 0)) := ⟨trivial, ⟨ck_161, (tc_4 (i := 107) rfl rfl), im_161, sl_161⟩, trivial⟩
theorem wd_13_77 : WD 13 (77, (1, 223, 1, 12, 1, 0)) := ⟨trivial, ⟨ck_223, (tc_8 (i := 167) rfl rfl), im_223, sl_223⟩, trivial⟩
theorem wd_13_78 : WD 13 (78, (1, 162, 1, 11, 1, 0)) := ⟨trivial, ⟨ck_162, (tc_4 (i := 115) rfl rfl), im_162, sl_162⟩, trivial⟩
theorem wd_13_81 : WD 13 (81, (1, 246, 1, 12, 1, 0)) := ⟨trivial, ⟨ck_246, (tc_8 (i := 171) rfl rfl), im_246, sl_246⟩, trivial⟩
theorem wd_13_82 : WD 13 (82, (1, 163, 2, 11, 1, 0)) := ⟨trivial, ⟨ck_163, (tc_5 (i := 51) rfl rfl), im_163, sl_163⟩, trivial⟩
theorem wd_13_86 : WD 13 (86, (1, 248, 2, 12, 1, 0)) := ⟨trivial, ⟨ck_248, (tc_9 (i := 36) rfl rfl), im_248, sl_248⟩, trivial⟩
theorem wd_13_87 : WD 13 (87, (1, 164, 3, 11, 1, 0)) := ⟨trivial, ⟨ck_164, (tc_5 (i := 56) rfl rfl), im_164, sl_164⟩, trivial⟩
theorem wd_13_91 : WD 13 (91, (1, 256, 3, 12, 1, 0)) := ⟨trivial, ⟨ck_256, (tc_9 (i := 44) rfl rfl), im_256, sl_256⟩, trivial⟩
theorem wd_13_92 : WD 13 (92, (1, 165, 2, 11, 1, 0)) := ⟨trivial, ⟨ck_165, (tc_5 (i := 61) rfl rfl), im_165, sl_165⟩, trivial⟩
theorem wd_13_95 : WD 13 (95, (1, 260, 2, 12, 1, 0)) := ⟨trivial, ⟨ck_260, (tc_9 (i := 96) rfl rfl), im_260, sl_260⟩, trivial⟩
theorem wd_13_96 : WD 13 (96, (1, 166, 3, 11, 1, 0)) := ⟨trivial, ⟨ck_166, (tc_5 (i := 73) rfl rfl), im_166, sl_166⟩, trivial⟩
theorem wd_13_99 : WD 13 (99, (1, 261, 3, 12, 1, 0)) := ⟨trivial, ⟨ck_261, (tc_9 (i := 100) rfl rfl), im_261, sl_261⟩, trivial⟩
theorem wd_13_100 : WD 13 (100, (1, 167, 4, 11, 1, 0)) := ⟨trivial, ⟨ck_167, (tc_5 (i := 81) rfl rfl), im_167, sl_167⟩, trivial⟩
theorem wd_13_104 : WD 13 (104, (1, 263, 4, 12, 1, 0)) := ⟨trivial, ⟨ck_263, (tc_9 (i := 105) rfl rfl), im_263, sl_263⟩, trivial⟩
theorem wd_13_105 : WD 13 (105, (1, 168, 3, 11, 1, 0)) := ⟨trivial, ⟨ck_168, (tc_5 (i := 92) rfl rfl), im_168, sl_168⟩, trivial⟩
theorem wd_13_108 : WD 13 (108, (1, 265, 3, 12, 1, 0)) := ⟨trivial, ⟨ck_265, (tc_9 (i := 109) rfl rfl), im_265, sl_265⟩, trivial⟩
theorem wd_13_109 : WD 13 (109, (1, 169, 3, 11, 1, 0)) := ⟨trivial, ⟨ck_169, (tc_5 (i := 109) rfl rfl), im_169, sl_169⟩, trivial⟩
theorem wd_13_112 : WD 13 (112, (1, 267, 3, 12, 1, 0)) := ⟨trivial, ⟨ck_267, (tc_9 (i := 117) rfl rfl), im_267, sl_267⟩, trivial⟩
theorem wd_13_113 : WD 13 (113, (1, 170, 1, 11, 1, 0)) := ⟨trivial, ⟨ck_170, (tc_5 (i := 114) rfl rfl), im_170, sl_170⟩, trivial⟩
theorem wd_13_116 : WD 13 (116, (1, 270, 1, 12, 1, 0)) := ⟨trivial, ⟨ck_270, (tc_9 (i := 123) rfl rfl), im_270, sl_270⟩, trivial⟩
theorem wd_13_117 : WD 13 (117, (1, 171, 2, 11, 1, 0)) := ⟨trivial, ⟨ck_171, (tc_5 (i := 118) rfl rfl), im_171, sl_171⟩, trivial⟩
theorem wd_13_120 : WD 13 (120, (1, 271, 2, 12, 1, 0)) := ⟨trivial, ⟨ck_271, (tc_9 (i := 127) rfl rfl), im_271, sl_271⟩, trivial⟩
theorem wd_13_121 : WD 13 (121, (1, 172, 2, 11, 1, 0)) := ⟨trivial, ⟨ck_172, (tc_5 (i := 126) rfl rfl), im_172, sl_172⟩, trivial⟩
theorem wd_13_124 : WD 13 (124, (1, 272, 2, 12, 1, 0)) := ⟨trivial, ⟨ck_272, (tc_9 (i := 131) rfl rfl), im_272, sl_272⟩, trivial⟩
theorem wd_13_125 : WD 13 (125, (1, 173, 2, 11, 1, 0)) := ⟨trivial, ⟨ck_173, (tc_5 (i := 134) rfl rfl), im_173, sl_173⟩, trivial⟩
theorem wd_13_128 : WD 13 (128, (1, 280, 2, 12, 1, 0)) := ⟨trivial, ⟨ck_280, (tc_9 (i := 135) rfl rfl), im_280, sl_280⟩, trivial⟩
theorem wd_13_129 : WD 13 (129, (1, 174, 0, 11, 1, 0)) := ⟨trivial, ⟨ck_174, (tc_5 (i := 210) rfl rfl), im_174, sl_174⟩, trivial⟩
theorem wd_13_132 : WD 13 (132, (1, 286, 0, 12, 1, 0)) := ⟨trivial, ⟨ck_286, (tc_9 (i := 167) rfl rfl), im_286, sl_286⟩, trivial⟩
theorem wd_13_133 : WD 13 (133, (1, 175, 2, 11, 1, 0)) := ⟨trivial, ⟨ck_175, (tc_6 (i := 5) rfl rfl), im_175, sl_175⟩, trivial⟩
theorem wd_13_136 : WD 13 (136, (1, 287, 2, 12, 1, 0)) := ⟨trivial, ⟨ck_287, (tc_9 (i := 191) rfl rfl), im_287, sl_287⟩, trivial⟩
theorem wd_13_137 : WD 13 (137, (5, 0, 0, 0, 0, 4294967295)) := ⟨⟨by unfold r64; decide, (tc_10 (i := 32) rfl rfl)⟩, trivial, trivial⟩
theorem wd_13_139 : WD 13 (139, (1, 176, 3, 11, 1, 0)) := ⟨trivial, ⟨ck_176, (tc_6 (i := 14) rfl rfl), im_176, sl_176⟩, trivial⟩
theorem wd_13_143 : WD 13 (143, (1, 288, 3, 12, 1, 0)) := ⟨trivial, ⟨ck_288, (tc_9 (i := 195) rfl rfl), im_288, sl_288⟩, trivial⟩
theorem wd_13_144 : WD 13 (144, (1, 177, 2, 11, 1, 0)) := ⟨trivial, ⟨ck_177, (tc_6 (i := 24) rfl rfl), im_177, sl_177⟩, trivial⟩
theorem wd_13_147 : WD 13 (147, (1, 291, 2, 12, 1, 0)) := ⟨trivial, ⟨ck_291, (tc_9 (i := 200) rfl rfl), im_291, sl_291⟩, trivial⟩
theorem wd_13_148 : WD 13 (148, (1, 178, 1, 11, 1, 0)) := ⟨trivial, ⟨ck_178, (tc_6 (i := 44) rfl rfl), im_178, sl_178⟩, trivial⟩
theorem wd_13_151 : WD 13 (151, (1, 292, 1, 12, 1, 0)) := ⟨trivial, ⟨ck_292, (tc_9 (i := 212) rfl rfl), im_292, sl_292⟩, trivial⟩
theorem wd_13_152 : WD 13 (152, (1, 179, 0, 11, 2, 0)) := ⟨trivial, ⟨ck_179, (tc_6 (i := 83) rfl rfl), im_179, sl_179⟩, trivial⟩
theorem wd_13_156 : WD 13 (156, (1, 293, 0, 12, 2, 0)) := ⟨trivial, ⟨ck_293, (tc_9 (i := 216) rfl rfl), im_293, sl_293⟩, trivial⟩
theorem wd_13_157 : WD 13 (157, (1, 180, 2, 11, 1, 0)) := ⟨trivial, ⟨ck_180, (tc_6 (i := 87) rfl rfl), im_180, sl_180⟩, trivial⟩
theorem wd_13_160 : WD 13 (160, (1, 295, 2, 12, 1, 0)) := ⟨trivial, ⟨ck_295, (tc_9 (i := 220) rfl rfl), im_295, sl_295⟩, trivial⟩
theorem wd_13_161 : WD 13 (161, (1, 181, 3, 11, 1, 0)) := ⟨trivial, ⟨ck_181, (tc_6 (i := 99) rfl rfl), im_181, sl_181⟩, trivial⟩
theorem wd_13_164 : WD 13 (164, (1, 296, 3, 12, 1, 0)) := ⟨trivial, ⟨ck_296, (tc_9 (i := 227) rfl rfl), im_296, sl_296⟩, trivial⟩
theorem wd_13_165 : WD 13 (165, (1, 182, 2, 11, 1, 0)) := ⟨trivial, ⟨ck_182, (tc_6 (i := 107) rfl rfl), im_182, sl_182⟩, trivial⟩
theorem wd_13_168 : WD 13 (168, (1, 300, 2, 12, 1, 0)) := ⟨trivial, ⟨ck_300, (tc_9 (i := 232) rfl rfl), im_300, sl_300⟩, trivial⟩
theorem wd_13_169 : WD 13 (169, (1, 183, 2, 11, 1, 0)) := ⟨trivial, ⟨ck_183, (tc_6 (i := 131) rfl rfl), im_183, sl_183⟩, trivial⟩
theorem wd_13_172 : WD 13 (172, (1, 301, 2, 12, 1, 0)) := ⟨trivial, ⟨ck_301, (tc_10 (i := 8) rfl rfl), im_301, sl_301⟩, trivial⟩
theorem wd_13_173 : WD 13 (173, (1, 184, 1, 11, 1, 0)) := ⟨trivial, ⟨ck_184, (tc_6 (i := 139) rfl rfl), im_184, sl_184⟩, trivial⟩
theorem wd_13_176 : WD 13 (176, (1, 302, 1, 12, 1, 0)) := ⟨trivial, ⟨ck_302, (tc_10 (i := 12) rfl rfl), im_302, sl_302⟩, trivial⟩
theorem wd_13_177 : WD 13 (177, (1, 185, 1, 11, 1, 0)) := ⟨trivial, ⟨ck_185, (tc_6 (i := 144) rfl rfl), im_185, sl_185⟩, trivial⟩
theorem wd_13_180 : WD 13 (180, (1, 303, 1, 12, 1, 0)) := ⟨trivial, ⟨ck_303, (tc_10 (i := 16) rfl rfl), im_303, sl_303⟩, trivial⟩
theorem wd_13_181 : WD 13 (181, (1, 186, 1, 11, 1, 0)) := ⟨trivial, ⟨ck_186, (tc_6 (i := 152) rfl rfl), im_186, sl_186⟩, trivial⟩
theorem wd_13_184 : WD 13 (184, (1, 304, 1, 12, 1, 0)) := ⟨trivial, ⟨ck_304, (tc_10 (i := 20) rfl rfl), im_304, sl_304⟩, trivial⟩
theorem wd_13_185 : WD 13 (185, (1, 187, 2, 11, 1, 0)) := ⟨trivial, ⟨ck_187, (tc_6 (i := 160) rfl rfl), im_187, sl_187⟩, trivial⟩
theorem wd_13_188 : WD 13 (188, (1, 305, 2, 12, 1, 0)) := ⟨trivial, ⟨ck_305, (tc_10 (i := 24) rfl rfl), im_305, sl_305⟩, trivial⟩
theorem wd_13_189 : WD 13 (189, (1, 188, 1, 11, 1, 0)) := ⟨trivial, ⟨ck_188, (tc_6 (i := 170) rfl rfl), im_188, sl_188⟩, trivial⟩
theorem wd_13_192 : WD 13 (192, (1, 306, 1, 12, 1, 0)) := ⟨trivial, ⟨ck_306, (tc_10 (i := 28) rfl rfl), im_306, sl_306⟩, trivial⟩
def al_13 : List (Nat × PE) := [(7, (3, 11, 0, 0, 0, 0)), (9, (9, 147, 0, 11, 0, 0)), (10, (3, 12, 0, 0, 0, 0)), (12, (9, 191, 0, 12, 0, 0)), (13, (1, 148, 5, 11, 1, 0)), (17, (1, 198, 5, 12, 1, 0)), (18, (1, 149, 3, 11, 1, 0)), (22, (1, 199, 3, 12, 1, 0)), (23, (1, 150, 2, 11, 1, 0)), (27, (1, 200, 2, 12, 1, 0)), (28, (1, 151, 0, 11, 1, 0)), (32, (1, 259, 0, 12, 1, 0)), (33, (1, 152, 6, 11, 1, 0)), (37, (1, 211, 6, 12, 1, 0)), (38, (1, 153, 2, 11, 1, 0)), (41, (1, 212, 2, 12, 1, 0)), (42, (1, 154, 2, 11, 1, 0)), (46, (1, 204, 2, 12, 1, 0)), (47, (1, 155, 2, 11, 1, 0)), (50, (1, 214, 2, 12, 1, 0)), (51, (1, 156, 2, 11, 1, 0)), (54, (1, 215, 2, 12, 1, 0)), (55, (1, 157, 1, 11, 1, 0)), (59, (1, 216, 1, 12, 1, 0)), (60, (1, 158, 4, 11, 1, 0)), (64, (1, 219, 4, 12, 1, 0)), (65, (1, 159, 5, 11, 1, 0)), (69, (1, 220, 5, 12, 1, 0)), (70, (1, 160, 5, 11, 1, 0)), (73, (1, 222, 5, 12, 1, 0)), (74, (1, 161, 1, 11, 1, 0)), (77, (1, 223, 1, 12, 1, 0)), (78, (1, 162, 1, 11, 1, 0)), (81, (1, 246, 1, 12, 1, 0)), (82, (1, 163, 2, 11, 1, 0)), (86, (1, 248, 2, 12, 1, 0)), (87, (1, 164, 3, 11, 1, 0)), (91, (1, 256, 3, 12, 1, 0)), (92, (1, 165, 2, 11, 1, 0)), (95, (1, 260, 2, 12, 1, 0)), (96, (1, 166, 3, 11, 1, 0)), (99, (1, 261, 3, 12, 1, 0)), (100, (1, 167, 4, 11, 1, 0)), (104, (1, 263, 4, 12, 1, 0)), (105, (1, 168, 3, 11, 1, 0)), (108, (1, 265, 3, 12, 1, 0)), (109, (1, 169, 3, 11, 1, 0)), (112, (1, 267, 3, 12, 1, 0)), (113, (1, 170, 1, 11, 1, 0)), (116, (1, 270, 1, 12, 1, 0)), (117, (1, 171, 2, 11, 1, 0)), (120, (1, 271, 2, 12, 1, 0)), (121, (1, 172, 2, 11, 1, 0)), (124, (1, 272, 2, 12, 1, 0)), (125, (1, 173, 2, 11, 1, 0)), (128, (1, 280, 2, 12, 1, 0)), (129, (1, 174, 0, 11, 1, 0)), (132, (1, 286, 0, 12, 1, 0)), (133, (1, 175, 2, 11, 1, 0)), (136, (1, 287, 2, 12, 1, 0)), (137, (5, 0, 0, 0, 0, 4294967295)), (139, (1, 176, 3, 11, 1, 0)), (143, (1, 288, 3, 12, 1, 0)), (144, (1, 177, 2, 11, 1, 0)), (147, (1, 291, 2, 12, 1, 0)), (148, (1, 178, 1, 11, 1, 0)), (151, (1, 292, 1, 12, 1, 0)), (152, (1, 179, 0, 11, 2, 0)), (156, (1, 293, 0, 12, 2, 0)), (157, (1, 180, 2, 11, 1, 0)), (160, (1, 295, 2, 12, 1, 0)), (161, (1, 181, 3, 11, 1, 0)), (164, (1, 296, 3, 12, 1, 0)), (165, (1, 182, 2, 11, 1, 0)), (168, (1, 300, 2, 12, 1, 0)), (169, (1, 183, 2, 11, 1, 0)), (172, (1, 301, 2, 12, 1, 0)), (173, (1, 184, 1, 11, 1, 0)), (176, (1, 302, 1, 12, 1, 0)), (177, (1, 185, 1, 11, 1, 0)), (180, (1, 303, 1, 12, 1, 0)), (181, (1, 186, 1, 11, 1, 0)), (184, (1, 304, 1, 12, 1, 0)), (185, (1, 187, 2, 11, 1, 0)), (188, (1, 305, 2, 12, 1, 0)), (189, (1, 188, 1, 11, 1, 0)), (192, (1, 306, 1, 12, 1, 0))]
set_option maxRecDepth 100000 in
theorem pw_13 : ∀ n q, pl_13 n = some q → WD 13 (n, q) := pl_sp (b := 193) (al := al_13) (by decide +kernel) (fun n h => by rw [pl_13, blt_F h]; rfl) (List.forall_mem_cons.mpr ⟨wd_13_7, (List.forall_mem_cons.mpr ⟨wd_13_9, (List.forall_mem_cons.mpr ⟨wd_13_10, (List.forall_mem_cons.mpr ⟨wd_13_12, (List.forall_mem_cons.mpr ⟨wd_13_13, (List.forall_mem_cons.mpr ⟨wd_13_17, (List.forall_mem_cons.mpr ⟨wd_13_18, (List.forall_mem_cons.mpr ⟨wd_13_22, (List.forall_mem_cons.mpr ⟨wd_13_23, (List.forall_mem_cons.mpr ⟨wd_13_27, (List.forall_mem_cons.mpr ⟨wd_13_28, (List.forall_mem_cons.mpr ⟨wd_13_32, (List.forall_mem_cons.mpr ⟨wd_13_33, (List.forall_mem_cons.mpr ⟨wd_13_37, (List.forall_mem_cons.mpr ⟨wd_13_38, (List.forall_mem_cons.mpr ⟨wd_13_41, (List.forall_mem_cons.mpr ⟨wd_13_42, (List.forall_mem_cons.mpr ⟨wd_13_46, (List.forall_mem_cons.mpr ⟨wd_13_47, (List.forall_mem_cons.mpr ⟨wd_13_50, (List.forall_mem_cons.mpr ⟨wd_13_51, (List.forall_mem_cons.mpr ⟨wd_13_54, (List.forall_mem_cons.mpr ⟨wd_13_55, (List.forall_mem_cons.mpr ⟨wd_13_59, (List.forall_mem_cons.mpr ⟨wd_13_60, (List.forall_mem_cons.mpr ⟨wd_13_64, (List.forall_mem_cons.mpr ⟨wd_13_65, (List.forall_mem_cons.mpr ⟨wd_13_69, (List.forall_mem_cons.mpr ⟨wd_13_70, (List.forall_mem_cons.mpr ⟨wd_13_73, (List.forall_mem_cons.mpr ⟨wd_13_74, (List.forall_mem_cons.mpr ⟨wd_13_77, (List.forall_mem_cons.mpr ⟨wd_13_78, (List.forall_mem_cons.mpr ⟨wd_13_81, (List.forall_mem_cons.mpr ⟨wd_13_82, (List.forall_mem_cons.mpr ⟨wd_13_86, (List.forall_mem_cons.mpr ⟨wd_13_87, (List.forall_mem_cons.mpr ⟨wd_13_91, (List.forall_mem_cons.mpr ⟨wd_13_92, (List.forall_mem_cons.mpr ⟨wd_13_95, (List.forall_mem_cons.mpr ⟨wd_13_96, (List.forall_mem_cons.mpr ⟨wd_13_99, (List.forall_mem_cons.mpr ⟨wd_13_100, (List.forall_mem_cons.mpr ⟨wd_13_104, (List.forall_mem_cons.mpr ⟨wd_13_105, (List.forall_mem_cons.mpr ⟨wd_13_108, (List.forall_mem_cons.mpr ⟨wd_13_109, (List.forall_mem_cons.mpr ⟨wd_13_112, (List.forall_mem_cons.mpr ⟨wd_13_113, (List.forall_mem_cons.mpr ⟨wd_13_116, (List.forall_mem_cons.mpr ⟨wd_13_117, (List.forall_mem_cons.mpr ⟨wd_13_120, (List.forall_mem_cons.mpr ⟨wd_13_121, (List.forall_mem_cons.mpr ⟨wd_13_124, (List.forall_mem_cons.mpr ⟨wd_13_125, (List.forall_mem_cons.mpr ⟨wd_13_128, (List.forall_mem_cons.mpr ⟨wd_13_129, (List.forall_mem_cons.mpr ⟨wd_13_132, (List.forall_mem_cons.mpr ⟨wd_13_133, (List.forall_mem_cons.mpr ⟨wd_13_136, (List.forall_mem_cons.mpr ⟨wd_13_137, (List.forall_mem_cons.mpr ⟨wd_13_139, (List.forall_mem_cons.mpr ⟨wd_13_143, (List.forall_mem_cons.mpr ⟨wd_13_144, (List.forall_mem_cons.mpr ⟨wd_13_147, (List.forall_mem_cons.mpr ⟨wd_13_148, (List.forall_mem_cons.mpr ⟨wd_13_151, (List.forall_mem_cons.mpr ⟨wd_13_152, (List.forall_mem_cons.mpr ⟨wd_13_156, (List.forall_mem_cons.mpr ⟨wd_13_157, (List.forall_mem_cons.mpr ⟨wd_13_160, (List.forall_mem_cons.mpr ⟨wd_13_161, (List.forall_mem_cons.mpr ⟨wd_13_164, (List.forall_mem_cons.mpr ⟨wd_13_165, (List.forall_mem_cons.mpr ⟨wd_13_168, (List.forall_mem_cons.mpr ⟨wd_13_169, (List.forall_mem_cons.mpr ⟨wd_13_172, (List.forall_mem_cons.mpr ⟨wd_13_173, (List.forall_mem_cons.mpr ⟨wd_13_176, (List.forall_mem_cons.mpr ⟨wd_13_177, (List.forall_mem_cons.mpr ⟨wd_13_180, (List.forall_mem_cons.mpr ⟨wd_13_181, (List.forall_mem_cons.mpr ⟨wd_13_184, (List.forall_mem_cons.mpr ⟨wd_13_185, (List.forall_mem_cons.mpr ⟨wd_13_188, (List.forall_mem_cons.mpr ⟨wd_13_189, (List.forall_mem_cons.mpr ⟨wd_13_192, (fun p hp => by cases hp)⟩)⟩)⟩)⟩)⟩)⟩)⟩)⟩)⟩)⟩)⟩)⟩)⟩)⟩)⟩)⟩)⟩)⟩)⟩)⟩)⟩)⟩)⟩)⟩)⟩)⟩)⟩)⟩)⟩)⟩)⟩)⟩)⟩)⟩)⟩)⟩)⟩)⟩)⟩)⟩)⟩)⟩)⟩)⟩)⟩)⟩)⟩)⟩)⟩)⟩)⟩)⟩)⟩)⟩)⟩)⟩)⟩)⟩)⟩)⟩)⟩)⟩)⟩)⟩)⟩)⟩)⟩)⟩)⟩)⟩)⟩)⟩)⟩)⟩)⟩)⟩)⟩)⟩)⟩)⟩)⟩)⟩)⟩)⟩)⟩)⟩)⟩)
