/-! the law from all calls -/
theorem B32 {b : Int} (h : b = 0 ∨ b = 1) : r32 b := by
  rcases h with rfl | rfl <;> (unfold r32; omega)
theorem ALL_ok {d L : Nat} {xs : Nat → Int32} (hd : 40 ≤ d)  : ALLP d (fun i S => CB L xs S ∧ CI2 i S S) := by
  refine ⟨?_, ?_, ?_, ?_, ?_, ?_, ?_, ?_, ?_, ?_, ?_, ?_, ?_, ?_, ?_, ?_, ?_, ?_, ?_, ?_, ?_, ?_, ?_, ?_, ?_, ?_, ?_, ?_, ?_, ?_, ?_, ?_, ?_, ?_, ?_, ?_, ?_, ?_, ?_, ?_, ?_⟩
  · exact fun a1 a2 a3 a4 a5 h0 h1 h2 h3 h4 => PI_of2 CF_CI2 (fun w hw => by
    simp only [List.mem_cons, List.not_mem_nil, or_false] at hw
    rcases hw with rfl | rfl | rfl | rfl | rfl
    · exact (fun S => h0)
    · exact (fun S => h1)
    · exact (fun S => h2)
    · exact (fun S => h3)
    · exact (fun S => h4)) (o_field (by omega) a1 a2 a3 a4 a5)
  · exact fun a1 a2 a3 h0 h1 h2 => PI_of2 CF_CI2 (fun w hw => by
    simp only [List.mem_cons, List.not_mem_nil, or_false] at hw
    rcases hw with rfl | rfl | rfl
    · exact (fun S => h0)
    · exact (fun S => h1)
    · exact (fun S => h2)) (o_kind (by omega) a1 a2 a3)
  · exact fun a1 a2 h0 h1 => PI_of2 CF_CI2 (fun w hw => by
    simp only [List.mem_cons, List.not_mem_nil, or_false] at hw
    rcases hw with rfl | rfl
    · exact (fun S => h0)
    · exact (fun S => h1)) (o_thing (by omega) a1 a2)
  · exact PI_of2 CF_CI2 (fun w hw => by cases hw) (o_tick (by omega))
  · exact fun a1 a2 a3 a4 a5 a6 h0 h1 h2 h3 h4 h5 => PI_of2 CF_CI2 (fun w hw => by
    simp only [List.mem_cons, List.not_mem_nil, or_false] at hw
    rcases hw with rfl | rfl | rfl | rfl | rfl | rfl
    · exact (fun S => h0)
    · exact (fun S => h1)
    · exact (fun S => h2)
    · exact (fun S => h3)
    · exact (fun S => h4)
    · exact (fun S => h5)) (o_word (by omega) a1 a2 a3 a4 a5 a6)
  · exact fun a1 a2 h0 h1 => PI_of2 CF_CI2 (fun w hw => by
    simp only [List.mem_cons, List.not_mem_nil, or_false] at hw
    rcases hw with rfl | rfl
    · exact (fun S => h0)
    · exact (fun S => h1)) (o_words (by omega) a1 a2)
  · exact fun a1 a2 h0 h1 => PI_of2 CF_CI2 (fun w hw => by
    simp only [List.mem_cons, List.not_mem_nil, or_false] at hw
    rcases hw with rfl | rfl
    · exact (fun S => h0)
    · exact (fun S => h1)) (o_set (by omega) a1 a2)
  · exact fun a1 a2 h0 h1 => PI_of2 CF_CI2 (fun w hw => by
    simp only [List.mem_cons, List.not_mem_nil, or_false] at hw
    rcases hw with rfl | rfl
    · exact (fun S => h0)
    · exact (fun S => h1)) (o_missed (by omega) a1 a2)
  · exact fun a1 a2 h0 h1 => PI_of2 CF_CI2 (fun w hw => by
    simp only [List.mem_cons, List.not_mem_nil, or_false] at hw
    rcases hw with rfl | rfl
    · exact (fun S => h0)
    · exact (fun S => h1)) (o_giveUp (by omega) a1 a2)
  · exact fun a1 h0 => PI_of2 CF_CI2 (fun w hw => by
    simp only [List.mem_cons, List.not_mem_nil, or_false] at hw
    rcases hw with rfl
    · exact (fun S => h0)) (o_forget (by omega) a1)
  · exact fun a1 a2 a3 a4 h0 h1 h2 h3 => PI_of2 CF_CI2 (fun w hw => by
    simp only [List.mem_cons, List.not_mem_nil, or_false] at hw
    rcases hw with rfl | rfl | rfl | rfl
    · exact (fun S => h0)
    · exact (fun S => h1)
    · exact (fun S => h2)
    · exact (fun S => h3)) (o_said (by omega) a1 a2 a3 a4)
  · exact fun a1 a2 a3 a4 a5 h0 h1 h2 h3 h4 => PI_of2 CF_CI2 (fun w hw => by
    simp only [List.mem_cons, List.not_mem_nil, or_false] at hw
    rcases hw with rfl | rfl | rfl | rfl | rfl
    · exact (fun S => h0)
    · exact (fun S => h1)
    · exact (fun S => h2)
    · exact (fun S => h3)
    · exact (fun S => h4)) (o_guess (by omega) a1 a2 a3 a4 a5)
  · exact fun a1 a2 a3 a4 a5 h0 h1 h2 h3 h4 => PI_of2 CF_CI2 (fun w hw => by
    simp only [List.mem_cons, List.not_mem_nil, or_false] at hw
    rcases hw with rfl | rfl | rfl | rfl | rfl
    · exact (fun S => h0)
    · exact (fun S => h1)
    · exact (fun S => h2)
    · exact (fun S => h3)
    · exact (fun S => h4)) (o_feed (by omega) a1 a2 a3 a4 a5)
  · exact fun a1 h0 => PI_of2 CF_CI2 (fun w hw => by
    simp only [List.mem_cons, List.not_mem_nil, or_false] at hw
    rcases hw with rfl
    · exact (fun S => h0)) (o_end (by omega) a1)
  · exact fun a1 h0 => PI_of2 CF_CI2 (fun w hw => by
    simp only [List.mem_cons, List.not_mem_nil, or_false] at hw
    rcases hw with rfl
    · exact (fun S => h0)) (o_rule (by omega) a1)
  · exact fun a1 b h0 h1 => PI_of2 CF_CI2 (fun w hw => by
    simp only [List.mem_cons, List.not_mem_nil, or_false] at hw
    rcases hw with rfl | rfl
    · exact (fun S => h0)
    · exact (fun S => B32 h1)) (o_force (by omega) a1 b h1)
  · exact fun a1 a2 a3 h0 h1 h2 => PI_of2 CF_CI2 (fun w hw => by
    simp only [List.mem_cons, List.not_mem_nil, or_false] at hw
    rcases hw with rfl | rfl | rfl
    · exact (fun S => h0)
    · exact (fun S => h1)
    · exact (fun S => h2)) (o_held (by omega) a1 a2 a3)
  · exact fun a1 a2 h0 h1 => PI_of2 CF_CI2 (fun w hw => by
    simp only [List.mem_cons, List.not_mem_nil, or_false] at hw
    rcases hw with rfl | rfl
    · exact (fun S => h0)
    · exact (fun S => h1)) (o_acts (by omega) a1 a2)
  · exact fun a1 a2 a3 h0 h1 h2 => PI_of2 CF_CI2 (fun w hw => by
    simp only [List.mem_cons, List.not_mem_nil, or_false] at hw
    rcases hw with rfl | rfl | rfl
    · exact (fun S => h0)
    · exact (fun S => h1)
    · exact (fun S => h2)) (o_rank (by omega) a1 a2 a3)
  · exact fun a1 a2 a3 a4 h0 h1 h2 h3 => PI_of2 CF_CI2 (fun w hw => by
    simp only [List.mem_cons, List.not_mem_nil, or_false] at hw
    rcases hw with rfl | rfl | rfl | rfl
    · exact (fun S => h0)
    · exact (fun S => h1)
    · exact (fun S => h2)
    · exact (fun S => h3)) (o_wish (by omega) a1 a2 a3 a4)
  · exact fun a1 a2 a3 h0 h1 h2 => PI_of2 CF_CI2 (fun w hw => by
    simp only [List.mem_cons, List.not_mem_nil, or_false] at hw
    rcases hw with rfl | rfl | rfl
    · exact (fun S => h0)
    · exact (fun S => h1)
    · exact (fun S => h2)) (o_wished (by omega) a1 a2 a3)
  · exact fun a1 a2 a3 h0 h1 h2 => PI_of2 CF_CI2 (fun w hw => by
    simp only [List.mem_cons, List.not_mem_nil, or_false] at hw
    rcases hw with rfl | rfl | rfl
    · exact (fun S => h0)
    · exact (fun S => h1)
    · exact (fun S => h2)) (o_order (by omega) a1 a2 a3)
  · exact fun a1 h0 => PI_of2 CF_CI2 (fun w hw => by
    simp only [List.mem_cons, List.not_mem_nil, or_false] at hw
    rcases hw with rfl
    · exact (fun S => h0)) (o_wake (by omega) a1)
  · exact fun a1 b h0 h1 => PI_of2 CF_CI2 (fun w hw => by
    simp only [List.mem_cons, List.not_mem_nil, or_false] at hw
    rcases hw with rfl | rfl
    · exact (fun S => h0)
    · exact (fun S => B32 h1)) (o_answer (by omega) a1 b h1)
  · exact fun a1 a2 h0 h1 => PI_of2 CF_CI2 (fun w hw => by
    simp only [List.mem_cons, List.not_mem_nil, or_false] at hw
    rcases hw with rfl | rfl
    · exact (fun S => h0)
    · exact (fun S => h1)) (o_orders (by omega) a1 a2)
  · exact fun a1 a2 h0 h1 => PI_of2 CF_CI2 (fun w hw => by
    simp only [List.mem_cons, List.not_mem_nil, or_false] at hw
    rcases hw with rfl | rfl
    · exact (fun S => h0)
    · exact (fun S => h1)) (o_pulls (by omega) a1 a2)
  · exact PI_of2 CF_CI2 (fun w hw => by cases hw) (o_ring (by omega))
  · exact fun a1 a2 h0 h1 => PI_of2 CF_CI2 (fun w hw => by
    simp only [List.mem_cons, List.not_mem_nil, or_false] at hw
    rcases hw with rfl | rfl
    · exact (fun S => h0)
    · exact (fun S => h1)) (o_shown (by omega) a1 a2)
  · exact fun a1 w a4 h0 h1 h2 => PI_of2 CF_CI2 (fun w hw => by
    simp only [List.mem_cons, List.not_mem_nil, or_false] at hw
    rcases hw with rfl | rfl | rfl
    · exact (fun S => h0)
    · exact (fun S => h1)
    · exact (fun S => h2)) (o_question (by omega) a1 w a4 h1)
  · exact fun a1 a2 h0 h1 => PI_of2 CF_CI2 (fun w hw => by
    simp only [List.mem_cons, List.not_mem_nil, or_false] at hw
    rcases hw with rfl | rfl
    · exact (fun S => h0)
    · exact (fun S => h1)) (o_width (by omega) a1 a2)
  · exact fun a1 h0 => PI_of2 CF_CI2 (fun w hw => by
    simp only [List.mem_cons, List.not_mem_nil, or_false] at hw
    rcases hw with rfl
    · exact (fun S => h0)) (o_ask (by omega) a1)
  · exact PI_of2 CF_CI2 (fun w hw => by cases hw) (o_asked (by omega))
  · exact fun a1 a2 h0 h1 => PI_of2 CF_CI2 (fun w hw => by
    simp only [List.mem_cons, List.not_mem_nil, or_false] at hw
    rcases hw with rfl | rfl
    · exact (fun S => h0)
    · exact (fun S => h1)) (o_join (by omega) a1 a2)
  · exact fun a1 a2 a3 h0 h1 h2 => PI_of2 CF_CI2 (fun w hw => by
    simp only [List.mem_cons, List.not_mem_nil, or_false] at hw
    rcases hw with rfl | rfl | rfl
    · exact (fun S => h0)
    · exact (fun S => h1)
    · exact (fun S => h2)) (o_odds (by omega) a1 a2 a3)
  · exact fun a1 a2 h0 h1 => PI_of2 CF_CI2 (fun w hw => by
    simp only [List.mem_cons, List.not_mem_nil, or_false] at hw
    rcases hw with rfl | rfl
    · exact (fun S => h0)
    · exact (fun S => h1)) (o_begin (by omega) a1 a2)
  · exact fun a1 b h0 h1 => PI_of2 CF_CI2 (fun w hw => by
    simp only [List.mem_cons, List.not_mem_nil, or_false] at hw
    rcases hw with rfl | rfl
    · exact (fun S => h0)
    · exact (fun S => B32 h1)) (o_report (by omega) a1 b h1)
  · exact fun a1 h0 => PI_of2 CF_CI2 (fun w hw => by
    simp only [List.mem_cons, List.not_mem_nil, or_false] at hw
    rcases hw with rfl
    · exact (fun S => h0)) (o_worse (by omega) a1)
  · exact fun a1 h0 => PI_of2 CF_CI2 (fun w hw => by
    simp only [List.mem_cons, List.not_mem_nil, or_false] at hw
    rcases hw with rfl
    · exact (fun S => h0)) (o_stop (by omega) a1)
  · exact fun a1 h0 => PI_of2 CF_CI2 (fun w hw => by
    simp only [List.mem_cons, List.not_mem_nil, or_false] at hw
    rcases hw with rfl
    · exact (fun S => h0)) (o_back (by omega) a1)
  · exact fun a1 a2 h0 h1 => PI_of2 CF_CI2 (fun w hw => by
    simp only [List.mem_cons, List.not_mem_nil, or_false] at hw
    rcases hw with rfl | rfl
    · exact (fun S => h0)
    · exact (fun S => h1)) (o_things (by omega) a1 a2)
  · exact fun a1 h0 => PI_of2 CF_CI2 (fun w hw => by
    simp only [List.mem_cons, List.not_mem_nil, or_false] at hw
    rcases hw with rfl
    · exact (fun S => h0)) (o_count (by omega) a1)
theorem LAW_of {L : Nat} {xs : Nat → Int32} (hL : L ≤ 3584)  : ∀ S1 : SD, Rel A1 S1 → DI false L xs S1 → ∃ (n d : Nat) (S2 : SD), run oo (EE false d) false mi_307 n 18 LH [] S1 = some (vi 1, S2) ∧ S2.2.2.2 ≤ 7302250 ∧ d ≤ 1300 :=
  LAW_ok_of (d := 1300) (CI := fun i S => CB L xs S ∧ CI2 i S S) hL (by omega) (fun i S h => h.1) (ALL_ok (by omega) ) (fun i S _ h => ⟨h.1, CI2_up h.2⟩) (fun S1 hR hD => ⟨⟨hD, Prod.ext hR.2.2.1 hR.2.2.2⟩, CI2_0 hR⟩)
