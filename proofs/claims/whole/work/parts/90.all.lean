/-! the law from all calls -/
theorem B32 {b : Int} (h : b = 0 ∨ b = 1) : r32 b := by
  rcases h with rfl | rfl <;> (unfold r32; omega)
theorem ALL_ok {d L : Nat} {xs : Nat → Int32} (hd : 12 ≤ d) (H_rule : ∀ d, 12 ≤ d → ∀ a1 : Int, PI2 d CI2 162 246 vi [vi a1]) (H_pulls : ∀ d, 12 ≤ d → ∀ a1 a2 : Int, PI2 d CI2 173 280 vi [vi a1, vi a2]) (H_ring : ∀ d, 12 ≤ d →  PI2 d CI2 174 286 vi []) : ALLP d (fun i S => CB L xs S ∧ CI2 i S S) := by
  refine ⟨?_, ?_, ?_, ?_, ?_, ?_, ?_, ?_, ?_, ?_, ?_, ?_, ?_, ?_, ?_, ?_, ?_, ?_, ?_, ?_, ?_, ?_, ?_, ?_, ?_, ?_, ?_, ?_, ?_, ?_, ?_, ?_, ?_, ?_, ?_, ?_, ?_, ?_, ?_, ?_, ?_⟩
  · exact fun a1 a2 a3 a4 a5 h0 h1 h2 h3 h4 => PI_of2 CF_CI2 (fun w hw => by
    simp only [List.mem_cons, List.not_mem_nil, or_false] at hw
    rcases hw with rfl | rfl | rfl | rfl | rfl
    · exact (fun S => h0)
    · exact (fun S => h1)
    · exact (fun S => h2)
    · exact (fun S => h3)
    · exact (fun S => h4)) (o_field hd a1 a2 a3 a4 a5)
  · exact fun a1 a2 a3 h0 h1 h2 => PI_of2 CF_CI2 (fun w hw => by
    simp only [List.mem_cons, List.not_mem_nil, or_false] at hw
    rcases hw with rfl | rfl | rfl
    · exact (fun S => h0)
    · exact (fun S => h1)
    · exact (fun S => h2)) (o_kind hd a1 a2 a3)
  · exact fun a1 a2 h0 h1 => PI_of2 CF_CI2 (fun w hw => by
    simp only [List.mem_cons, List.not_mem_nil, or_false] at hw
    rcases hw with rfl | rfl
    · exact (fun S => h0)
    · exact (fun S => h1)) (o_thing hd a1 a2)
  · exact PI_of2 CF_CI2 (fun w hw => by cases hw) (o_tick hd)
  · exact fun a1 a2 a3 a4 a5 a6 h0 h1 h2 h3 h4 h5 => PI_of2 CF_CI2 (fun w hw => by
    simp only [List.mem_cons, List.not_mem_nil, or_false] at hw
    rcases hw with rfl | rfl | rfl | rfl | rfl | rfl
    · exact (fun S => h0)
    · exact (fun S => h1)
    · exact (fun S => h2)
    · exact (fun S => h3)
    · exact (fun S => h4)
    · exact (fun S => h5)) (o_word hd a1 a2 a3 a4 a5 a6)
  · exact fun a1 a2 h0 h1 => PI_of2 CF_CI2 (fun w hw => by
    simp only [List.mem_cons, List.not_mem_nil, or_false] at hw
    rcases hw with rfl | rfl
    · exact (fun S => h0)
    · exact (fun S => h1)) (o_words hd a1 a2)
  · exact fun a1 a2 h0 h1 => PI_of2 CF_CI2 (fun w hw => by
    simp only [List.mem_cons, List.not_mem_nil, or_false] at hw
    rcases hw with rfl | rfl
    · exact (fun S => h0)
    · exact (fun S => h1)) (o_set hd a1 a2)
  · exact fun a1 a2 h0 h1 => PI_of2 CF_CI2 (fun w hw => by
    simp only [List.mem_cons, List.not_mem_nil, or_false] at hw
    rcases hw with rfl | rfl
    · exact (fun S => h0)
    · exact (fun S => h1)) (o_missed hd a1 a2)
  · exact fun a1 a2 h0 h1 => PI_of2 CF_CI2 (fun w hw => by
    simp only [List.mem_cons, List.not_mem_nil, or_false] at hw
    rcases hw with rfl | rfl
    · exact (fun S => h0)
    · exact (fun S => h1)) (o_giveUp hd a1 a2)
  · exact fun a1 h0 => PI_of2 CF_CI2 (fun w hw => by
    simp only [List.mem_cons, List.not_mem_nil, or_false] at hw
    rcases hw with rfl
    · exact (fun S => h0)) (o_forget hd a1)
  · exact fun a1 a2 a3 a4 h0 h1 h2 h3 => PI_of2 CF_CI2 (fun w hw => by
    simp only [List.mem_cons, List.not_mem_nil, or_false] at hw
    rcases hw with rfl | rfl | rfl | rfl
    · exact (fun S => h0)
    · exact (fun S => h1)
    · exact (fun S => h2)
    · exact (fun S => h3)) (o_said hd a1 a2 a3 a4)
  · exact fun a1 a2 a3 a4 a5 h0 h1 h2 h3 h4 => PI_of2 CF_CI2 (fun w hw => by
    simp only [List.mem_cons, List.not_mem_nil, or_false] at hw
    rcases hw with rfl | rfl | rfl | rfl | rfl
    · exact (fun S => h0)
    · exact (fun S => h1)
    · exact (fun S => h2)
    · exact (fun S => h3)
    · exact (fun S => h4)) (o_guess hd a1 a2 a3 a4 a5)
  · exact fun a1 a2 a3 a4 a5 h0 h1 h2 h3 h4 => PI_of2 CF_CI2 (fun w hw => by
    simp only [List.mem_cons, List.not_mem_nil, or_false] at hw
    rcases hw with rfl | rfl | rfl | rfl | rfl
    · exact (fun S => h0)
    · exact (fun S => h1)
    · exact (fun S => h2)
    · exact (fun S => h3)
    · exact (fun S => h4)) (o_feed hd a1 a2 a3 a4 a5)
  · exact fun a1 h0 => PI_of2 CF_CI2 (fun w hw => by
    simp only [List.mem_cons, List.not_mem_nil, or_false] at hw
    rcases hw with rfl
    · exact (fun S => h0)) (o_end hd a1)
  · exact fun a1 h0 => PI_of2 CF_CI2 (fun w hw => by
    simp only [List.mem_cons, List.not_mem_nil, or_false] at hw
    rcases hw with rfl
    · exact (fun S => h0)) (H_rule d hd a1)
  · exact fun a1 b h0 h1 => PI_of2 CF_CI2 (fun w hw => by
    simp only [List.mem_cons, List.not_mem_nil, or_false] at hw
    rcases hw with rfl | rfl
    · exact (fun S => h0)
    · exact (fun S => B32 h1)) (o_force hd a1 b h1)
  · exact fun a1 a2 a3 h0 h1 h2 => PI_of2 CF_CI2 (fun w hw => by
    simp only [List.mem_cons, List.not_mem_nil, or_false] at hw
    rcases hw with rfl | rfl | rfl
    · exact (fun S => h0)
    · exact (fun S => h1)
    · exact (fun S => h2)) (o_held hd a1 a2 a3)
  · exact fun a1 a2 h0 h1 => PI_of2 CF_CI2 (fun w hw => by
    simp only [List.mem_cons, List.not_mem_nil, or_false] at hw
    rcases hw with rfl | rfl
    · exact (fun S => h0)
    · exact (fun S => h1)) (o_acts hd a1 a2)
  · exact fun a1 a2 a3 h0 h1 h2 => PI_of2 CF_CI2 (fun w hw => by
    simp only [List.mem_cons, List.not_mem_nil, or_false] at hw
    rcases hw with rfl | rfl | rfl
    · exact (fun S => h0)
    · exact (fun S => h1)
    · exact (fun S => h2)) (o_rank hd a1 a2 a3)
  · exact fun a1 a2 a3 a4 h0 h1 h2 h3 => PI_of2 CF_CI2 (fun w hw => by
    simp only [List.mem_cons, List.not_mem_nil, or_false] at hw
    rcases hw with rfl | rfl | rfl | rfl
    · exact (fun S => h0)
    · exact (fun S => h1)
    · exact (fun S => h2)
    · exact (fun S => h3)) (o_wish hd a1 a2 a3 a4)
  · exact fun a1 a2 a3 h0 h1 h2 => PI_of2 CF_CI2 (fun w hw => by
    simp only [List.mem_cons, List.not_mem_nil, or_false] at hw
    rcases hw with rfl | rfl | rfl
    · exact (fun S => h0)
    · exact (fun S => h1)
    · exact (fun S => h2)) (o_wished hd a1 a2 a3)
  · exact fun a1 a2 a3 h0 h1 h2 => PI_of2 CF_CI2 (fun w hw => by
    simp only [List.mem_cons, List.not_mem_nil, or_false] at hw
    rcases hw with rfl | rfl | rfl
    · exact (fun S => h0)
    · exact (fun S => h1)
    · exact (fun S => h2)) (o_order hd a1 a2 a3)
  · exact fun a1 h0 => PI_of2 CF_CI2 (fun w hw => by
    simp only [List.mem_cons, List.not_mem_nil, or_false] at hw
    rcases hw with rfl
    · exact (fun S => h0)) (o_wake hd a1)
  · exact fun a1 b h0 h1 => PI_of2 CF_CI2 (fun w hw => by
    simp only [List.mem_cons, List.not_mem_nil, or_false] at hw
    rcases hw with rfl | rfl
    · exact (fun S => h0)
    · exact (fun S => B32 h1)) (o_answer hd a1 b h1)
  · exact fun a1 a2 h0 h1 => PI_of2 CF_CI2 (fun w hw => by
    simp only [List.mem_cons, List.not_mem_nil, or_false] at hw
    rcases hw with rfl | rfl
    · exact (fun S => h0)
    · exact (fun S => h1)) (o_orders hd a1 a2)
  · exact fun a1 a2 h0 h1 => PI_of2 CF_CI2 (fun w hw => by
    simp only [List.mem_cons, List.not_mem_nil, or_false] at hw
    rcases hw with rfl | rfl
    · exact (fun S => h0)
    · exact (fun S => h1)) (H_pulls d hd a1 a2)
  · exact PI_of2 CF_CI2 (fun w hw => by cases hw) (H_ring d hd)
  · exact fun a1 a2 h0 h1 => PI_of2 CF_CI2 (fun w hw => by
    simp only [List.mem_cons, List.not_mem_nil, or_false] at hw
    rcases hw with rfl | rfl
    · exact (fun S => h0)
    · exact (fun S => h1)) (o_shown hd a1 a2)
  · exact fun a1 w a4 h0 h1 h2 => PI_of2 CF_CI2 (fun w hw => by
    simp only [List.mem_cons, List.not_mem_nil, or_false] at hw
    rcases hw with rfl | rfl | rfl
    · exact (fun S => h0)
    · exact (fun S => h1)
    · exact (fun S => h2)) (o_question hd a1 w a4 h1)
  · exact fun a1 a2 h0 h1 => PI_of2 CF_CI2 (fun w hw => by
    simp only [List.mem_cons, List.not_mem_nil, or_false] at hw
    rcases hw with rfl | rfl
    · exact (fun S => h0)
    · exact (fun S => h1)) (o_width hd a1 a2)
  · exact fun a1 h0 => PI_of2 CF_CI2 (fun w hw => by
    simp only [List.mem_cons, List.not_mem_nil, or_false] at hw
    rcases hw with rfl
    · exact (fun S => h0)) (o_ask hd a1)
  · exact PI_of2 CF_CI2 (fun w hw => by cases hw) (o_asked hd)
  · exact fun a1 a2 h0 h1 => PI_of2 CF_CI2 (fun w hw => by
    simp only [List.mem_cons, List.not_mem_nil, or_false] at hw
    rcases hw with rfl | rfl
    · exact (fun S => h0)
    · exact (fun S => h1)) (o_join hd a1 a2)
  · exact fun a1 a2 a3 h0 h1 h2 => PI_of2 CF_CI2 (fun w hw => by
    simp only [List.mem_cons, List.not_mem_nil, or_false] at hw
    rcases hw with rfl | rfl | rfl
    · exact (fun S => h0)
    · exact (fun S => h1)
    · exact (fun S => h2)) (o_odds hd a1 a2 a3)
  · exact fun a1 a2 h0 h1 => PI_of2 CF_CI2 (fun w hw => by
    simp only [List.mem_cons, List.not_mem_nil, or_false] at hw
    rcases hw with rfl | rfl
    · exact (fun S => h0)
    · exact (fun S => h1)) (o_begin hd a1 a2)
  · exact fun a1 b h0 h1 => PI_of2 CF_CI2 (fun w hw => by
    simp only [List.mem_cons, List.not_mem_nil, or_false] at hw
    rcases hw with rfl | rfl
    · exact (fun S => h0)
    · exact (fun S => B32 h1)) (o_report hd a1 b h1)
  · exact fun a1 h0 => PI_of2 CF_CI2 (fun w hw => by
    simp only [List.mem_cons, List.not_mem_nil, or_false] at hw
    rcases hw with rfl
    · exact (fun S => h0)) (o_worse hd a1)
  · exact fun a1 h0 => PI_of2 CF_CI2 (fun w hw => by
    simp only [List.mem_cons, List.not_mem_nil, or_false] at hw
    rcases hw with rfl
    · exact (fun S => h0)) (o_stop hd a1)
  · exact fun a1 h0 => PI_of2 CF_CI2 (fun w hw => by
    simp only [List.mem_cons, List.not_mem_nil, or_false] at hw
    rcases hw with rfl
    · exact (fun S => h0)) (o_back hd a1)
  · exact fun a1 a2 h0 h1 => PI_of2 CF_CI2 (fun w hw => by
    simp only [List.mem_cons, List.not_mem_nil, or_false] at hw
    rcases hw with rfl | rfl
    · exact (fun S => h0)
    · exact (fun S => h1)) (o_things hd a1 a2)
  · exact fun a1 h0 => PI_of2 CF_CI2 (fun w hw => by
    simp only [List.mem_cons, List.not_mem_nil, or_false] at hw
    rcases hw with rfl
    · exact (fun S => h0)) (o_count hd a1)
theorem LAW_of {L : Nat} {xs : Nat → Int32} (hL : L ≤ 3584) (H_rule : ∀ d, 12 ≤ d → ∀ a1 : Int, PI2 d CI2 162 246 vi [vi a1]) (H_pulls : ∀ d, 12 ≤ d → ∀ a1 a2 : Int, PI2 d CI2 173 280 vi [vi a1, vi a2]) (H_ring : ∀ d, 12 ≤ d →  PI2 d CI2 174 286 vi []) : ∀ S1 : SD, Rel A1 S1 → DI false L xs S1 → ∃ (n d : Nat) (S2 : SD), run oo (EE false d) false mi_307 n 18 LH [] S1 = some (vi 1, S2) ∧ S2.2.2.2 ≤ 7302250 ∧ d ≤ 1300 :=
  LAW_ok_of (d := 1300) (CI := fun i S => CB L xs S ∧ CI2 i S S) hL (by omega) (fun i S h => h.1) (ALL_ok (by omega) H_rule H_pulls H_ring) (fun i S _ h => ⟨h.1, CI2_up h.2⟩) (fun S1 hR hD => ⟨⟨hD, Prod.ext hR.2.2.1 hR.2.2.2⟩, CI2_0 hR⟩)
