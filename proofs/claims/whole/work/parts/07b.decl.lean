def dchw (mi : MI) (b : ByteArray) (lo n : Nat) : Bool := Nat.all n (fun i _ => match mi.1 (lo + i) with
  | none => true
  | some (ins, len) => decide (decode b (lo + i) = .ok (ins, len)) && okI (lo + i) ins len)
theorem dchw_sp {mi : MI} {b : ByteArray} {lo n : Nat} (h : dchw mi b lo n = true) {pc : Nat} {ins : Instr} {len : Nat} (h1 : lo ≤ pc) (h2 : pc < lo + n) (hi : mi.1 pc = some (ins, len)) : decode b pc = .ok (ins, len) ∧ okI pc ins len = true := by
  unfold dchw at h
  rw [Nat.all_eq_finRange_all, List.all_eq_true] at h
  have h3 := h ⟨pc - lo, by omega⟩ (List.mem_finRange _)
  have e : lo + (pc - lo) = pc := by omega
  simp only [e, hi] at h3
  obtain ⟨h4, h5⟩ := ko h3
  exact ⟨of_decide_eq_true h4, h5⟩
theorem dw_0 : dchw mi_307 (byt 307) 0 64 = true := by decide +kernel
theorem dw_64 : dchw mi_307 (byt 307) 64 64 = true := by decide +kernel
theorem dw_128 : dchw mi_307 (byt 307) 128 64 = true := by decide +kernel
theorem dw_192 : dchw mi_307 (byt 307) 192 64 = true := by decide +kernel
theorem dw_256 : dchw mi_307 (byt 307) 256 64 = true := by decide +kernel
theorem dw_320 : dchw mi_307 (byt 307) 320 64 = true := by decide +kernel
theorem dw_384 : dchw mi_307 (byt 307) 384 64 = true := by decide +kernel
theorem dw_448 : dchw mi_307 (byt 307) 448 64 = true := by decide +kernel
theorem dw_512 : dchw mi_307 (byt 307) 512 64 = true := by decide +kernel
theorem dw_576 : dchw mi_307 (byt 307) 576 64 = true := by decide +kernel
theorem dw_640 : dchw mi_307 (byt 307) 640 64 = true := by decide +kernel
theorem dw_704 : dchw mi_307 (byt 307) 704 64 = true := by decide +kernel
theorem dw_768 : dchw mi_307 (byt 307) 768 64 = true := by decide +kernel
theorem dw_832 : dchw mi_307 (byt 307) 832 64 = true := by decide +kernel
theorem dw_896 : dchw mi_307 (byt 307) 896 64 = true := by decide +kernel
theorem dw_960 : dchw mi_307 (byt 307) 960 64 = true := by decide +kernel
theorem dw_1024 : dchw mi_307 (byt 307) 1024 64 = true := by decide +kernel
theorem dw_1088 : dchw mi_307 (byt 307) 1088 64 = true := by decide +kernel
theorem dw_1152 : dchw mi_307 (byt 307) 1152 64 = true := by decide +kernel
theorem dw_1216 : dchw mi_307 (byt 307) 1216 64 = true := by decide +kernel
theorem dw_1280 : dchw mi_307 (byt 307) 1280 64 = true := by decide +kernel
theorem dw_1344 : dchw mi_307 (byt 307) 1344 64 = true := by decide +kernel
theorem dw_1408 : dchw mi_307 (byt 307) 1408 64 = true := by decide +kernel
theorem dw_1472 : dchw mi_307 (byt 307) 1472 64 = true := by decide +kernel
theorem dw_1536 : dchw mi_307 (byt 307) 1536 64 = true := by decide +kernel
theorem dw_1600 : dchw mi_307 (byt 307) 1600 64 = true := by decide +kernel
theorem dw_1664 : dchw mi_307 (byt 307) 1664 64 = true := by decide +kernel
theorem dw_1728 : dchw mi_307 (byt 307) 1728 64 = true := by decide +kernel
theorem dc_307 : ∀ pc ins len, mi_307.1 pc = some (ins, len) → decode (byt 307) pc = .ok (ins, len) ∧ okI pc ins len = true := fun pc ins len hi => by
  by_cases h0 : pc < 64
  · exact dchw_sp dw_0 (by omega) (by omega) hi
  by_cases h64 : pc < 128
  · exact dchw_sp dw_64 (by omega) (by omega) hi
  by_cases h128 : pc < 192
  · exact dchw_sp dw_128 (by omega) (by omega) hi
  by_cases h192 : pc < 256
  · exact dchw_sp dw_192 (by omega) (by omega) hi
  by_cases h256 : pc < 320
  · exact dchw_sp dw_256 (by omega) (by omega) hi
  by_cases h320 : pc < 384
  · exact dchw_sp dw_320 (by omega) (by omega) hi
  by_cases h384 : pc < 448
  · exact dchw_sp dw_384 (by omega) (by omega) hi
  by_cases h448 : pc < 512
  · exact dchw_sp dw_448 (by omega) (by omega) hi
  by_cases h512 : pc < 576
  · exact dchw_sp dw_512 (by omega) (by omega) hi
  by_cases h576 : pc < 640
  · exact dchw_sp dw_576 (by omega) (by omega) hi
  by_cases h640 : pc < 704
  · exact dchw_sp dw_640 (by omega) (by omega) hi
  by_cases h704 : pc < 768
  · exact dchw_sp dw_704 (by omega) (by omega) hi
  by_cases h768 : pc < 832
  · exact dchw_sp dw_768 (by omega) (by omega) hi
  by_cases h832 : pc < 896
  · exact dchw_sp dw_832 (by omega) (by omega) hi
  by_cases h896 : pc < 960
  · exact dchw_sp dw_896 (by omega) (by omega) hi
  by_cases h960 : pc < 1024
  · exact dchw_sp dw_960 (by omega) (by omega) hi
  by_cases h1024 : pc < 1088
  · exact dchw_sp dw_1024 (by omega) (by omega) hi
  by_cases h1088 : pc < 1152
  · exact dchw_sp dw_1088 (by omega) (by omega) hi
  by_cases h1152 : pc < 1216
  · exact dchw_sp dw_1152 (by omega) (by omega) hi
  by_cases h1216 : pc < 1280
  · exact dchw_sp dw_1216 (by omega) (by omega) hi
  by_cases h1280 : pc < 1344
  · exact dchw_sp dw_1280 (by omega) (by omega) hi
  by_cases h1344 : pc < 1408
  · exact dchw_sp dw_1344 (by omega) (by omega) hi
  by_cases h1408 : pc < 1472
  · exact dchw_sp dw_1408 (by omega) (by omega) hi
  by_cases h1472 : pc < 1536
  · exact dchw_sp dw_1472 (by omega) (by omega) hi
  by_cases h1536 : pc < 1600
  · exact dchw_sp dw_1536 (by omega) (by omega) hi
  by_cases h1600 : pc < 1664
  · exact dchw_sp dw_1600 (by omega) (by omega) hi
  by_cases h1664 : pc < 1728
  · exact dchw_sp dw_1664 (by omega) (by omega) hi
  by_cases h1728 : pc < 1792
  · exact dchw_sp dw_1728 (by omega) (by omega) hi
  · rw [show mi_307.1 pc = none by show cd_307 pc = none; rw [cd_307, blt_F (by omega)]; rfl] at hi; cases hi
