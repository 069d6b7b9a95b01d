theorem ltn_0 {P : Nat → Prop}  : ∀ c, c < 0 → P c
  | k + 0, h => absurd h (by omega)
theorem ltn_1 {P : Nat → Prop} (h0 : P 0) : ∀ c, c < 1 → P c
  | 0, _ => h0
  | k + 1, h => absurd h (by omega)
theorem ltn_2 {P : Nat → Prop} (h0 : P 0) (h1 : P 1) : ∀ c, c < 2 → P c
  | 0, _ => h0
  | 1, _ => h1
  | k + 2, h => absurd h (by omega)
theorem ltn_3 {P : Nat → Prop} (h0 : P 0) (h1 : P 1) (h2 : P 2) : ∀ c, c < 3 → P c
  | 0, _ => h0
  | 1, _ => h1
  | 2, _ => h2
  | k + 3, h => absurd h (by omega)
theorem ltn_4 {P : Nat → Prop} (h0 : P 0) (h1 : P 1) (h2 : P 2) (h3 : P 3) : ∀ c, c < 4 → P c
  | 0, _ => h0
  | 1, _ => h1
  | 2, _ => h2
  | 3, _ => h3
  | k + 4, h => absurd h (by omega)
theorem ltn_5 {P : Nat → Prop} (h0 : P 0) (h1 : P 1) (h2 : P 2) (h3 : P 3) (h4 : P 4) : ∀ c, c < 5 → P c
  | 0, _ => h0
  | 1, _ => h1
  | 2, _ => h2
  | 3, _ => h3
  | 4, _ => h4
  | k + 5, h => absurd h (by omega)
theorem ltn_6 {P : Nat → Prop} (h0 : P 0) (h1 : P 1) (h2 : P 2) (h3 : P 3) (h4 : P 4) (h5 : P 5) : ∀ c, c < 6 → P c
  | 0, _ => h0
  | 1, _ => h1
  | 2, _ => h2
  | 3, _ => h3
  | 4, _ => h4
  | 5, _ => h5
  | k + 6, h => absurd h (by omega)
theorem ltn_12 {P : Nat → Prop} (h0 : P 0) (h1 : P 1) (h2 : P 2) (h3 : P 3) (h4 : P 4) (h5 : P 5) (h6 : P 6) (h7 : P 7) (h8 : P 8) (h9 : P 9) (h10 : P 10) (h11 : P 11) : ∀ c, c < 12 → P c
  | 0, _ => h0
  | 1, _ => h1
  | 2, _ => h2
  | 3, _ => h3
  | 4, _ => h4
  | 5, _ => h5
  | 6, _ => h6
  | 7, _ => h7
  | 8, _ => h8
  | 9, _ => h9
  | 10, _ => h10
  | 11, _ => h11
  | k + 12, h => absurd h (by omega)
theorem ltn_13 {P : Nat → Prop} (h0 : P 0) (h1 : P 1) (h2 : P 2) (h3 : P 3) (h4 : P 4) (h5 : P 5) (h6 : P 6) (h7 : P 7) (h8 : P 8) (h9 : P 9) (h10 : P 10) (h11 : P 11) (h12 : P 12) : ∀ c, c < 13 → P c
  | 0, _ => h0
  | 1, _ => h1
  | 2, _ => h2
  | 3, _ => h3
  | 4, _ => h4
  | 5, _ => h5
  | 6, _ => h6
  | 7, _ => h7
  | 8, _ => h8
  | 9, _ => h9
  | 10, _ => h10
  | 11, _ => h11
  | 12, _ => h12
  | k + 13, h => absurd h (by omega)
theorem ns {args : Array Value} {s : State} (h : (Jvm.Cond.and given_1 narrow_1).before args s = true) {i : Nat} {w : Jvm.Cond} (hi : (flatC (Jvm.Cond.and given_1 narrow_1))[i]? = some w) : w.before args s = true := flat_of_before _ h _ (List.mem_of_getElem? hi)
theorem tm_1 {i : Nat} {w : Jvm.Cond} (hi : tables_1_1[i]? = some w) : w ∈ lw_tbl := by unfold lw_tbl tables_1; exact List.mem_append_right _ (List.mem_append_left _ (List.mem_of_getElem? hi))
theorem tm_2 {i : Nat} {w : Jvm.Cond} (hi : tables_1_2[i]? = some w) : w ∈ lw_tbl := by unfold lw_tbl tables_1; exact List.mem_append_right _ (List.mem_append_right _ (List.mem_append_left _ (List.mem_of_getElem? hi)))
theorem tm_3 {i : Nat} {w : Jvm.Cond} (hi : tables_1_3[i]? = some w) : w ∈ lw_tbl := by unfold lw_tbl tables_1; exact List.mem_append_right _ (List.mem_append_right _ (List.mem_append_right _ (List.mem_append_left _ (List.mem_of_getElem? hi))))
theorem tm_4 {i : Nat} {w : Jvm.Cond} (hi : tables_1_4[i]? = some w) : w ∈ lw_tbl := by unfold lw_tbl tables_1; exact List.mem_append_right _ (List.mem_append_right _ (List.mem_append_right _ (List.mem_append_right _ (List.mem_append_left _ (List.mem_of_getElem? hi)))))
theorem tm_5 {i : Nat} {w : Jvm.Cond} (hi : tables_1_5[i]? = some w) : w ∈ lw_tbl := by unfold lw_tbl tables_1; exact List.mem_append_right _ (List.mem_append_right _ (List.mem_append_right _ (List.mem_append_right _ (List.mem_append_right _ (List.mem_append_left _ (List.mem_of_getElem? hi))))))
theorem tm_6 {i : Nat} {w : Jvm.Cond} (hi : tables_1_6[i]? = some w) : w ∈ lw_tbl := by unfold lw_tbl tables_1; exact List.mem_append_right _ (List.mem_append_right _ (List.mem_append_right _ (List.mem_append_right _ (List.mem_append_right _ (List.mem_append_right _ (List.mem_append_left _ (List.mem_of_getElem? hi)))))))
theorem tm_7 {i : Nat} {w : Jvm.Cond} (hi : tables_1_7[i]? = some w) : w ∈ lw_tbl := by unfold lw_tbl tables_1; exact List.mem_append_right _ (List.mem_append_right _ (List.mem_append_right _ (List.mem_append_right _ (List.mem_append_right _ (List.mem_append_right _ (List.mem_append_right _ (List.mem_append_left _ (List.mem_of_getElem? hi))))))))
theorem tm_8 {i : Nat} {w : Jvm.Cond} (hi : tables_1_8[i]? = some w) : w ∈ lw_tbl := by unfold lw_tbl tables_1; exact List.mem_append_right _ (List.mem_append_right _ (List.mem_append_right _ (List.mem_append_right _ (List.mem_append_right _ (List.mem_append_right _ (List.mem_append_right _ (List.mem_append_right _ (List.mem_append_left _ (List.mem_of_getElem? hi)))))))))
theorem tm_9 {i : Nat} {w : Jvm.Cond} (hi : tables_1_9[i]? = some w) : w ∈ lw_tbl := by unfold lw_tbl tables_1; exact List.mem_append_right _ (List.mem_append_right _ (List.mem_append_right _ (List.mem_append_right _ (List.mem_append_right _ (List.mem_append_right _ (List.mem_append_right _ (List.mem_append_right _ (List.mem_append_right _ (List.mem_append_left _ (List.mem_of_getElem? hi))))))))))
theorem tm_10 {i : Nat} {w : Jvm.Cond} (hi : tables_1_10[i]? = some w) : w ∈ lw_tbl := by unfold lw_tbl tables_1; exact List.mem_append_right _ (List.mem_append_right _ (List.mem_append_right _ (List.mem_append_right _ (List.mem_append_right _ (List.mem_append_right _ (List.mem_append_right _ (List.mem_append_right _ (List.mem_append_right _ (List.mem_append_right _ (List.mem_of_getElem? hi))))))))))
def tmS (i : Nat) : Term := Term.string (strO i).1 (strO i).2.1
theorem n_ex {args : Array Value} {s : State} (h : (Jvm.Cond.and given_1 narrow_1).before args s = true) : ∀ i, i < 12 → (Cond.exactly (tmS i) "java/lang/String").before args s = true := ltn_12 (ns h (i := 9) rfl) (ns h (i := 17) rfl) (ns h (i := 25) rfl) (ns h (i := 32) rfl) (ns h (i := 42) rfl) (ns h (i := 53) rfl) (ns h (i := 65) rfl) (ns h (i := 78) rfl) (ns h (i := 91) rfl) (ns h (i := 106) rfl) (ns h (i := 125) rfl) (ns h (i := 143) rfl)
theorem n_co {args : Array Value} {s : State} (h : (Jvm.Cond.and given_1 narrow_1).before args s = true) : ∀ i, i < 12 → (Cond.eq (.field (tmS i) "java/lang/String" "coder" "B") (.int 0)).before args s = true := ltn_12 (ns h (i := 10) rfl) (ns h (i := 18) rfl) (ns h (i := 26) rfl) (ns h (i := 33) rfl) (ns h (i := 43) rfl) (ns h (i := 54) rfl) (ns h (i := 66) rfl) (ns h (i := 79) rfl) (ns h (i := 92) rfl) (ns h (i := 107) rfl) (ns h (i := 126) rfl) (ns h (i := 144) rfl)
theorem n_ar {args : Array Value} {s : State} (h : (Jvm.Cond.and given_1 narrow_1).before args s = true) : ∀ i, i < 12 → (Cond.arrayOf (.field (tmS i) "java/lang/String" "value" "[B") .byte).before args s = true := ltn_12 (ns h (i := 11) rfl) (ns h (i := 19) rfl) (ns h (i := 27) rfl) (ns h (i := 34) rfl) (ns h (i := 44) rfl) (ns h (i := 55) rfl) (ns h (i := 67) rfl) (ns h (i := 80) rfl) (ns h (i := 93) rfl) (ns h (i := 108) rfl) (ns h (i := 127) rfl) (ns h (i := 145) rfl)
theorem n_le {args : Array Value} {s : State} (h : (Jvm.Cond.and given_1 narrow_1).before args s = true) : ∀ i, i < 12 → (Cond.eq (.length (.field (tmS i) "java/lang/String" "value" "[B")) (.int (Int32.ofNat (sLen.getD i 0)))).before args s = true := ltn_12 (ns h (i := 12) rfl) (ns h (i := 20) rfl) (ns h (i := 28) rfl) (ns h (i := 35) rfl) (ns h (i := 45) rfl) (ns h (i := 56) rfl) (ns h (i := 68) rfl) (ns h (i := 81) rfl) (ns h (i := 94) rfl) (ns h (i := 109) rfl) (ns h (i := 128) rfl) (ns h (i := 146) rfl)
theorem n_el0 {args : Array Value} {s : State} (h : (Jvm.Cond.and given_1 narrow_1).before args s = true) : ∀ j : Nat, j < 4 → (Cond.eq (.elem (.field (tmS 0) "java/lang/String" "value" "[B") (.int (Int32.ofNat j))) (.int ((sByt.getD 0 []).getD j 0))).before args s = true := ltn_4 (ns h (i := 13) rfl) (ns h (i := 14) rfl) (ns h (i := 15) rfl) (ns h (i := 16) rfl)
theorem n_el1 {args : Array Value} {s : State} (h : (Jvm.Cond.and given_1 narrow_1).before args s = true) : ∀ j : Nat, j < 3 → (Cond.eq (.elem (.field (tmS 1) "java/lang/String" "value" "[B") (.int (Int32.ofNat j))) (.int ((sByt.getD 1 []).getD j 0))).before args s = true := ltn_3 (ns h (i := 21) rfl) (ns h (i := 22) rfl) (ns h (i := 23) rfl)
theorem n_el2 {args : Array Value} {s : State} (h : (Jvm.Cond.and given_1 narrow_1).before args s = true) : ∀ j : Nat, j < 1 → (Cond.eq (.elem (.field (tmS 2) "java/lang/String" "value" "[B") (.int (Int32.ofNat j))) (.int ((sByt.getD 2 []).getD j 0))).before args s = true := ltn_1 (ns h (i := 29) rfl)
theorem n_el3 {args : Array Value} {s : State} (h : (Jvm.Cond.and given_1 narrow_1).before args s = true) : ∀ j : Nat, j < 3 → (Cond.eq (.elem (.field (tmS 3) "java/lang/String" "value" "[B") (.int (Int32.ofNat j))) (.int ((sByt.getD 3 []).getD j 0))).before args s = true := ltn_3 (ns h (i := 36) rfl) (ns h (i := 37) rfl) (ns h (i := 38) rfl)
theorem n_el4 {args : Array Value} {s : State} (h : (Jvm.Cond.and given_1 narrow_1).before args s = true) : ∀ j : Nat, j < 3 → (Cond.eq (.elem (.field (tmS 4) "java/lang/String" "value" "[B") (.int (Int32.ofNat j))) (.int ((sByt.getD 4 []).getD j 0))).before args s = true := ltn_3 (ns h (i := 46) rfl) (ns h (i := 47) rfl) (ns h (i := 48) rfl)
theorem n_el5 {args : Array Value} {s : State} (h : (Jvm.Cond.and given_1 narrow_1).before args s = true) : ∀ j : Nat, j < 3 → (Cond.eq (.elem (.field (tmS 5) "java/lang/String" "value" "[B") (.int (Int32.ofNat j))) (.int ((sByt.getD 5 []).getD j 0))).before args s = true := ltn_3 (ns h (i := 57) rfl) (ns h (i := 58) rfl) (ns h (i := 59) rfl)
theorem n_el6 {args : Array Value} {s : State} (h : (Jvm.Cond.and given_1 narrow_1).before args s = true) : ∀ j : Nat, j < 3 → (Cond.eq (.elem (.field (tmS 6) "java/lang/String" "value" "[B") (.int (Int32.ofNat j))) (.int ((sByt.getD 6 []).getD j 0))).before args s = true := ltn_3 (ns h (i := 69) rfl) (ns h (i := 70) rfl) (ns h (i := 71) rfl)
theorem n_el7 {args : Array Value} {s : State} (h : (Jvm.Cond.and given_1 narrow_1).before args s = true) : ∀ j : Nat, j < 2 → (Cond.eq (.elem (.field (tmS 7) "java/lang/String" "value" "[B") (.int (Int32.ofNat j))) (.int ((sByt.getD 7 []).getD j 0))).before args s = true := ltn_2 (ns h (i := 82) rfl) (ns h (i := 83) rfl)
theorem n_el8 {args : Array Value} {s : State} (h : (Jvm.Cond.and given_1 narrow_1).before args s = true) : ∀ j : Nat, j < 3 → (Cond.eq (.elem (.field (tmS 8) "java/lang/String" "value" "[B") (.int (Int32.ofNat j))) (.int ((sByt.getD 8 []).getD j 0))).before args s = true := ltn_3 (ns h (i := 95) rfl) (ns h (i := 96) rfl) (ns h (i := 97) rfl)
theorem n_el9 {args : Array Value} {s : State} (h : (Jvm.Cond.and given_1 narrow_1).before args s = true) : ∀ j : Nat, j < 6 → (Cond.eq (.elem (.field (tmS 9) "java/lang/String" "value" "[B") (.int (Int32.ofNat j))) (.int ((sByt.getD 9 []).getD j 0))).before args s = true := ltn_6 (ns h (i := 110) rfl) (ns h (i := 111) rfl) (ns h (i := 112) rfl) (ns h (i := 113) rfl) (ns h (i := 114) rfl) (ns h (i := 115) rfl)
theorem n_el10 {args : Array Value} {s : State} (h : (Jvm.Cond.and given_1 narrow_1).before args s = true) : ∀ j : Nat, j < 4 → (Cond.eq (.elem (.field (tmS 10) "java/lang/String" "value" "[B") (.int (Int32.ofNat j))) (.int ((sByt.getD 10 []).getD j 0))).before args s = true := ltn_4 (ns h (i := 129) rfl) (ns h (i := 130) rfl) (ns h (i := 131) rfl) (ns h (i := 132) rfl)
theorem n_el11 {args : Array Value} {s : State} (h : (Jvm.Cond.and given_1 narrow_1).before args s = true) : ∀ j : Nat, j < 5 → (Cond.eq (.elem (.field (tmS 11) "java/lang/String" "value" "[B") (.int (Int32.ofNat j))) (.int ((sByt.getD 11 []).getD j 0))).before args s = true := ltn_5 (ns h (i := 147) rfl) (ns h (i := 148) rfl) (ns h (i := 149) rfl) (ns h (i := 150) rfl) (ns h (i := 151) rfl)
theorem n_el {args : Array Value} {s : State} (h : (Jvm.Cond.and given_1 narrow_1).before args s = true) : ∀ i, i < 12 → ∀ j : Nat, j < sLen.getD i 0 → (Cond.eq (.elem (.field (tmS i) "java/lang/String" "value" "[B") (.int (Int32.ofNat j))) (.int ((sByt.getD i []).getD j 0))).before args s = true := ltn_12 (n_el0 h) (n_el1 h) (n_el2 h) (n_el3 h) (n_el4 h) (n_el5 h) (n_el6 h) (n_el7 h) (n_el8 h) (n_el9 h) (n_el10 h) (n_el11 h)
theorem n_ne0 {args : Array Value} {s : State} (h : (Jvm.Cond.and given_1 narrow_1).before args s = true) : ∀ j : Nat, j < 12 → 0 ≠ j → (Cond.not (Cond.eq (tmS 0) (tmS j))).before args s = true ∨ (Cond.not (Cond.eq (tmS j) (tmS 0))).before args s = true := ltn_12 (fun e => absurd rfl e) (fun _ => Or.inl (ns h (i := 24) rfl)) (fun _ => Or.inl (ns h (i := 30) rfl)) (fun _ => Or.inl (ns h (i := 39) rfl)) (fun _ => Or.inl (ns h (i := 49) rfl)) (fun _ => Or.inl (ns h (i := 60) rfl)) (fun _ => Or.inl (ns h (i := 72) rfl)) (fun _ => Or.inl (ns h (i := 84) rfl)) (fun _ => Or.inl (ns h (i := 98) rfl)) (fun _ => Or.inl (ns h (i := 116) rfl)) (fun _ => Or.inl (ns h (i := 133) rfl)) (fun _ => Or.inl (ns h (i := 152) rfl))
theorem n_ne1 {args : Array Value} {s : State} (h : (Jvm.Cond.and given_1 narrow_1).before args s = true) : ∀ j : Nat, j < 12 → 1 ≠ j → (Cond.not (Cond.eq (tmS 1) (tmS j))).before args s = true ∨ (Cond.not (Cond.eq (tmS j) (tmS 1))).before args s = true := ltn_12 (fun _ => Or.inr (ns h (i := 24) rfl)) (fun e => absurd rfl e) (fun _ => Or.inl (ns h (i := 31) rfl)) (fun _ => Or.inl (ns h (i := 40) rfl)) (fun _ => Or.inl (ns h (i := 50) rfl)) (fun _ => Or.inl (ns h (i := 61) rfl)) (fun _ => Or.inl (ns h (i := 73) rfl)) (fun _ => Or.inl (ns h (i := 85) rfl)) (fun _ => Or.inl (ns h (i := 99) rfl)) (fun _ => Or.inl (ns h (i := 117) rfl)) (fun _ => Or.inl (ns h (i := 134) rfl)) (fun _ => Or.inl (ns h (i := 153) rfl))
theorem n_ne2 {args : Array Value} {s : State} (h : (Jvm.Cond.and given_1 narrow_1).before args s = true) : ∀ j : Nat, j < 12 → 2 ≠ j → (Cond.not (Cond.eq (tmS 2) (tmS j))).before args s = true ∨ (Cond.not (Cond.eq (tmS j) (tmS 2))).before args s = true := ltn_12 (fun _ => Or.inr (ns h (i := 30) rfl)) (fun _ => Or.inr (ns h (i := 31) rfl)) (fun e => absurd rfl e) (fun _ => Or.inl (ns h (i := 41) rfl)) (fun _ => Or.inl (ns h (i := 51) rfl)) (fun _ => Or.inl (ns h (i := 62) rfl)) (fun _ => Or.inl (ns h (i := 74) rfl)) (fun _ => Or.inl (ns h (i := 86) rfl)) (fun _ => Or.inl (ns h (i := 100) rfl)) (fun _ => Or.inl (ns h (i := 118) rfl)) (fun _ => Or.inl (ns h (i := 135) rfl)) (fun _ => Or.inl (ns h (i := 154) rfl))
theorem n_ne3 {args : Array Value} {s : State} (h : (Jvm.Cond.and given_1 narrow_1).before args s = true) : ∀ j : Nat, j < 12 → 3 ≠ j → (Cond.not (Cond.eq (tmS 3) (tmS j))).before args s = true ∨ (Cond.not (Cond.eq (tmS j) (tmS 3))).before args s = true := ltn_12 (fun _ => Or.inr (ns h (i := 39) rfl)) (fun _ => Or.inr (ns h (i := 40) rfl)) (fun _ => Or.inr (ns h (i := 41) rfl)) (fun e => absurd rfl e) (fun _ => Or.inl (ns h (i := 52) rfl)) (fun _ => Or.inl (ns h (i := 63) rfl)) (fun _ => Or.inl (ns h (i := 75) rfl)) (fun _ => Or.inl (ns h (i := 87) rfl)) (fun _ => Or.inl (ns h (i := 101) rfl)) (fun _ => Or.inl (ns h (i := 119) rfl)) (fun _ => Or.inl (ns h (i := 136) rfl)) (fun _ => Or.inl (ns h (i := 155) rfl))
theorem n_ne4 {args : Array Value} {s : State} (h : (Jvm.Cond.and given_1 narrow_1).before args s = true) : ∀ j : Nat, j < 12 → 4 ≠ j → (Cond.not (Cond.eq (tmS 4) (tmS j))).before args s = true ∨ (Cond.not (Cond.eq (tmS j) (tmS 4))).before args s = true := ltn_12 (fun _ => Or.inr (ns h (i := 49) rfl)) (fun _ => Or.inr (ns h (i := 50) rfl)) (fun _ => Or.inr (ns h (i := 51) rfl)) (fun _ => Or.inr (ns h (i := 52) rfl)) (fun e => absurd rfl e) (fun _ => Or.inl (ns h (i := 64) rfl)) (fun _ => Or.inl (ns h (i := 76) rfl)) (fun _ => Or.inl (ns h (i := 88) rfl)) (fun _ => Or.inl (ns h (i := 102) rfl)) (fun _ => Or.inl (ns h (i := 120) rfl)) (fun _ => Or.inl (ns h (i := 137) rfl)) (fun _ => Or.inl (ns h (i := 156) rfl))
theorem n_ne5 {args : Array Value} {s : State} (h : (Jvm.Cond.and given_1 narrow_1).before args s = true) : ∀ j : Nat, j < 12 → 5 ≠ j → (Cond.not (Cond.eq (tmS 5) (tmS j))).before args s = true ∨ (Cond.not (Cond.eq (tmS j) (tmS 5))).before args s = true := ltn_12 (fun _ => Or.inr (ns h (i := 60) rfl)) (fun _ => Or.inr (ns h (i := 61) rfl)) (fun _ => Or.inr (ns h (i := 62) rfl)) (fun _ => Or.inr (ns h (i := 63) rfl)) (fun _ => Or.inr (ns h (i := 64) rfl)) (fun e => absurd rfl e) (fun _ => Or.inl (ns h (i := 77) rfl)) (fun _ => Or.inl (ns h (i := 89) rfl)) (fun _ => Or.inl (ns h (i := 103) rfl)) (fun _ => Or.inl (ns h (i := 121) rfl)) (fun _ => Or.inl (ns h (i := 138) rfl)) (fun _ => Or.inl (ns h (i := 157) rfl))
theorem n_ne6 {args : Array Value} {s : State} (h : (Jvm.Cond.and given_1 narrow_1).before args s = true) : ∀ j : Nat, j < 12 → 6 ≠ j → (Cond.not (Cond.eq (tmS 6) (tmS j))).before args s = true ∨ (Cond.not (Cond.eq (tmS j) (tmS 6))).before args s = true := ltn_12 (fun _ => Or.inr (ns h (i := 72) rfl)) (fun _ => Or.inr (ns h (i := 73) rfl)) (fun _ => Or.inr (ns h (i := 74) rfl)) (fun _ => Or.inr (ns h (i := 75) rfl)) (fun _ => Or.inr (ns h (i := 76) rfl)) (fun _ => Or.inr (ns h (i := 77) rfl)) (fun e => absurd rfl e) (fun _ => Or.inl (ns h (i := 90) rfl)) (fun _ => Or.inl (ns h (i := 104) rfl)) (fun _ => Or.inl (ns h (i := 122) rfl)) (fun _ => Or.inl (ns h (i := 139) rfl)) (fun _ => Or.inl (ns h (i := 158) rfl))
theorem n_ne7 {args : Array Value} {s : State} (h : (Jvm.Cond.and given_1 narrow_1).before args s = true) : ∀ j : Nat, j < 12 → 7 ≠ j → (Cond.not (Cond.eq (tmS 7) (tmS j))).before args s = true ∨ (Cond.not (Cond.eq (tmS j) (tmS 7))).before args s = true := ltn_12 (fun _ => Or.inr (ns h (i := 84) rfl)) (fun _ => Or.inr (ns h (i := 85) rfl)) (fun _ => Or.inr (ns h (i := 86) rfl)) (fun _ => Or.inr (ns h (i := 87) rfl)) (fun _ => Or.inr (ns h (i := 88) rfl)) (fun _ => Or.inr (ns h (i := 89) rfl)) (fun _ => Or.inr (ns h (i := 90) rfl)) (fun e => absurd rfl e) (fun _ => Or.inl (ns h (i := 105) rfl)) (fun _ => Or.inl (ns h (i := 123) rfl)) (fun _ => Or.inl (ns h (i := 140) rfl)) (fun _ => Or.inl (ns h (i := 159) rfl))
theorem n_ne8 {args : Array Value} {s : State} (h : (Jvm.Cond.and given_1 narrow_1).before args s = true) : ∀ j : Nat, j < 12 → 8 ≠ j → (Cond.not (Cond.eq (tmS 8) (tmS j))).before args s = true ∨ (Cond.not (Cond.eq (tmS j) (tmS 8))).before args s = true := ltn_12 (fun _ => Or.inr (ns h (i := 98) rfl)) (fun _ => Or.inr (ns h (i := 99) rfl)) (fun _ => Or.inr (ns h (i := 100) rfl)) (fun _ => Or.inr (ns h (i := 101) rfl)) (fun _ => Or.inr (ns h (i := 102) rfl)) (fun _ => Or.inr (ns h (i := 103) rfl)) (fun _ => Or.inr (ns h (i := 104) rfl)) (fun _ => Or.inr (ns h (i := 105) rfl)) (fun e => absurd rfl e) (fun _ => Or.inl (ns h (i := 124) rfl)) (fun _ => Or.inl (ns h (i := 141) rfl)) (fun _ => Or.inl (ns h (i := 160) rfl))
theorem n_ne9 {args : Array Value} {s : State} (h : (Jvm.Cond.and given_1 narrow_1).before args s = true) : ∀ j : Nat, j < 12 → 9 ≠ j → (Cond.not (Cond.eq (tmS 9) (tmS j))).before args s = true ∨ (Cond.not (Cond.eq (tmS j) (tmS 9))).before args s = true := ltn_12 (fun _ => Or.inr (ns h (i := 116) rfl)) (fun _ => Or.inr (ns h (i := 117) rfl)) (fun _ => Or.inr (ns h (i := 118) rfl)) (fun _ => Or.inr (ns h (i := 119) rfl)) (fun _ => Or.inr (ns h (i := 120) rfl)) (fun _ => Or.inr (ns h (i := 121) rfl)) (fun _ => Or.inr (ns h (i := 122) rfl)) (fun _ => Or.inr (ns h (i := 123) rfl)) (fun _ => Or.inr (ns h (i := 124) rfl)) (fun e => absurd rfl e) (fun _ => Or.inl (ns h (i := 142) rfl)) (fun _ => Or.inl (ns h (i := 161) rfl))
theorem n_ne10 {args : Array Value} {s : State} (h : (Jvm.Cond.and given_1 narrow_1).before args s = true) : ∀ j : Nat, j < 12 → 10 ≠ j → (Cond.not (Cond.eq (tmS 10) (tmS j))).before args s = true ∨ (Cond.not (Cond.eq (tmS j) (tmS 10))).before args s = true := ltn_12 (fun _ => Or.inr (ns h (i := 133) rfl)) (fun _ => Or.inr (ns h (i := 134) rfl)) (fun _ => Or.inr (ns h (i := 135) rfl)) (fun _ => Or.inr (ns h (i := 136) rfl)) (fun _ => Or.inr (ns h (i := 137) rfl)) (fun _ => Or.inr (ns h (i := 138) rfl)) (fun _ => Or.inr (ns h (i := 139) rfl)) (fun _ => Or.inr (ns h (i := 140) rfl)) (fun _ => Or.inr (ns h (i := 141) rfl)) (fun _ => Or.inr (ns h (i := 142) rfl)) (fun e => absurd rfl e) (fun _ => Or.inl (ns h (i := 162) rfl))
theorem n_ne11 {args : Array Value} {s : State} (h : (Jvm.Cond.and given_1 narrow_1).before args s = true) : ∀ j : Nat, j < 12 → 11 ≠ j → (Cond.not (Cond.eq (tmS 11) (tmS j))).before args s = true ∨ (Cond.not (Cond.eq (tmS j) (tmS 11))).before args s = true := ltn_12 (fun _ => Or.inr (ns h (i := 152) rfl)) (fun _ => Or.inr (ns h (i := 153) rfl)) (fun _ => Or.inr (ns h (i := 154) rfl)) (fun _ => Or.inr (ns h (i := 155) rfl)) (fun _ => Or.inr (ns h (i := 156) rfl)) (fun _ => Or.inr (ns h (i := 157) rfl)) (fun _ => Or.inr (ns h (i := 158) rfl)) (fun _ => Or.inr (ns h (i := 159) rfl)) (fun _ => Or.inr (ns h (i := 160) rfl)) (fun _ => Or.inr (ns h (i := 161) rfl)) (fun _ => Or.inr (ns h (i := 162) rfl)) (fun e => absurd rfl e)
theorem n_ne {args : Array Value} {s : State} (h : (Jvm.Cond.and given_1 narrow_1).before args s = true) : ∀ i, i < 12 → ∀ j : Nat, j < 12 → i ≠ j → (Cond.not (Cond.eq (tmS i) (tmS j))).before args s = true ∨ (Cond.not (Cond.eq (tmS j) (tmS i))).before args s = true := ltn_12 (n_ne0 h) (n_ne1 h) (n_ne2 h) (n_ne3 h) (n_ne4 h) (n_ne5 h) (n_ne6 h) (n_ne7 h) (n_ne8 h) (n_ne9 h) (n_ne10 h) (n_ne11 h)
theorem start_arr {s : State} {args : Array Value} {ty : FieldType} (h : (Cond.arrayClass ty).before args s = true) : ∃ cA, ArrOfT s cA ty ∧ s.vm.findClass ("[" ++ ty.toString) = some cA := by
  obtain ⟨c, k, comp, h1, h2, h3⟩ := Cond.arrayClass_spec h
  exact ⟨c, fun n z => ⟨fun k h => (by cases h), k, h2, comp, h3⟩, h1⟩
theorem start_ao {s : State} {args : Array Value} {C : String} (h : (Cond.arrayOver (.object C)).before args s = true) : ∃ cA, ArrOfT s cA (.object C) ∧ va_RA s cA (.object C) := by
  obtain ⟨comp, c, k, h1, h2, h3, h4, h5⟩ := Cond.arrayOver_spec h
  exact ⟨c, fun n z => ⟨fun k h => (by cases h), k, h3, comp, h4⟩, k, comp, h3, h4, h1, h5⟩
theorem in_ok : ∀ c, c < 13 → (Cond.instantiable (cnm c) (nf c)) ∈ lw_tbl ∧ ∀ w ∈ u_ws (cnm c) (cT c) (nf c), w ∈ TBL := ltn_13 ⟨(tm_2 (i := 109) rfl), uw_0⟩ ⟨(tm_1 (i := 187) rfl), uw_1⟩ ⟨(tm_2 (i := 227) rfl), uw_2⟩ ⟨(tm_2 (i := 183) rfl), uw_3⟩ ⟨(tm_1 (i := 220) rfl), uw_4⟩ ⟨(tm_1 (i := 133) rfl), uw_5⟩ ⟨(tm_2 (i := 115) rfl), uw_6⟩ ⟨(tm_1 (i := 29) rfl), uw_7⟩ ⟨(tm_1 (i := 213) rfl), uw_8⟩ ⟨(tm_1 (i := 168) rfl), uw_9⟩ ⟨(tm_1 (i := 72) rfl), uw_10⟩ ⟨(tm_1 (i := 21) rfl), uw_11⟩ ⟨(tm_6 (i := 175) rfl), uw_12⟩
theorem sr_ok : ∀ j, j < 12 → (Cond.stringRef (strO j).1 (strO j).2.1 (strO j).2.2) ∈ lw_tbl := ltn_12 (tm_4 (i := 131) rfl) (tm_4 (i := 213) rfl) (tm_4 (i := 222) rfl) (tm_4 (i := 223) rfl) (tm_4 (i := 224) rfl) (tm_4 (i := 225) rfl) (tm_5 (i := 24) rfl) (tm_5 (i := 25) rfl) (tm_5 (i := 30) rfl) (tm_5 (i := 35) rfl) (tm_5 (i := 40) rfl) (tm_5 (i := 41) rfl)
theorem nst_ok : ∀ w ∈ NST, w.onTables = true ∧ w ∈ lw_tbl := (List.forall_mem_cons.mpr ⟨⟨rfl, (tm_1 (i := 30) rfl)⟩, (List.forall_mem_cons.mpr ⟨⟨rfl, (tm_1 (i := 188) rfl)⟩, (List.forall_mem_cons.mpr ⟨⟨rfl, (tm_1 (i := 221) rfl)⟩, (List.forall_mem_cons.mpr ⟨⟨rfl, (tm_3 (i := 62) rfl)⟩, (List.forall_mem_cons.mpr ⟨⟨rfl, (tm_3 (i := 127) rfl)⟩, (List.forall_mem_cons.mpr ⟨⟨rfl, (tm_3 (i := 178) rfl)⟩, (List.forall_mem_cons.mpr ⟨⟨rfl, (tm_3 (i := 186) rfl)⟩, (List.forall_mem_cons.mpr ⟨⟨rfl, (tm_3 (i := 203) rfl)⟩, (List.forall_mem_cons.mpr ⟨⟨rfl, (tm_4 (i := 200) rfl)⟩, (List.forall_mem_cons.mpr ⟨⟨rfl, (tm_5 (i := 176) rfl)⟩, (List.forall_mem_cons.mpr ⟨⟨rfl, (tm_6 (i := 22) rfl)⟩, (List.forall_mem_cons.mpr ⟨⟨rfl, (tm_6 (i := 98) rfl)⟩, (fun w hw => by cases hw)⟩)⟩)⟩)⟩)⟩)⟩)⟩)⟩)⟩)⟩)⟩)⟩)
theorem TBL_sub : ∀ w ∈ TBL, w ∈ lw_tbl := fun w hw => (List.mem_filter.mp hw).1
/-- all that the walk needs of the start -/
theorem start_EX {p : Program} {s : State} {m : MethodId} {meth : Method} {c : Code} {b L : Nat} {xs : Nat → Int32} (C0 : lw_At p s m meth c b L xs) : ∃ G : GE, G.1 = s.heap.size ∧ G.2.1 = b ∧ EX2 G L xs s s.heap := by
  obtain ⟨hx, hb, hr, hml, hown, hts, hX, hbl, hlocks, hgv⟩ := C0
  have hA : ∀ a : Nat, a < s.heap.size → ¬ s.heap.size ≤ a := fun a h q => by omega
  obtain ⟨adK, adV, k1, k2⟩ := vk_Sof (N := 12) (tm := tmS) (len := sLen) (byt := sByt) (A := fun q => s.heap.size ≤ q) (by decide +kernel) (n_ex hgv) (n_co hgv) (n_ar hgv) (n_le hgv) (n_el hgv) (fun i j hi hj => n_ne hgv i hi j hj) hA
  have hcl : ∀ c : Nat, ∃ q : ClassId × (Nat → Nat), c < 13 → u_Kn s (cnm c) (cT c) (nf c) q.1 q.2 := fun c => by
    by_cases hc : c < 13
    · obtain ⟨cC, iS, hk⟩ := u_known (ws := TBL) (T := cT c) (N := nf c) (fun w hw => hts w (TBL_sub w hw)) (in_ok c hc).2 (hts _ (in_ok c hc).1)
      exact ⟨(cC, iS), fun _ => hk⟩
    · exact ⟨(0, fun _ => 0), fun q => absurd q hc⟩
  obtain ⟨D, hD⟩ := Classical.axiomOfChoice hcl
  obtain ⟨c3, a3, f3⟩ := start_arr (hts _ (tm_1 (i := 70) rfl))
  obtain ⟨c4, a4, f4⟩ := start_arr (hts _ (tm_1 (i := 130) rfl))
  obtain ⟨c5, a5, f5⟩ := start_arr (hts _ (tm_1 (i := 131) rfl))
  obtain ⟨c6, a6, f6⟩ := start_arr (hts _ (tm_2 (i := 225) rfl))
  obtain ⟨c7, a7, f7⟩ := start_ao (C := RX4) (hts _ (tm_1 (i := 219) rfl))
  refine ⟨(s.heap.size, b, adK, (fun c => (D c).1, fun c => (D c).2), fun t => if t = 3 then c3 else if t = 4 then c4 else if t = 5 then c5 else if t = 6 then c6 else c7), rfl, rfl, ⟨fun c q hq => ?_, fun k q hk => ?_⟩, hX, hbl, hbl, fun w hw => va_Nw.of (nst_ok w hw).1 (hts _ (nst_ok w hw).2), va_AO.of (hts _ (tm_1 (i := 219) rfl)), ⟨adV, k1⟩, fun j hj => vk_R.of (hts _ (sr_ok j hj)) (k2 j hj), va_Zof (hts _ (tm_4 (i := 157) rfl)) (hts _ (tm_1 (i := 15) rfl)) (va_eqt (ns hgv (i := 4) rfl)) hA, ?_⟩
  · have hc : c < 13 := (List.getElem?_eq_some_iff.mp hq).1
    rw [cl_at c hc] at hq
    cases hq
    exact hD c hc
  · have key : ∀ k, k < 5 → ∀ q : ClassId × FieldType, ([(c3, .int), (c4, .boolean), (c5, .byte), (c6, .long), (c7, .object RX4)] : List (ClassId × FieldType))[k]? = some q → ArrOfT s q.1 q.2 ∧ va_RA s q.1 q.2 := ltn_5 (fun q e => by cases e; exact ⟨a3, f3⟩) (fun q e => by cases e; exact ⟨a4, f4⟩) (fun q e => by cases e; exact ⟨a5, f5⟩) (fun q e => by cases e; exact ⟨a6, f6⟩) (fun q e => by cases e; exact ⟨a7, f7⟩)
    exact key k (List.getElem?_eq_some_iff.mp hk).1 q hk
  · rcases va_Zqof (A := fun q => s.heap.size ≤ q) (hts _ (tm_4 (i := 177) rfl)) (hts _ (tm_1 (i := 17) rfl)) (ns hgv (i := 5) rfl) hA with hz | ⟨t, hz⟩
    · exact ⟨.null, rfl, hz⟩
    · exact ⟨.ref t, rfl, hz⟩
