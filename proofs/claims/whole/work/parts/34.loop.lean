def PI (d : Nat) (CI : Nat → SD → Prop) (y z : Nat) (res : Int → V) (a : List V) : Prop := ∀ (i : Nat) (S : SD), i < 512 → CI i S → ∃ (x : Int) (S1 S2 : SD), EE false d y (vr (some (2, 0)) :: a) S = some (res x, S1) ∧ S1.1 0 = S.1 0 ∧ EE false d z (vr (some (85, 0)) :: a) S1 = some (res x, S2) ∧ CI (i + 1) S2
/-- every call answers alike, and keeps what ties the two sides -/
def ALLP (d : Nat) (CI : Nat → SD → Prop) : Prop := (∀ a1 a2 a3 a4 a5 : Int, r32 a1 → r32 a2 → r32 a3 → r32 a4 → r32 a5 → PI d CI 148 198 vi [vi a1, vi a2, vi a3, vi a4, vi a5]) ∧ (∀ a1 a2 a3 : Int, r32 a1 → r32 a2 → r32 a3 → PI d CI 149 199 vi [vi a1, vi a2, vi a3]) ∧ (∀ a1 a2 : Int, r32 a1 → r32 a2 → PI d CI 150 200 vi [vi a1, vi a2]) ∧ (PI d CI 151 259 vi []) ∧ (∀ a1 a2 a3 a4 a5 a6 : Int, r32 a1 → r32 a2 → r32 a3 → r32 a4 → r32 a5 → r32 a6 → PI d CI 152 211 vi [vi a1, vi a2, vi a3, vi a4, vi a5, vi a6]) ∧ (∀ a1 a2 : Int, r32 a1 → r32 a2 → PI d CI 153 212 vi [vi a1, vi a2]) ∧ (∀ a1 a2 : Int, r32 a1 → r32 a2 → PI d CI 154 204 vi [vi a1, vi a2]) ∧ (∀ a1 a2 : Int, r32 a1 → r32 a2 → PI d CI 155 214 vi [vi a1, vi a2]) ∧ (∀ a1 a2 : Int, r32 a1 → r32 a2 → PI d CI 156 215 vi [vi a1, vi a2]) ∧ (∀ a1 : Int, r32 a1 → PI d CI 157 216 vi [vi a1]) ∧ (∀ a1 a2 a3 a4 : Int, r32 a1 → r32 a2 → r32 a3 → r32 a4 → PI d CI 158 219 vi [vi a1, vi a2, vi a3, vi a4]) ∧ (∀ a1 a2 a3 a4 a5 : Int, r32 a1 → r32 a2 → r32 a3 → r32 a4 → r32 a5 → PI d CI 159 220 vi [vi a1, vi a2, vi a3, vi a4, vi a5]) ∧ (∀ a1 a2 a3 a4 a5 : Int, r32 a1 → r32 a2 → r32 a3 → r32 a4 → r32 a5 → PI d CI 160 222 vi [vi a1, vi a2, vi a3, vi a4, vi a5]) ∧ (∀ a1 : Int, r32 a1 → PI d CI 161 223 vi [vi a1]) ∧ (∀ a1 : Int, r32 a1 → PI d CI 162 246 vi [vi a1]) ∧ (∀ a1 b, r32 a1 → (b = 0 ∨ b = 1) → PI d CI 163 248 vi [vi a1, vi b]) ∧ (∀ a1 a2 a3 : Int, r32 a1 → r32 a2 → r32 a3 → PI d CI 164 256 vi [vi a1, vi a2, vi a3]) ∧ (∀ a1 a2 : Int, r32 a1 → r32 a2 → PI d CI 165 260 vi [vi a1, vi a2]) ∧ (∀ a1 a2 a3 : Int, r32 a1 → r32 a2 → r32 a3 → PI d CI 166 261 vi [vi a1, vi a2, vi a3]) ∧ (∀ a1 a2 a3 a4 : Int, r32 a1 → r32 a2 → r32 a3 → r32 a4 → PI d CI 167 263 vi [vi a1, vi a2, vi a3, vi a4]) ∧ (∀ a1 a2 a3 : Int, r32 a1 → r32 a2 → r32 a3 → PI d CI 168 265 vi [vi a1, vi a2, vi a3]) ∧ (∀ a1 a2 a3 : Int, r32 a1 → r32 a2 → r32 a3 → PI d CI 169 267 vi [vi a1, vi a2, vi a3]) ∧ (∀ a1 : Int, r32 a1 → PI d CI 170 270 vi [vi a1]) ∧ (∀ a1 b, r32 a1 → (b = 0 ∨ b = 1) → PI d CI 171 271 vi [vi a1, vi b]) ∧ (∀ a1 a2 : Int, r32 a1 → r32 a2 → PI d CI 172 272 vi [vi a1, vi a2]) ∧ (∀ a1 a2 : Int, r32 a1 → r32 a2 → PI d CI 173 280 vi [vi a1, vi a2]) ∧ (PI d CI 174 286 vi []) ∧ (∀ a1 a2 : Int, r32 a1 → r32 a2 → PI d CI 175 287 vi [vi a1, vi a2]) ∧ (∀ a1 w a4, r32 a1 → r64 w → r32 a4 → PI d CI 176 288 vi [vi a1, vl w, vi a4]) ∧ (∀ a1 a2 : Int, r32 a1 → r32 a2 → PI d CI 177 291 vi [vi a1, vi a2]) ∧ (∀ a1 : Int, r32 a1 → PI d CI 178 292 vi [vi a1]) ∧ (PI d CI 179 293 vl []) ∧ (∀ a1 a2 : Int, r32 a1 → r32 a2 → PI d CI 180 295 vi [vi a1, vi a2]) ∧ (∀ a1 a2 a3 : Int, r32 a1 → r32 a2 → r32 a3 → PI d CI 181 296 vi [vi a1, vi a2, vi a3]) ∧ (∀ a1 a2 : Int, r32 a1 → r32 a2 → PI d CI 182 300 vi [vi a1, vi a2]) ∧ (∀ a1 b, r32 a1 → (b = 0 ∨ b = 1) → PI d CI 183 301 vi [vi a1, vi b]) ∧ (∀ a1 : Int, r32 a1 → PI d CI 184 302 vi [vi a1]) ∧ (∀ a1 : Int, r32 a1 → PI d CI 185 303 vi [vi a1]) ∧ (∀ a1 : Int, r32 a1 → PI d CI 186 304 vi [vi a1]) ∧ (∀ a1 a2 : Int, r32 a1 → r32 a2 → PI d CI 187 305 vi [vi a1, vi a2]) ∧ (∀ a1 : Int, r32 a1 → PI d CI 188 306 vi [vi a1])
theorem LAW_loop {d L : Nat} {xs : Nat → Int32} {CI : Nat → SD → Prop} (A : ALLP d CI) (hL : L ≤ 3584) (hs : ∀ i S, CI i S → (∀ k, k < L → S.1 0 0 k = (xs k).toInt) ∧ S.1 0 1 0 = (L : Int) ∧ S.2.2.2 ≤ 7302250) (hid : ∀ i S, i < 512 → CI i S → CI (i + 1) S) : ∀ (n i : Nat) (S : SD), 7 * i ≤ L + 7 → L + 7 < 7 * i + n → CI i S → ∃ S2, run oo (EE false d) false mi_307 n 18 [(0, vr (some (0, 0))), (1, vr (some (2, 0))), (2, vr (some (85, 0))), (3, vi (7 * (i : Int)))] [] S = some (vi 1, S2) ∧ S2.2.2.2 ≤ 7302250 := by
  obtain ⟨p0, p1, p2, p3, p4, p5, p6, p7, p8, p9, p10, p11, p12, p13, p14, p15, p16, p17, p18, p19, p20, p21, p22, p23, p24, p25, p26, p27, p28, p29, p30, p31, p32, p33, p34, p35, p36, p37, p38, p39, p40⟩ := A
  intro n
  induction n with
  | zero => intro i S h1 h2; omega
  | succ n ih =>
  intro i S h1 h2 hCI
  obtain ⟨s1, s2, s3⟩ := hs i S hCI
  have s2 : gD S 0 1 0 = (L : Int) := s2
  by_cases hlt : aw oo (gD S 0 1 0 - 7) < 7 * (i : Int)
  · exact ⟨S, by rw [b307_18, if_pos hlt], s3⟩
  have hl : aw oo (gD S 0 1 0 - 7) = (L : Int) - 7 := by rw [s2]; exact aw_id (by omega)
  have hl2 : 7 * (i : Int) + 7 ≤ L := by rw [hl] at hlt; omega
  have hi : i < 512 := by omega
  have hb : 0 ≤ 7 * (i : Int) ∧ 7 * (i : Int) + 6 < gD S 0 1 0 := by rw [s2]; omega
  have hm : 7 * (i : Int) < 100000 := by omega
  have e7 : 7 * (i : Int) + 7 = 7 * ((i + 1 : Nat) : Int) := by omega
  have hr : ∀ k : Nat, k < L → r32 (gD S 0 0 k) := fun k hk => by
    show r32 (S.1 0 0 k)
    rw [s1 k hk]
    exact ⟨Int32.le_toInt (xs k), Int32.toInt_lt (xs k)⟩
  by_cases hc0 : ab oo 0 (gD S 0 0 (7 * (i : Int)).toNat) 63 = 0
  · have hc := hc0
    obtain ⟨x, S1, S2, q1, q2, q3, q4⟩ := p0 (gD S 0 0 (7 * (i : Int) + 1).toNat) (gD S 0 0 (7 * (i : Int) + 2).toNat) (gD S 0 0 (7 * (i : Int) + 3).toNat) (gD S 0 0 (7 * (i : Int) + 4).toNat) (gD S 0 0 (7 * (i : Int) + 5).toNat) (hr _ (by omega)) (hr _ (by omega)) (hr _ (by omega)) (hr _ (by omega)) (hr _ (by omega)) i S hi hCI
    rw [lc_0 hlt hb hm hc q2 q1 q3, e7]
    exact ih (i + 1) S2 (by omega) (by omega) q4
  by_cases hc1 : ab oo 0 (gD S 0 0 (7 * (i : Int)).toNat) 63 = 1
  · have hc := hc1
    obtain ⟨x, S1, S2, q1, q2, q3, q4⟩ := p1 (gD S 0 0 (7 * (i : Int) + 1).toNat) (gD S 0 0 (7 * (i : Int) + 2).toNat) (gD S 0 0 (7 * (i : Int) + 3).toNat) (hr _ (by omega)) (hr _ (by omega)) (hr _ (by omega)) i S hi hCI
    rw [lc_1 hlt hb hm hc q2 q1 q3, e7]
    exact ih (i + 1) S2 (by omega) (by omega) q4
  by_cases hc2 : ab oo 0 (gD S 0 0 (7 * (i : Int)).toNat) 63 = 2
  · have hc := hc2
    obtain ⟨x, S1, S2, q1, q2, q3, q4⟩ := p2 (gD S 0 0 (7 * (i : Int) + 1).toNat) (gD S 0 0 (7 * (i : Int) + 2).toNat) (hr _ (by omega)) (hr _ (by omega)) i S hi hCI
    rw [lc_2 hlt hb hm hc q2 q1 q3, e7]
    exact ih (i + 1) S2 (by omega) (by omega) q4
  by_cases hc3 : ab oo 0 (gD S 0 0 (7 * (i : Int)).toNat) 63 = 3
  · have hc := hc3
    obtain ⟨x, S1, S2, q1, q2, q3, q4⟩ := p3   i S hi hCI
    rw [lc_3 hlt hb hm hc q2 q1 q3, e7]
    exact ih (i + 1) S2 (by omega) (by omega) q4
  by_cases hc4 : ab oo 0 (gD S 0 0 (7 * (i : Int)).toNat) 63 = 4
  · have hc := hc4
    obtain ⟨x, S1, S2, q1, q2, q3, q4⟩ := p4 (gD S 0 0 (7 * (i : Int) + 1).toNat) (gD S 0 0 (7 * (i : Int) + 2).toNat) (gD S 0 0 (7 * (i : Int) + 3).toNat) (gD S 0 0 (7 * (i : Int) + 4).toNat) (gD S 0 0 (7 * (i : Int) + 5).toNat) (gD S 0 0 (7 * (i : Int) + 6).toNat) (hr _ (by omega)) (hr _ (by omega)) (hr _ (by omega)) (hr _ (by omega)) (hr _ (by omega)) (hr _ (by omega)) i S hi hCI
    rw [lc_4 hlt hb hm hc q2 q1 q3, e7]
    exact ih (i + 1) S2 (by omega) (by omega) q4
  by_cases hc5 : ab oo 0 (gD S 0 0 (7 * (i : Int)).toNat) 63 = 5
  · have hc := hc5
    obtain ⟨x, S1, S2, q1, q2, q3, q4⟩ := p5 (gD S 0 0 (7 * (i : Int) + 1).toNat) (gD S 0 0 (7 * (i : Int) + 2).toNat) (hr _ (by omega)) (hr _ (by omega)) i S hi hCI
    rw [lc_5 hlt hb hm hc q2 q1 q3, e7]
    exact ih (i + 1) S2 (by omega) (by omega) q4
  by_cases hc6 : ab oo 0 (gD S 0 0 (7 * (i : Int)).toNat) 63 = 6
  · have hc := hc6
    obtain ⟨x, S1, S2, q1, q2, q3, q4⟩ := p6 (gD S 0 0 (7 * (i : Int) + 1).toNat) (gD S 0 0 (7 * (i : Int) + 2).toNat) (hr _ (by omega)) (hr _ (by omega)) i S hi hCI
    rw [lc_6 hlt hb hm hc q2 q1 q3, e7]
    exact ih (i + 1) S2 (by omega) (by omega) q4
  by_cases hc7 : ab oo 0 (gD S 0 0 (7 * (i : Int)).toNat) 63 = 7
  · have hc := hc7
    obtain ⟨x, S1, S2, q1, q2, q3, q4⟩ := p7 (gD S 0 0 (7 * (i : Int) + 1).toNat) (gD S 0 0 (7 * (i : Int) + 2).toNat) (hr _ (by omega)) (hr _ (by omega)) i S hi hCI
    rw [lc_7 hlt hb hm hc q2 q1 q3, e7]
    exact ih (i + 1) S2 (by omega) (by omega) q4
  by_cases hc8 : ab oo 0 (gD S 0 0 (7 * (i : Int)).toNat) 63 = 8
  · have hc := hc8
    obtain ⟨x, S1, S2, q1, q2, q3, q4⟩ := p8 (gD S 0 0 (7 * (i : Int) + 1).toNat) (gD S 0 0 (7 * (i : Int) + 2).toNat) (hr _ (by omega)) (hr _ (by omega)) i S hi hCI
    rw [lc_8 hlt hb hm hc q2 q1 q3, e7]
    exact ih (i + 1) S2 (by omega) (by omega) q4
  by_cases hc9 : ab oo 0 (gD S 0 0 (7 * (i : Int)).toNat) 63 = 9
  · have hc := hc9
    obtain ⟨x, S1, S2, q1, q2, q3, q4⟩ := p9 (gD S 0 0 (7 * (i : Int) + 1).toNat) (hr _ (by omega)) i S hi hCI
    rw [lc_9 hlt hb hm hc q2 q1 q3, e7]
    exact ih (i + 1) S2 (by omega) (by omega) q4
  by_cases hc10 : ab oo 0 (gD S 0 0 (7 * (i : Int)).toNat) 63 = 10
  · have hc := hc10
    obtain ⟨x, S1, S2, q1, q2, q3, q4⟩ := p10 (gD S 0 0 (7 * (i : Int) + 1).toNat) (gD S 0 0 (7 * (i : Int) + 2).toNat) (gD S 0 0 (7 * (i : Int) + 3).toNat) (gD S 0 0 (7 * (i : Int) + 4).toNat) (hr _ (by omega)) (hr _ (by omega)) (hr _ (by omega)) (hr _ (by omega)) i S hi hCI
    rw [lc_10 hlt hb hm hc q2 q1 q3, e7]
    exact ih (i + 1) S2 (by omega) (by omega) q4
  by_cases hc11 : ab oo 0 (gD S 0 0 (7 * (i : Int)).toNat) 63 = 11
  · have hc := hc11
    obtain ⟨x, S1, S2, q1, q2, q3, q4⟩ := p11 (gD S 0 0 (7 * (i : Int) + 1).toNat) (gD S 0 0 (7 * (i : Int) + 2).toNat) (gD S 0 0 (7 * (i : Int) + 3).toNat) (gD S 0 0 (7 * (i : Int) + 4).toNat) (gD S 0 0 (7 * (i : Int) + 5).toNat) (hr _ (by omega)) (hr _ (by omega)) (hr _ (by omega)) (hr _ (by omega)) (hr _ (by omega)) i S hi hCI
    rw [lc_11 hlt hb hm hc q2 q1 q3, e7]
    exact ih (i + 1) S2 (by omega) (by omega) q4
  by_cases hc12 : ab oo 0 (gD S 0 0 (7 * (i : Int)).toNat) 63 = 12
  · have hc := hc12
    obtain ⟨x, S1, S2, q1, q2, q3, q4⟩ := p12 (gD S 0 0 (7 * (i : Int) + 1).toNat) (gD S 0 0 (7 * (i : Int) + 2).toNat) (gD S 0 0 (7 * (i : Int) + 3).toNat) (gD S 0 0 (7 * (i : Int) + 4).toNat) (gD S 0 0 (7 * (i : Int) + 5).toNat) (hr _ (by omega)) (hr _ (by omega)) (hr _ (by omega)) (hr _ (by omega)) (hr _ (by omega)) i S hi hCI
    rw [lc_12 hlt hb hm hc q2 q1 q3, e7]
    exact ih (i + 1) S2 (by omega) (by omega) q4
  by_cases hc13 : ab oo 0 (gD S 0 0 (7 * (i : Int)).toNat) 63 = 13
  · have hc := hc13
    obtain ⟨x, S1, S2, q1, q2, q3, q4⟩ := p13 (gD S 0 0 (7 * (i : Int) + 1).toNat) (hr _ (by omega)) i S hi hCI
    rw [lc_13 hlt hb hm hc q2 q1 q3, e7]
    exact ih (i + 1) S2 (by omega) (by omega) q4
  by_cases hc14 : ab oo 0 (gD S 0 0 (7 * (i : Int)).toNat) 63 = 14
  · have hc := hc14
    obtain ⟨x, S1, S2, q1, q2, q3, q4⟩ := p14 (gD S 0 0 (7 * (i : Int) + 1).toNat) (hr _ (by omega)) i S hi hCI
    rw [lc_14 hlt hb hm hc q2 q1 q3, e7]
    exact ih (i + 1) S2 (by omega) (by omega) q4
  by_cases hc15 : ab oo 0 (gD S 0 0 (7 * (i : Int)).toNat) 63 = 15
  · have hc := hc15
    by_cases hx : gD S 0 0 (7 * (i : Int) + 2).toNat = 0
    · obtain ⟨x, S1, S2, q1, q2, q3, q4⟩ := p15 (gD S 0 0 (7 * (i : Int) + 1).toNat) 0 (hr _ (by omega)) (Or.inl rfl) i S hi hCI
      rw [lc_15a hlt hb hm hc (eq_true hx) q2 q1 q3, e7]
      exact ih (i + 1) S2 (by omega) (by omega) q4
    · obtain ⟨x, S1, S2, q1, q2, q3, q4⟩ := p15 (gD S 0 0 (7 * (i : Int) + 1).toNat) 1 (hr _ (by omega)) (Or.inr rfl) i S hi hCI
      rw [lc_15b hlt hb hm hc (eq_false hx) q2 q1 q3, e7]
      exact ih (i + 1) S2 (by omega) (by omega) q4
  by_cases hc16 : ab oo 0 (gD S 0 0 (7 * (i : Int)).toNat) 63 = 16
  · have hc := hc16
    obtain ⟨x, S1, S2, q1, q2, q3, q4⟩ := p16 (gD S 0 0 (7 * (i : Int) + 1).toNat) (gD S 0 0 (7 * (i : Int) + 2).toNat) (gD S 0 0 (7 * (i : Int) + 3).toNat) (hr _ (by omega)) (hr _ (by omega)) (hr _ (by omega)) i S hi hCI
    rw [lc_16 hlt hb hm hc q2 q1 q3, e7]
    exact ih (i + 1) S2 (by omega) (by omega) q4
  by_cases hc17 : ab oo 0 (gD S 0 0 (7 * (i : Int)).toNat) 63 = 17
  · have hc := hc17
    obtain ⟨x, S1, S2, q1, q2, q3, q4⟩ := p17 (gD S 0 0 (7 * (i : Int) + 1).toNat) (gD S 0 0 (7 * (i : Int) + 2).toNat) (hr _ (by omega)) (hr _ (by omega)) i S hi hCI
    rw [lc_17 hlt hb hm hc q2 q1 q3, e7]
    exact ih (i + 1) S2 (by omega) (by omega) q4
  by_cases hc18 : ab oo 0 (gD S 0 0 (7 * (i : Int)).toNat) 63 = 18
  · have hc := hc18
    obtain ⟨x, S1, S2, q1, q2, q3, q4⟩ := p18 (gD S 0 0 (7 * (i : Int) + 1).toNat) (gD S 0 0 (7 * (i : Int) + 2).toNat) (gD S 0 0 (7 * (i : Int) + 3).toNat) (hr _ (by omega)) (hr _ (by omega)) (hr _ (by omega)) i S hi hCI
    rw [lc_18 hlt hb hm hc q2 q1 q3, e7]
    exact ih (i + 1) S2 (by omega) (by omega) q4
  by_cases hc19 : ab oo 0 (gD S 0 0 (7 * (i : Int)).toNat) 63 = 19
  · have hc := hc19
    obtain ⟨x, S1, S2, q1, q2, q3, q4⟩ := p19 (gD S 0 0 (7 * (i : Int) + 1).toNat) (gD S 0 0 (7 * (i : Int) + 2).toNat) (gD S 0 0 (7 * (i : Int) + 3).toNat) (gD S 0 0 (7 * (i : Int) + 4).toNat) (hr _ (by omega)) (hr _ (by omega)) (hr _ (by omega)) (hr _ (by omega)) i S hi hCI
    rw [lc_19 hlt hb hm hc q2 q1 q3, e7]
    exact ih (i + 1) S2 (by omega) (by omega) q4
  by_cases hc20 : ab oo 0 (gD S 0 0 (7 * (i : Int)).toNat) 63 = 20
  · have hc := hc20
    obtain ⟨x, S1, S2, q1, q2, q3, q4⟩ := p20 (gD S 0 0 (7 * (i : Int) + 1).toNat) (gD S 0 0 (7 * (i : Int) + 2).toNat) (gD S 0 0 (7 * (i : Int) + 3).toNat) (hr _ (by omega)) (hr _ (by omega)) (hr _ (by omega)) i S hi hCI
    rw [lc_20 hlt hb hm hc q2 q1 q3, e7]
    exact ih (i + 1) S2 (by omega) (by omega) q4
  by_cases hc21 : ab oo 0 (gD S 0 0 (7 * (i : Int)).toNat) 63 = 21
  · have hc := hc21
    obtain ⟨x, S1, S2, q1, q2, q3, q4⟩ := p21 (gD S 0 0 (7 * (i : Int) + 1).toNat) (gD S 0 0 (7 * (i : Int) + 2).toNat) (gD S 0 0 (7 * (i : Int) + 3).toNat) (hr _ (by omega)) (hr _ (by omega)) (hr _ (by omega)) i S hi hCI
    rw [lc_21 hlt hb hm hc q2 q1 q3, e7]
    exact ih (i + 1) S2 (by omega) (by omega) q4
  by_cases hc22 : ab oo 0 (gD S 0 0 (7 * (i : Int)).toNat) 63 = 22
  · have hc := hc22
    obtain ⟨x, S1, S2, q1, q2, q3, q4⟩ := p22 (gD S 0 0 (7 * (i : Int) + 1).toNat) (hr _ (by omega)) i S hi hCI
    rw [lc_22 hlt hb hm hc q2 q1 q3, e7]
    exact ih (i + 1) S2 (by omega) (by omega) q4
  by_cases hc23 : ab oo 0 (gD S 0 0 (7 * (i : Int)).toNat) 63 = 23
  · have hc := hc23
    by_cases hx : gD S 0 0 (7 * (i : Int) + 2).toNat = 0
    · obtain ⟨x, S1, S2, q1, q2, q3, q4⟩ := p23 (gD S 0 0 (7 * (i : Int) + 1).toNat) 0 (hr _ (by omega)) (Or.inl rfl) i S hi hCI
      rw [lc_23a hlt hb hm hc (eq_true hx) q2 q1 q3, e7]
      exact ih (i + 1) S2 (by omega) (by omega) q4
    · obtain ⟨x, S1, S2, q1, q2, q3, q4⟩ := p23 (gD S 0 0 (7 * (i : Int) + 1).toNat) 1 (hr _ (by omega)) (Or.inr rfl) i S hi hCI
      rw [lc_23b hlt hb hm hc (eq_false hx) q2 q1 q3, e7]
      exact ih (i + 1) S2 (by omega) (by omega) q4
  by_cases hc24 : ab oo 0 (gD S 0 0 (7 * (i : Int)).toNat) 63 = 24
  · have hc := hc24
    obtain ⟨x, S1, S2, q1, q2, q3, q4⟩ := p24 (gD S 0 0 (7 * (i : Int) + 1).toNat) (gD S 0 0 (7 * (i : Int) + 2).toNat) (hr _ (by omega)) (hr _ (by omega)) i S hi hCI
    rw [lc_24 hlt hb hm hc q2 q1 q3, e7]
    exact ih (i + 1) S2 (by omega) (by omega) q4
  by_cases hc25 : ab oo 0 (gD S 0 0 (7 * (i : Int)).toNat) 63 = 25
  · have hc := hc25
    obtain ⟨x, S1, S2, q1, q2, q3, q4⟩ := p25 (gD S 0 0 (7 * (i : Int) + 1).toNat) (gD S 0 0 (7 * (i : Int) + 2).toNat) (hr _ (by omega)) (hr _ (by omega)) i S hi hCI
    rw [lc_25 hlt hb hm hc q2 q1 q3, e7]
    exact ih (i + 1) S2 (by omega) (by omega) q4
  by_cases hc26 : ab oo 0 (gD S 0 0 (7 * (i : Int)).toNat) 63 = 26
  · have hc := hc26
    obtain ⟨x, S1, S2, q1, q2, q3, q4⟩ := p26   i S hi hCI
    rw [lc_26 hlt hb hm hc q2 q1 q3, e7]
    exact ih (i + 1) S2 (by omega) (by omega) q4
  by_cases hc27 : ab oo 0 (gD S 0 0 (7 * (i : Int)).toNat) 63 = 27
  · have hc := hc27
    obtain ⟨x, S1, S2, q1, q2, q3, q4⟩ := p27 (gD S 0 0 (7 * (i : Int) + 1).toNat) (gD S 0 0 (7 * (i : Int) + 2).toNat) (hr _ (by omega)) (hr _ (by omega)) i S hi hCI
    rw [lc_27 hlt hb hm hc q2 q1 q3, e7]
    exact ih (i + 1) S2 (by omega) (by omega) q4
  by_cases hc28 : ab oo 0 (gD S 0 0 (7 * (i : Int)).toNat) 63 = 28
  · have hc := hc28
    obtain ⟨x, S1, S2, q1, q2, q3, q4⟩ := p28 (gD S 0 0 (7 * (i : Int) + 1).toNat) _ (gD S 0 0 (7 * (i : Int) + 4).toNat) (hr _ (by omega)) (r64_i _) (hr _ (by omega)) i S hi hCI
    rw [lc_28 hlt hb hm hc q2 q1 q3, e7]
    exact ih (i + 1) S2 (by omega) (by omega) q4
  by_cases hc29 : ab oo 0 (gD S 0 0 (7 * (i : Int)).toNat) 63 = 29
  · have hc := hc29
    obtain ⟨x, S1, S2, q1, q2, q3, q4⟩ := p29 (gD S 0 0 (7 * (i : Int) + 1).toNat) (gD S 0 0 (7 * (i : Int) + 2).toNat) (hr _ (by omega)) (hr _ (by omega)) i S hi hCI
    rw [lc_29 hlt hb hm hc q2 q1 q3, e7]
    exact ih (i + 1) S2 (by omega) (by omega) q4
  by_cases hc30 : ab oo 0 (gD S 0 0 (7 * (i : Int)).toNat) 63 = 30
  · have hc := hc30
    obtain ⟨x, S1, S2, q1, q2, q3, q4⟩ := p30 (gD S 0 0 (7 * (i : Int) + 1).toNat) (hr _ (by omega)) i S hi hCI
    rw [lc_30 hlt hb hm hc q2 q1 q3, e7]
    exact ih (i + 1) S2 (by omega) (by omega) q4
  by_cases hc31 : ab oo 0 (gD S 0 0 (7 * (i : Int)).toNat) 63 = 31
  · have hc := hc31
    obtain ⟨x, S1, S2, q1, q2, q3, q4⟩ := p31   i S hi hCI
    rw [lc_31 hlt hb hm hc q2 q1 q3, e7]
    exact ih (i + 1) S2 (by omega) (by omega) q4
  by_cases hc32 : ab oo 0 (gD S 0 0 (7 * (i : Int)).toNat) 63 = 32
  · have hc := hc32
    obtain ⟨x, S1, S2, q1, q2, q3, q4⟩ := p32 (gD S 0 0 (7 * (i : Int) + 1).toNat) (gD S 0 0 (7 * (i : Int) + 2).toNat) (hr _ (by omega)) (hr _ (by omega)) i S hi hCI
    rw [lc_32 hlt hb hm hc q2 q1 q3, e7]
    exact ih (i + 1) S2 (by omega) (by omega) q4
  by_cases hc33 : ab oo 0 (gD S 0 0 (7 * (i : Int)).toNat) 63 = 33
  · have hc := hc33
    obtain ⟨x, S1, S2, q1, q2, q3, q4⟩ := p33 (gD S 0 0 (7 * (i : Int) + 1).toNat) (gD S 0 0 (7 * (i : Int) + 2).toNat) (gD S 0 0 (7 * (i : Int) + 3).toNat) (hr _ (by omega)) (hr _ (by omega)) (hr _ (by omega)) i S hi hCI
    rw [lc_33 hlt hb hm hc q2 q1 q3, e7]
    exact ih (i + 1) S2 (by omega) (by omega) q4
  by_cases hc34 : ab oo 0 (gD S 0 0 (7 * (i : Int)).toNat) 63 = 34
  · have hc := hc34
    obtain ⟨x, S1, S2, q1, q2, q3, q4⟩ := p34 (gD S 0 0 (7 * (i : Int) + 1).toNat) (gD S 0 0 (7 * (i : Int) + 2).toNat) (hr _ (by omega)) (hr _ (by omega)) i S hi hCI
    rw [lc_34 hlt hb hm hc q2 q1 q3, e7]
    exact ih (i + 1) S2 (by omega) (by omega) q4
  by_cases hc35 : ab oo 0 (gD S 0 0 (7 * (i : Int)).toNat) 63 = 35
  · have hc := hc35
    by_cases hx : gD S 0 0 (7 * (i : Int) + 2).toNat = 0
    · obtain ⟨x, S1, S2, q1, q2, q3, q4⟩ := p35 (gD S 0 0 (7 * (i : Int) + 1).toNat) 0 (hr _ (by omega)) (Or.inl rfl) i S hi hCI
      rw [lc_35a hlt hb hm hc (eq_true hx) q2 q1 q3, e7]
      exact ih (i + 1) S2 (by omega) (by omega) q4
    · obtain ⟨x, S1, S2, q1, q2, q3, q4⟩ := p35 (gD S 0 0 (7 * (i : Int) + 1).toNat) 1 (hr _ (by omega)) (Or.inr rfl) i S hi hCI
      rw [lc_35b hlt hb hm hc (eq_false hx) q2 q1 q3, e7]
      exact ih (i + 1) S2 (by omega) (by omega) q4
  by_cases hc36 : ab oo 0 (gD S 0 0 (7 * (i : Int)).toNat) 63 = 36
  · have hc := hc36
    obtain ⟨x, S1, S2, q1, q2, q3, q4⟩ := p36 (gD S 0 0 (7 * (i : Int) + 1).toNat) (hr _ (by omega)) i S hi hCI
    rw [lc_36 hlt hb hm hc q2 q1 q3, e7]
    exact ih (i + 1) S2 (by omega) (by omega) q4
  by_cases hc37 : ab oo 0 (gD S 0 0 (7 * (i : Int)).toNat) 63 = 37
  · have hc := hc37
    obtain ⟨x, S1, S2, q1, q2, q3, q4⟩ := p37 (gD S 0 0 (7 * (i : Int) + 1).toNat) (hr _ (by omega)) i S hi hCI
    rw [lc_37 hlt hb hm hc q2 q1 q3, e7]
    exact ih (i + 1) S2 (by omega) (by omega) q4
  by_cases hc38 : ab oo 0 (gD S 0 0 (7 * (i : Int)).toNat) 63 = 38
  · have hc := hc38
    obtain ⟨x, S1, S2, q1, q2, q3, q4⟩ := p38 (gD S 0 0 (7 * (i : Int) + 1).toNat) (hr _ (by omega)) i S hi hCI
    rw [lc_38 hlt hb hm hc q2 q1 q3, e7]
    exact ih (i + 1) S2 (by omega) (by omega) q4
  by_cases hc39 : ab oo 0 (gD S 0 0 (7 * (i : Int)).toNat) 63 = 39
  · have hc := hc39
    obtain ⟨x, S1, S2, q1, q2, q3, q4⟩ := p39 (gD S 0 0 (7 * (i : Int) + 1).toNat) (gD S 0 0 (7 * (i : Int) + 2).toNat) (hr _ (by omega)) (hr _ (by omega)) i S hi hCI
    rw [lc_39 hlt hb hm hc q2 q1 q3, e7]
    exact ih (i + 1) S2 (by omega) (by omega) q4
  by_cases hc40 : ab oo 0 (gD S 0 0 (7 * (i : Int)).toNat) 63 = 40
  · have hc := hc40
    obtain ⟨x, S1, S2, q1, q2, q3, q4⟩ := p40 (gD S 0 0 (7 * (i : Int) + 1).toNat) (hr _ (by omega)) i S hi hCI
    rw [lc_40 hlt hb hm hc q2 q1 q3, e7]
    exact ih (i + 1) S2 (by omega) (by omega) q4
  have hn : ∀ c : Int, 0 ≤ c → c ≤ 40 → ¬ ab oo 0 (gD S 0 0 (7 * (i : Int)).toNat) 63 = c := by
    intro c h0 h1 hc
    have h9 : c = 0 ∨ c = 1 ∨ c = 2 ∨ c = 3 ∨ c = 4 ∨ c = 5 ∨ c = 6 ∨ c = 7 ∨ c = 8 ∨ c = 9 ∨ c = 10 ∨ c = 11 ∨ c = 12 ∨ c = 13 ∨ c = 14 ∨ c = 15 ∨ c = 16 ∨ c = 17 ∨ c = 18 ∨ c = 19 ∨ c = 20 ∨ c = 21 ∨ c = 22 ∨ c = 23 ∨ c = 24 ∨ c = 25 ∨ c = 26 ∨ c = 27 ∨ c = 28 ∨ c = 29 ∨ c = 30 ∨ c = 31 ∨ c = 32 ∨ c = 33 ∨ c = 34 ∨ c = 35 ∨ c = 36 ∨ c = 37 ∨ c = 38 ∨ c = 39 ∨ c = 40 := by omega
    rcases h9 with rfl | rfl | rfl | rfl | rfl | rfl | rfl | rfl | rfl | rfl | rfl | rfl | rfl | rfl | rfl | rfl | rfl | rfl | rfl | rfl | rfl | rfl | rfl | rfl | rfl | rfl | rfl | rfl | rfl | rfl | rfl | rfl | rfl | rfl | rfl | rfl | rfl | rfl | rfl | rfl | rfl
    · exact hc0 hc
    · exact hc1 hc
    · exact hc2 hc
    · exact hc3 hc
    · exact hc4 hc
    · exact hc5 hc
    · exact hc6 hc
    · exact hc7 hc
    · exact hc8 hc
    · exact hc9 hc
    · exact hc10 hc
    · exact hc11 hc
    · exact hc12 hc
    · exact hc13 hc
    · exact hc14 hc
    · exact hc15 hc
    · exact hc16 hc
    · exact hc17 hc
    · exact hc18 hc
    · exact hc19 hc
    · exact hc20 hc
    · exact hc21 hc
    · exact hc22 hc
    · exact hc23 hc
    · exact hc24 hc
    · exact hc25 hc
    · exact hc26 hc
    · exact hc27 hc
    · exact hc28 hc
    · exact hc29 hc
    · exact hc30 hc
    · exact hc31 hc
    · exact hc32 hc
    · exact hc33 hc
    · exact hc34 hc
    · exact hc35 hc
    · exact hc36 hc
    · exact hc37 hc
    · exact hc38 hc
    · exact hc39 hc
    · exact hc40 hc
  rw [lc_none hlt hb hm hn, e7]
  exact ih (i + 1) S (by omega) (by omega) (hid i S hi hCI)
