set_option maxRecDepth 100000 in
theorem b148_0 (o : AR) (K : KT) (n : Nat) (S : SD) (a1 : Int) (a2 : Int) (a3 : Int) (a4 : Int) (a5 : Int) : run o K false mi_148 (n + 1) 0 [(0, vr (some (2, 0))), (1, vi a1), (2, vi a2), (3, vi a3), (4, vi a4), (5, vi a5)] [] S =
 (bI (K 93 [vr (some (3, 0)), vi a1, vi a2, vi a3, vi a4, vi a5] S) (fun x2 S1 =>
  (if x2 = 0 ∨ x2 = 1 then some (vi x2, S1) else none))) := rfl
set_option maxRecDepth 100000 in
theorem b149_0 (o : AR) (K : KT) (n : Nat) (S : SD) (a1 : Int) (a2 : Int) (a3 : Int) : run o K false mi_149 (n + 1) 0 [(0, vr (some (2, 0))), (1, vi a1), (2, vi a2), (3, vi a3)] [] S =
 (bI (K 94 [vr (some (3, 0)), vi a1, vi a2, vi a3] S) (fun x2 S1 =>
  (if x2 = 0 ∨ x2 = 1 then some (vi x2, S1) else none))) := rfl
set_option maxRecDepth 100000 in
theorem b150_0 (o : AR) (K : KT) (n : Nat) (S : SD) (a1 : Int) (a2 : Int) : run o K false mi_150 (n + 1) 0 [(0, vr (some (2, 0))), (1, vi a1), (2, vi a2)] [] S =
 (bI (K 95 [vr (some (3, 0)), vi a1, vi a2] S) (fun x2 S1 =>
  some (vi x2, S1))) := rfl
set_option maxRecDepth 100000 in
theorem b151_0 (o : AR) (K : KT) (n : Nat) (S : SD) : run o K false mi_151 (n + 1) 0 [(0, vr (some (2, 0)))] [] S =
 (if (gD S 2 0 9) < 3999 then
  (bI (K 111 [vr (some (41, 0)), vi (gD (wD S 2 0 9 (aw o ((gD S 2 0 9) + 1))) 2 0 9)] (wD S 2 0 9 (aw o ((gD S 2 0 9) + 1)))) (fun x2 S1 =>
   some (vi x2, S1)))
 else
  some (vi (-1), S)) := rfl
set_option maxRecDepth 100000 in
theorem b152_0 (o : AR) (K : KT) (n : Nat) (S : SD) (a1 : Int) (a2 : Int) (a3 : Int) (a4 : Int) (a5 : Int) (a6 : Int) : run o K false mi_152 (n + 1) 0 [(0, vr (some (2, 0))), (1, vi a1), (2, vi a2), (3, vi a3), (4, vi a4), (5, vi a5), (6, vi a6)] [] S =
 (bI (K 128 [vr (some (13, 0)), vi a1, vi a2, vi a3, vi a4, vi a5, vi a6, vi (gD S 2 0 9)] S) (fun x2 S1 =>
  (if x2 < 0 then
   some (vi x2, S1)
  else
   (bI (K 19 [vr (some (35, 0)), vi a1, vi (gD S1 2 0 9)] S1) (fun x4 S3 =>
    some (vi x2, S3)))))) := rfl
set_option maxRecDepth 100000 in
theorem b153_0 (o : AR) (K : KT) (n : Nat) (S : SD) (a1 : Int) (a2 : Int) : run o K false mi_153 (n + 1) 0 [(0, vr (some (2, 0))), (1, vi a1), (2, vi a2)] [] S =
 (bI (K 136 [vr (some (13, 0)), vi a1, vi a2] S) (fun x2 S1 =>
  some (vi x2, S1))) := rfl
set_option maxRecDepth 100000 in
theorem b154_0 (o : AR) (K : KT) (n : Nat) (S : SD) (a1 : Int) (a2 : Int) : run o K false mi_154 (n + 1) 0 [(0, vr (some (2, 0))), (1, vi a1), (2, vi a2)] [] S =
 (bI (K 96 [vr (some (3, 0)), vi a1] S) (fun x2 S1 =>
  (if x2 = 0 then
   some (vi 0, S1)
  else
   (bI (K 189 [vi a2, vi 0, vi (gD S1 2 0 9)] S1) (fun x4 S3 =>
    (if x4 = 0 then
     some (vi 0, S3)
    else
     (bV (K 105 [vr (some (3, 0)), vi a1, vi a2] S3) (fun S5 =>
      some (vi 1, S5))))))))) := rfl
set_option maxRecDepth 100000 in
theorem b155_0 (o : AR) (K : KT) (n : Nat) (S : SD) (a1 : Int) (a2 : Int) : run o K false mi_155 (n + 1) 0 [(0, vr (some (2, 0))), (1, vi a1), (2, vi a2)] [] S =
 (bI (K 139 [vr (some (13, 0)), vi a1, vi a2] S) (fun x2 S1 =>
  some (vi x2, S1))) := rfl
set_option maxRecDepth 100000 in
theorem b156_0 (o : AR) (K : KT) (n : Nat) (S : SD) (a1 : Int) (a2 : Int) : run o K false mi_156 (n + 1) 0 [(0, vr (some (2, 0))), (1, vi a1), (2, vi a2)] [] S =
 (bI (K 140 [vr (some (13, 0)), vi a1, vi a2] S) (fun x2 S1 =>
  (if x2 = 0 ∨ x2 = 1 then some (vi x2, S1) else none))) := rfl
set_option maxRecDepth 100000 in
theorem b157_0 (o : AR) (K : KT) (n : Nat) (S : SD) (a1 : Int) : run o K false mi_157 (n + 1) 0 [(0, vr (some (2, 0))), (1, vi a1)] [] S =
 (bI (K 141 [vr (some (13, 0)), vi a1] S) (fun x2 S1 =>
  some (vi x2, S1))) := rfl
set_option maxRecDepth 100000 in
theorem b158_0 (o : AR) (K : KT) (n : Nat) (S : SD) (a1 : Int) (a2 : Int) (a3 : Int) (a4 : Int) : run o K false mi_158 (n + 1) 0 [(0, vr (some (2, 0))), (1, vi a1), (2, vi a2), (3, vi a3), (4, vi a4)] [] S =
 (bI (K 190 [vi a3] S) (fun x2 S1 =>
  (if x2 = 0 then
   some (vi (-1000000), S1)
  else
   (bI (K 190 [vi a4] S1) (fun x4 S3 =>
    (if x4 = 0 then
     some (vi (-1000000), S3)
    else
     (bI (K 142 [vr (some (13, 0)), vi a1, vi a2, vi a3, vi a4] S3) (fun x6 S5 =>
      (bI (K 135 [vr (some (13, 0)), vi x6, vi a2] S5) (fun x8 S7 =>
       some (vi x8, S7))))))))))) := rfl
set_option maxRecDepth 100000 in
theorem b159_0 (o : AR) (K : KT) (n : Nat) (S : SD) (a1 : Int) (a2 : Int) (a3 : Int) (a4 : Int) (a5 : Int) : run o K false mi_159 (n + 1) 0 [(0, vr (some (2, 0))), (1, vi a1), (2, vi a2), (3, vi a3), (4, vi a4), (5, vi a5)] [] S =
 (if a5 = 2 then
  (bI (K 190 [vi a3] S) (fun x2 S1 =>
   (if x2 = 0 then
    some (vi (-1), S1)
   else
    (bI (K 190 [vi a4] S1) (fun x4 S3 =>
     (if x4 = 0 then
      some (vi (-1), S3)
     else
      (bI (K 189 [vi a5, vi 0, vi 2] S3) (fun x6 S5 =>
       (if x6 = 0 then
        some (vi (-1), S5)
       else
        (bI (K 142 [vr (some (13, 0)), vi a1, vi a2, vi a3, vi a4] S5) (fun x8 S7 =>
         (if x8 = (-1) then
          some (vi (-1), S7)
         else
          (if a5 = 2 then
           some (vi x8, S7)
          else
           (if a5 = 1 then
            (bI (K 143 [vr (some (13, 0)), vi x8, vi a2, vi a3, vi 1] S7) (fun x10 S9 =>
             some (vi x10, S9)))
           else
            (bI (K 143 [vr (some (13, 0)), vi x8, vi a2, vi a3, vi 0] S7) (fun x12 S11 =>
             some (vi x12, S11)))))))))))))))))
 else
  (bI (K 190 [vi a3] S) (fun x14 S13 =>
   (if x14 = 0 then
    some (vi (-1000000), S13)
   else
    (bI (K 190 [vi a4] S13) (fun x16 S15 =>
     (if x16 = 0 then
      some (vi (-1000000), S15)
     else
      (bI (K 189 [vi a5, vi 0, vi 2] S15) (fun x18 S17 =>
       (if x18 = 0 then
        some (vi (-1000000), S17)
       else
        (bI (K 142 [vr (some (13, 0)), vi a1, vi a2, vi a3, vi a4] S17) (fun x20 S19 =>
         (if x20 = (-1) then
          some (vi (-1000000), S19)
         else
          (if a5 = 2 then
           some (vi x20, S19)
          else
           (if a5 = 1 then
            (bI (K 143 [vr (some (13, 0)), vi x20, vi a2, vi a3, vi 1] S19) (fun x22 S21 =>
             some (vi x22, S21)))
           else
            (bI (K 143 [vr (some (13, 0)), vi x20, vi a2, vi a3, vi 0] S19) (fun x24 S23 =>
             some (vi x24, S23)))))))))))))))))) := rfl
set_option maxRecDepth 100000 in
theorem b160_0 (o : AR) (K : KT) (n : Nat) (S : SD) (a1 : Int) (a2 : Int) (a3 : Int) (a4 : Int) (a5 : Int) : run o K false mi_160 (n + 1) 0 [(0, vr (some (2, 0))), (1, vi a1), (2, vi a2), (3, vi a3), (4, vi a4), (5, vi a5)] [] S =
 (bI (K 57 [vr (some (29, 0))] S) (fun x2 S1 =>
  (if x2 = 0 then
   some (vi (-1), S1)
  else
   (bV (K 58 [vr (some (29, 0)), vi a1] S1) (fun S3 =>
    (bV (K 58 [vr (some (29, 0)), vi a2] S3) (fun S4 =>
     (bV (K 58 [vr (some (29, 0)), vi a3] S4) (fun S5 =>
      (bV (K 58 [vr (some (29, 0)), vi a4] S5) (fun S6 =>
       (bV (K 58 [vr (some (29, 0)), vi a5] S6) (fun S7 =>
        some (vi (gD S7 29 0 2), S7)))))))))))))) := rfl
set_option maxRecDepth 100000 in
theorem b161_0 (o : AR) (K : KT) (n : Nat) (S : SD) (a1 : Int) : run o K false mi_161 (n + 1) 0 [(0, vr (some (2, 0))), (1, vi a1)] [] S =
 (bI (K 59 [vr (some (29, 0)), vi a1] S) (fun x2 S1 =>
  some (vi x2, S1))) := rfl
set_option maxRecDepth 100000 in
theorem b162_0 (o : AR) (K : KT) (n : Nat) (S : SD) (a1 : Int) : run o K false mi_162 (n + 1) 0 [(0, vr (some (2, 0))), (1, vi a1)] [] S =
 (bI (K 189 [vi a1, vi 0, vi 7] S) (fun x2 S1 =>
  (if x2 = 0 then
   some (vi (-1), S1)
  else
   (bR (K 108 [vr (some (41, 0))] S1) 47 (fun S3 =>
    some (vi (-1), S3))
   (fun j4 S3 =>
    (bI (K 60 [vr (some (29, 0)), vr (some (47, j4))] S3) (fun x6 S5 =>
     (if x6 = 0 then
      (bI (K 109 [vr (some (41, 0)), vi a1, vi (gD S5 2 0 9)] S5) (fun x8 S7 =>
       some (vi x8, S7)))
     else
      some (vi (aw o ((-2) - x6)), S5))))))))) := rfl
set_option maxRecDepth 100000 in
theorem b163_0 (o : AR) (K : KT) (n : Nat) (S : SD) (a1 : Int) (a2 : Int) : run o K false mi_163 (n + 1) 0 [(0, vr (some (2, 0))), (1, vi a1), (2, vi a2)] [] S =
 (bR (K 110 [vr (some (41, 0)), vi a1] S) 47 (fun S1 =>
  some (vi 0, S1))
 (fun j2 S1 =>
  (if (gD S1 47 j2 17) = a2 then
   some (vi 0, S1)
  else
   (if a2 = 0 ∨ a2 = 1 then
    some (vi 1, wD (wD S1 47 j2 17 a2) 47 j2 18 0)
   else none)))) := rfl
set_option maxRecDepth 100000 in
theorem b164_0 (o : AR) (K : KT) (n : Nat) (S : SD) (a1 : Int) (a2 : Int) (a3 : Int) : run o K false mi_164 (n + 1) 0 [(0, vr (some (2, 0))), (1, vi a1), (2, vi a2), (3, vi a3)] [] S =
 (bR (K 110 [vr (some (41, 0)), vi a1] S) 47 (fun S1 =>
  some (vi (-1), S1))
 (fun j2 S1 =>
  (bI (K 190 [vi a2] S1) (fun x4 S3 =>
   (if x4 = 0 then
    some (vi (-1), S3)
   else
    (bI (K 190 [vi a3] S3) (fun x6 S5 =>
     (if x6 = 0 then
      some (vi (-1), S5)
     else
      (bI (K 114 [vr (some (41, 0)), vr (some (47, j2)), vi a2, vi a3] S5) (fun x8 S7 =>
       (if x8 = 0 then
        some (vi 0, S7)
       else
        some (vi 1, S7)))))))))))) := rfl
set_option maxRecDepth 100000 in
theorem b165_0 (o : AR) (K : KT) (n : Nat) (S : SD) (a1 : Int) (a2 : Int) : run o K false mi_165 (n + 1) 0 [(0, vr (some (2, 0))), (1, vi a1), (2, vi a2)] [] S =
 (bI (K 117 [vr (some (41, 0)), vi a1, vi a2, vi (gD S 2 0 9)] S) (fun x2 S1 =>
  some (vi x2, S1))) := rfl
set_option maxRecDepth 100000 in
theorem b166_0 (o : AR) (K : KT) (n : Nat) (S : SD) (a1 : Int) (a2 : Int) (a3 : Int) : run o K false mi_166 (n + 1) 0 [(0, vr (some (2, 0))), (1, vi a1), (2, vi a2), (3, vi a3)] [] S =
 (bI (K 120 [vr (some (31, 0)), vi a1, vi a2, vi a3] S) (fun x2 S1 =>
  some (vi x2, S1))) := rfl
set_option maxRecDepth 100000 in
theorem b167_0 (o : AR) (K : KT) (n : Nat) (S : SD) (a1 : Int) (a2 : Int) (a3 : Int) (a4 : Int) : run o K false mi_167 (n + 1) 0 [(0, vr (some (2, 0))), (1, vi a1), (2, vi a2), (3, vi a3), (4, vi a4)] [] S =
 (bI (K 189 [vi a1, vi 0, vi 7] S) (fun x2 S1 =>
  (if x2 = 0 then
   some (vi 0, S1)
  else
   (bI (K 96 [vr (some (3, 0)), vi a2] S1) (fun x4 S3 =>
    (if x4 = 0 then
     some (vi 0, S3)
    else
     (bI (K 189 [vi a3, vi 0, vi 2] S3) (fun x6 S5 =>
      (if x6 = 0 then
       some (vi 0, S5)
      else
       (if a4 = (-1000000) then
        (bI (K 123 [vr (some (31, 0)), vi a1, vi (aw o ((aw o (a2 * 3)) + a3))] S5) (fun x8 S7 =>
         (if x8 = 0 ∨ x8 = 1 then some (vi x8, S7) else none)))
       else
        (bI (K 102 [vr (some (3, 0)), vi a2, vi a3] S5) (fun x10 S9 =>
         (bI (K 103 [vr (some (3, 0)), vi a2, vi a3] S9) (fun x12 S11 =>
          (bI (K 189 [vi a4, vi x10, vi x12] S11) (fun x14 S13 =>
           (if x14 = 0 then
            some (vi 0, S13)
           else
            (bV (K 122 [vr (some (31, 0)), vi a1, vi (aw o ((aw o (a2 * 3)) + a3)), vi a4] S13) (fun S15 =>
             some (vi 1, S15)))))))))))))))))))) := rfl
set_option maxRecDepth 100000 in
theorem b168_0 (o : AR) (K : KT) (n : Nat) (S : SD) (a1 : Int) (a2 : Int) (a3 : Int) : run o K false mi_168 (n + 1) 0 [(0, vr (some (2, 0))), (1, vi a1), (2, vi a2), (3, vi a3)] [] S =
 (bI (K 96 [vr (some (3, 0)), vi a1] S) (fun x2 S1 =>
  (if x2 = 0 then
   some (vi (-1000000), S1)
  else
   (bI (K 189 [vi a2, vi 0, vi 2] S1) (fun x4 S3 =>
    (if x4 = 0 then
     some (vi (-1000000), S3)
    else
     (bI (K 189 [vi a3, vi 0, vi 2] S3) (fun x6 S5 =>
      (if x6 = 0 then
       some (vi (-1000000), S5)
      else
       (bI (K 98 [vr (some (3, 0)), vi a1] S5) (fun x8 S7 =>
        (bI (K 125 [vr (some (31, 0)), vi (aw o ((aw o (a1 * 3)) + a2)), vi x8] S7) (fun x10 S9 =>
         (bI (K 124 [vr (some (31, 0)), vi x10, vi (aw o ((aw o (a1 * 3)) + a2))] S9) (fun x12 S11 =>
          (if a3 = 0 then
           some (vi x12, S11)
          else
           (if a3 = 1 then
            some (vi x10, S11)
           else
            (bI (K 142 [vr (some (13, 0)), vi a1, vi a2, vi (gD S11 2 0 9), vi (gD S11 2 0 9)] S11) (fun x14 S13 =>
             (bI (K 135 [vr (some (13, 0)), vi x14, vi a2] S13) (fun x16 S15 =>
              (if x10 = (-1) then
               some (vi 0, S15)
              else
               (if x16 = (-1000000) then
                some (vi 0, S15)
               else
                (if x16 = x12 then
                 some (vi 0, S15)
                else
                 some (vi 1, S15))))))))))))))))))))))))) := rfl
set_option maxRecDepth 100000 in
theorem b169_0 (o : AR) (K : KT) (n : Nat) (S : SD) (a1 : Int) (a2 : Int) (a3 : Int) : run o K false mi_169 (n + 1) 0 [(0, vr (some (2, 0))), (1, vi a1), (2, vi a2), (3, vi a3)] [] S =
 (bI (K 96 [vr (some (3, 0)), vi a1] S) (fun x2 S1 =>
  (if x2 = 0 then
   some (vi (-1), S1)
  else
   (bI (K 189 [vi a2, vi 1, vi 60] S1) (fun x4 S3 =>
    (if x4 = 0 then
     some (vi (-1), S3)
    else
     (bI (K 189 [vi a3, vi (gD S3 2 0 9), vi 3999] S3) (fun x6 S5 =>
      (if x6 = 0 then
       some (vi (-1), S5)
      else
       (bI (K 16 [vr (some (35, 0)), vi a1, vi a2, vi a3] S5) (fun x8 S7 =>
        some (vi x8, S7)))))))))))) := rfl
set_option maxRecDepth 100000 in
theorem b170_0 (o : AR) (K : KT) (n : Nat) (S : SD) (a1 : Int) : run o K false mi_170 (n + 1) 0 [(0, vr (some (2, 0))), (1, vi a1)] [] S =
 (bI (K 96 [vr (some (3, 0)), vi a1] S) (fun x2 S1 =>
  (if x2 = 0 then
   some (vi (-1), S1)
  else
   (bI (K 19 [vr (some (35, 0)), vi a1, vi (gD S1 2 0 9)] S1) (fun x4 S3 =>
    some (vi x4, S3)))))) := rfl
set_option maxRecDepth 100000 in
theorem b171_0 (o : AR) (K : KT) (n : Nat) (S : SD) (a1 : Int) (a2 : Int) : run o K false mi_171 (n + 1) 0 [(0, vr (some (2, 0))), (1, vi a1), (2, vi a2)] [] S =
 (bI (K 20 [vr (some (35, 0)), vi a1, vi a2, vi (gD S 2 0 9)] S) (fun x2 S1 =>
  (if x2 = 0 ∨ x2 = 1 then some (vi x2, S1) else none))) := rfl
set_option maxRecDepth 100000 in
theorem b172_0 (o : AR) (K : KT) (n : Nat) (S : SD) (a1 : Int) (a2 : Int) : run o K false mi_172 (n + 1) 0 [(0, vr (some (2, 0))), (1, vi a1), (2, vi a2)] [] S =
 (bI (K 21 [vr (some (35, 0)), vi a1, vi a2, vi (gD S 2 0 9)] S) (fun x2 S1 =>
  some (vi x2, S1))) := rfl
set_option maxRecDepth 100000 in
theorem b173_0 (o : AR) (K : KT) (n : Nat) (S : SD) (a1 : Int) (a2 : Int) : run o K false mi_173 (n + 1) 0 [(0, vr (some (2, 0))), (1, vi a1), (2, vi a2)] [] S =
 (bI (K 1 [vr (some (55, 0)), vi a1, vi a2] S) (fun x2 S1 =>
  some (vi x2, S1))) := rfl
set_option maxRecDepth 100000 in
theorem b174_0 (o : AR) (K : KT) (n : Nat) (S : SD) : run o K false mi_174 (n + 1) 0 [(0, vr (some (2, 0)))] [] S =
 (bI (K 2 [vr (some (55, 0))] S) (fun x2 S1 =>
  some (vi x2, S1))) := rfl
set_option maxRecDepth 100000 in
theorem b175_0 (o : AR) (K : KT) (n : Nat) (S : SD) (a1 : Int) (a2 : Int) : run o K false mi_175 (n + 1) 0 [(0, vr (some (2, 0))), (1, vi a1), (2, vi a2)] [] S =
 (bI (K 14 [vr (some (55, 0)), vi a1, vi a2] S) (fun x2 S1 =>
  some (vi x2, S1))) := rfl
set_option maxRecDepth 100000 in
theorem b176_0 (o : AR) (K : KT) (n : Nat) (S : SD) (a1 : Int) (a2 : Int) (a4 : Int) : run o K false mi_176 (n + 1) 0 [(0, vr (some (2, 0))), (1, vi a1), (2, vl a2), (4, vi a4)] [] S =
 (bI (K 35 [vr (some (68, 0)), vi a1, vl a2, vi a4] S) (fun x2 S1 =>
  some (vi x2, S1))) := rfl
set_option maxRecDepth 100000 in
theorem b177_0 (o : AR) (K : KT) (n : Nat) (S : SD) (a1 : Int) (a2 : Int) : run o K false mi_177 (n + 1) 0 [(0, vr (some (2, 0))), (1, vi a1), (2, vi a2)] [] S =
 (bI (K 189 [vi a2, vi (gD S 2 0 9), vi 3999] S) (fun x2 S1 =>
  (if x2 = 0 then
   some (vi (-1), S1)
  else
   (bI (K 39 [vr (some (68, 0)), vi a1, vi a2, vi (gD S1 2 0 9)] S1) (fun x4 S3 =>
    some (vi x4, S3)))))) := rfl
set_option maxRecDepth 100000 in
theorem b178_0 (o : AR) (K : KT) (n : Nat) (S : SD) (a1 : Int) : run o K false mi_178 (n + 1) 0 [(0, vr (some (2, 0))), (1, vi a1)] [] S =
 (bI (K 189 [vi a1, vi (gD S 2 0 9), vi 3999] S) (fun x2 S1 =>
  (if x2 = 0 then
   some (vi (-1), S1)
  else
   (bI (K 40 [vr (some (68, 0)), vi a1, vi (gD S1 2 0 9)] S1) (fun x4 S3 =>
    some (vi x4, S3)))))) := rfl
set_option maxRecDepth 100000 in
theorem b179_0 (o : AR) (K : KT) (n : Nat) (S : SD) : run o K false mi_179 (n + 1) 0 [(0, vr (some (2, 0)))] [] S =
 some (vl (gD S 68 0 10), S) := rfl
set_option maxRecDepth 100000 in
theorem b180_0 (o : AR) (K : KT) (n : Nat) (S : SD) (a1 : Int) (a2 : Int) : run o K false mi_180 (n + 1) 0 [(0, vr (some (2, 0))), (1, vi a1), (2, vi a2)] [] S =
 (bI (K 96 [vr (some (3, 0)), vi a1] S) (fun x2 S1 =>
  (if x2 = 0 then
   some (vi 0, S1)
  else
   (bI (K 25 [vr (some (75, 0)), vi a1, vi a2] S1) (fun x4 S3 =>
    (if x4 = 0 then
     some (vi 0, S3)
    else
     some (vi 1, S3))))))) := rfl
set_option maxRecDepth 100000 in
theorem b181_0 (o : AR) (K : KT) (n : Nat) (S : SD) (a1 : Int) (a2 : Int) (a3 : Int) : run o K false mi_181 (n + 1) 0 [(0, vr (some (2, 0))), (1, vi a1), (2, vi a2), (3, vi a3)] [] S =
 (bI (K 26 [vr (some (75, 0)), vi a1, vi a2, vi a3] S) (fun x2 S1 =>
  (if x2 = 0 ∨ x2 = 1 then some (vi x2, S1) else none))) := rfl
set_option maxRecDepth 100000 in
theorem b182_0 (o : AR) (K : KT) (n : Nat) (S : SD) (a1 : Int) (a2 : Int) : run o K false mi_182 (n + 1) 0 [(0, vr (some (2, 0))), (1, vi a1), (2, vi a2)] [] S =
 (bI (K 28 [vr (some (75, 0)), vi a1, vi a2] S) (fun x2 S1 =>
  (if x2 = 0 ∨ x2 = 1 then some (vi x2, S1) else none))) := rfl
set_option maxRecDepth 100000 in
theorem b183_0 (o : AR) (K : KT) (n : Nat) (S : SD) (a1 : Int) (a2 : Int) : run o K false mi_183 (n + 1) 0 [(0, vr (some (2, 0))), (1, vi a1), (2, vi a2)] [] S =
 (bI (K 96 [vr (some (3, 0)), vi a1] S) (fun x2 S1 =>
  (if x2 = 0 then
   some (vi 0, S1)
  else
   (bI (K 29 [vr (some (75, 0)), vi a1, vi a2] S1) (fun x4 S3 =>
    (if x4 = 0 then
     some (vi 0, S3)
    else
     some (vi 1, S3))))))) := rfl
set_option maxRecDepth 100000 in
theorem b184_0 (o : AR) (K : KT) (n : Nat) (S : SD) (a1 : Int) : run o K false mi_184 (n + 1) 0 [(0, vr (some (2, 0))), (1, vi a1)] [] S =
 (bI (K 189 [vi a1, vi 0, vi 7] S) (fun x2 S1 =>
  (if x2 = 0 then
   some (vi (-1), S1)
  else
   (bI (K 31 [vr (some (75, 0)), vi a1] S1) (fun x4 S3 =>
    (if x4 = 0 then
     some (vi 0, S3)
    else
     some (vi 1, S3))))))) := rfl
set_option maxRecDepth 100000 in
theorem b185_0 (o : AR) (K : KT) (n : Nat) (S : SD) (a1 : Int) : run o K false mi_185 (n + 1) 0 [(0, vr (some (2, 0))), (1, vi a1)] [] S =
 (bI (K 32 [vr (some (75, 0)), vi a1] S) (fun x2 S1 =>
  some (vi x2, S1))) := rfl
set_option maxRecDepth 100000 in
theorem b186_0 (o : AR) (K : KT) (n : Nat) (S : SD) (a1 : Int) : run o K false mi_186 (n + 1) 0 [(0, vr (some (2, 0))), (1, vi a1)] [] S =
 (bI (K 33 [vr (some (75, 0)), vi a1] S) (fun x2 S1 =>
  some (vi x2, S1))) := rfl
set_option maxRecDepth 100000 in
theorem b187_0 (o : AR) (K : KT) (n : Nat) (S : SD) (a1 : Int) (a2 : Int) : run o K false mi_187 (n + 1) 0 [(0, vr (some (2, 0))), (1, vi a1), (2, vi a2)] [] S =
 (bI (K 96 [vr (some (3, 0)), vi a1] S) (fun x2 S1 =>
  (if x2 = 0 then
   some (vi (-1), S1)
  else
   (if a2 = 0 then
    (bI (K 97 [vr (some (3, 0)), vi a1] S1) (fun x4 S3 =>
     some (vi x4, S3)))
   else (if a2 = 1 then
    (bI (K 98 [vr (some (3, 0)), vi a1] S1) (fun x6 S5 =>
     some (vi x6, S5)))
   else (if a2 = 2 then
    (if 0 ≤ a1 ∧ a1 < 40 then
     some (vi (gD S1 77 0 (a1.toNat)), S1)
    else none)
   else (if a2 = 3 then
    (if 0 ≤ a1 ∧ a1 < 40 then
     some (vi (gD S1 76 0 (a1.toNat)), S1)
    else none)
   else (if a2 = 4 then
    (bI (K 137 [vr (some (13, 0)), vi a1] S1) (fun x8 S7 =>
     some (vi x8, S7)))
   else (if a2 = 5 then
    (if 0 ≤ a1 ∧ a1 < 40 then
     some (vi (gD S1 79 0 (a1.toNat)), S1)
    else none)
   else (if a2 = 6 then
    (bI (K 138 [vr (some (13, 0)), vi a1] S1) (fun x10 S9 =>
     some (vi x10, S9)))
   else 
    some (vi (-1), S1))))))))))) := rfl
set_option maxRecDepth 100000 in
theorem b188_0 (o : AR) (K : KT) (n : Nat) (S : SD) (a1 : Int) : run o K false mi_188 (n + 1) 0 [(0, vr (some (2, 0))), (1, vi a1)] [] S =
 (if a1 = 0 then
  some (vi (gD S 2 0 9), S)
 else (if a1 = 1 then
  some (vi (gD S 3 0 10), S)
 else (if a1 = 2 then
  some (vi (gD S 13 0 16), S)
 else (if a1 = 3 then
  some (vi (gD S 41 0 8), S)
 else (if a1 = 4 then
  some (vi (gD S 41 0 9), S)
 else (if a1 = 5 then
  some (vi (gD S 35 0 5), S)
 else (if a1 = 6 then
  some (vi (gD S 68 0 9), S)
 else (if a1 = 7 then
  some (vi (gD S 29 0 2), S)
 else 
  some (vi (-1), S))))))))) := rfl
set_option maxRecDepth 100000 in
theorem b189_0 (o : AR) (K : KT) (n : Nat) (S : SD) (a0 : Int) (a1 : Int) (a2 : Int) : run o K false mi_189 (n + 1) 0 [(0, vi a0), (1, vi a1), (2, vi a2)] [] S =
 (if a0 < a1 then
  some (vi 0, S)
 else
  (if a2 < a0 then
   some (vi 0, S)
  else
   some (vi 1, S))) := rfl
set_option maxRecDepth 100000 in
theorem b190_0 (o : AR) (K : KT) (n : Nat) (S : SD) (a0 : Int) : run o K false mi_190 (n + 1) 0 [(0, vi a0)] [] S =
 (bI (K 189 [vi a0, vi 0, vi 3999] S) (fun x2 S1 =>
  (if x2 = 0 ∨ x2 = 1 then some (vi x2, S1) else none))) := rfl
