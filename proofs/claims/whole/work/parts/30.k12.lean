set_option maxRecDepth 100000 in
theorem b192_0 (o : AR) (K : KT) (n : Nat) (S : SD) (a0 : Int) (a2 : Int) (a4 : Int) : run o K false mi_192 (n + 1) 0 [(0, vl a0), (2, vl a2), (4, vl a4)] [] S =
 (if (ab o 9 a0 a2) < 0 then
  some (vi 0, S)
 else
  (if 0 < (ab o 9 a0 a4) then
   some (vi 0, S)
  else
   some (vi 1, S))) := rfl
set_option maxRecDepth 100000 in
theorem b193_0 (o : AR) (K : KT) (n : Nat) (S : SD) (a0 : Int) : run o K false mi_193 (n + 1) 0 [(0, vi a0)] [] S =
 (if a0 < 0 then
  some (vi 0, S)
 else
  (if a0 < 4000 then
   some (vi 1, S)
  else
   some (vi 0, S))) := rfl
set_option maxRecDepth 100000 in
theorem b194_0 (o : AR) (K : KT) (n : Nat) (S : SD) (a0 : Int) (a1 : Int) : run o K false mi_194 (n + 1) 0 [(0, vi a0), (1, vi a1)] [] S =
 (if a0 < a1 then
  some (vi a0, S)
 else
  some (vi a1, S)) := rfl
set_option maxRecDepth 100000 in
theorem b195_0 (o : AR) (K : KT) (n : Nat) (S : SD) (a0 : Int) (a1 : Int) : run o K false mi_195 (n + 1) 0 [(0, vi a0), (1, vi a1)] [] S =
 (if a1 < a0 then
  some (vi a0, S)
 else
  some (vi a1, S)) := rfl
set_option maxRecDepth 100000 in
theorem b196_0 (o : AR) (K : KT) (n : Nat) (S : SD) (a0 : Int) : run o K false mi_196 (n + 1) 0 [(0, vi a0)] [] S =
 (if a0 < 0 then
  some (vi 0, S)
 else
  (if a0 < 3 then
   some (vi 1, S)
  else
   some (vi 0, S))) := rfl
set_option maxRecDepth 100000 in
theorem b197_0 (o : AR) (K : KT) (n : Nat) (S : SD) (a1 : Int) : run o K false mi_197 (n + 1) 0 [(0, vr (some (85, 0))), (1, vi a1)] [] S =
 (if a1 < 0 then
  some (vi 0, S)
 else
  (if a1 < (gD S 85 0 6) then
   some (vi 1, S)
  else
   some (vi 0, S))) := rfl
set_option maxRecDepth 100000 in
theorem b198_0 (o : AR) (K : KT) (n : Nat) (S : SD) (a1 : Int) (a2 : Int) (a3 : Int) (a4 : Int) (a5 : Int) : run o K false mi_198 (n + 1) 0 [(0, vr (some (85, 0))), (1, vi a1), (2, vi a2), (3, vi a3), (4, vi a4), (5, vi a5)] [] S =
 (bI (K 192 [vl a1, vl 0, vl 7] S) (fun x2 S1 =>
  (if x2 = 0 then
   some (vi 0, S1)
  else
   (bI (K 196 [vi a2] S1) (fun x4 S3 =>
    (if x4 = 0 then
     some (vi 0, S3)
    else
     (bI (K 192 [vl a4, vl (-100000), vl 100000] S3) (fun x6 S5 =>
      (if x6 = 0 then
       some (vi 0, S5)
      else
       (bI (K 192 [vl a3, vl (-100000), vl a4] S5) (fun x8 S7 =>
        (if x8 = 0 then
         some (vi 0, S7)
        else
         (bI (K 192 [vl a5, vl 0, vl 10000] S7) (fun x10 S9 =>
          (if x10 = 0 then
           some (vi 0, S9)
          else
           (if 0 ≤ (aw o ((aw o (3 * a1)) + a2)) ∧ (aw o ((aw o (3 * a1)) + a2)) < 24 then
            (if 0 ≤ (aw o ((aw o (3 * a1)) + a2)) ∧ (aw o ((aw o (3 * a1)) + a2)) < 24 then
             (if 0 ≤ (aw o ((aw o (3 * a1)) + a2)) ∧ (aw o ((aw o (3 * a1)) + a2)) < 24 then
              some (vi 1, wD (wD (wD S9 86 0 (((aw o ((aw o (3 * a1)) + a2))).toNat) a3) 87 0 (((aw o ((aw o (3 * a1)) + a2))).toNat) a4) 88 0 (((aw o ((aw o (3 * a1)) + a2))).toNat) a5)
             else none)
            else none)
           else none)))))))))))))))) := rfl
set_option maxRecDepth 100000 in
theorem b199_0 (o : AR) (K : KT) (n : Nat) (S : SD) (a1 : Int) (a2 : Int) (a3 : Int) : run o K false mi_199 (n + 1) 0 [(0, vr (some (85, 0))), (1, vi a1), (2, vi a2), (3, vi a3)] [] S =
 (bI (K 192 [vl a1, vl 0, vl 7] S) (fun x2 S1 =>
  (if x2 = 0 then
   some (vi 0, S1)
  else
   (bI (K 192 [vl a2, vl 0, vl 500] S1) (fun x4 S3 =>
    (if x4 = 0 then
     some (vi 0, S3)
    else
     (bI (K 192 [vl a3, vl 0, vl 9999] S3) (fun x6 S5 =>
      (if x6 = 0 then
       some (vi 0, S5)
      else
       (if 0 ≤ a1 ∧ a1 < 8 then
        (if 0 ≤ a1 ∧ a1 < 8 then
         some (vi 1, wD (wD S5 89 0 ((a1).toNat) a2) 90 0 ((a1).toNat) a3)
        else none)
       else none)))))))))) := rfl
set_option maxRecDepth 100000 in
theorem b200_0 (o : AR) (K : KT) (n : Nat) (S : SD) (a1 : Int) (a2 : Int) : run o K false mi_200 (n + 1) 0 [(0, vr (some (85, 0))), (1, vi a1), (2, vi a2)] [] S =
 (if (gD S 85 0 6) = 40 then
  some (vi (-1), S)
 else
  (bI (K 192 [vl a1, vl 0, vl 7] S) (fun x2 S1 =>
   (if x2 = 0 then
    some (vi (-1), S1)
   else
    (bI (K 192 [vl a2, vl 0, vl 7] S1) (fun x4 S3 =>
     (if x4 = 0 then
      some (vi (-1), S3)
     else
      (if 0 ≤ (gD S3 85 0 6) ∧ (gD S3 85 0 6) < 40 then
       (if 0 ≤ (gD (wD S3 91 0 (((gD S3 85 0 6)).toNat) a1) 85 0 6) ∧ (gD (wD S3 91 0 (((gD S3 85 0 6)).toNat) a1) 85 0 6) < 40 then
        (if 0 ≤ (gD (wD (wD S3 91 0 (((gD S3 85 0 6)).toNat) a1) 92 0 (((gD (wD S3 91 0 (((gD S3 85 0 6)).toNat) a1) 85 0 6)).toNat) a2) 85 0 6) ∧ (gD (wD (wD S3 91 0 (((gD S3 85 0 6)).toNat) a1) 92 0 (((gD (wD S3 91 0 (((gD S3 85 0 6)).toNat) a1) 85 0 6)).toNat) a2) 85 0 6) < 40 then
         (if 0 ≤ (gD (wD (wD (wD S3 91 0 (((gD S3 85 0 6)).toNat) a1) 92 0 (((gD (wD S3 91 0 (((gD S3 85 0 6)).toNat) a1) 85 0 6)).toNat) a2) 95 0 (((gD (wD (wD S3 91 0 (((gD S3 85 0 6)).toNat) a1) 92 0 (((gD (wD S3 91 0 (((gD S3 85 0 6)).toNat) a1) 85 0 6)).toNat) a2) 85 0 6)).toNat) (-1)) 85 0 6) ∧ (gD (wD (wD (wD S3 91 0 (((gD S3 85 0 6)).toNat) a1) 92 0 (((gD (wD S3 91 0 (((gD S3 85 0 6)).toNat) a1) 85 0 6)).toNat) a2) 95 0 (((gD (wD (wD S3 91 0 (((gD S3 85 0 6)).toNat) a1) 92 0 (((gD (wD S3 91 0 (((gD S3 85 0 6)).toNat) a1) 85 0 6)).toNat) a2) 85 0 6)).toNat) (-1)) 85 0 6) < 40 then
          some (vi (aw o ((gD (wD (wD (wD (wD (wD S3 91 0 (((gD S3 85 0 6)).toNat) a1) 92 0 (((gD (wD S3 91 0 (((gD S3 85 0 6)).toNat) a1) 85 0 6)).toNat) a2) 95 0 (((gD (wD (wD S3 91 0 (((gD S3 85 0 6)).toNat) a1) 92 0 (((gD (wD S3 91 0 (((gD S3 85 0 6)).toNat) a1) 85 0 6)).toNat) a2) 85 0 6)).toNat) (-1)) 96 0 (((gD (wD (wD (wD S3 91 0 (((gD S3 85 0 6)).toNat) a1) 92 0 (((gD (wD S3 91 0 (((gD S3 85 0 6)).toNat) a1) 85 0 6)).toNat) a2) 95 0 (((gD (wD (wD S3 91 0 (((gD S3 85 0 6)).toNat) a1) 92 0 (((gD (wD S3 91 0 (((gD S3 85 0 6)).toNat) a1) 85 0 6)).toNat) a2) 85 0 6)).toNat) (-1)) 85 0 6)).toNat) (-1)) 85 0 6 (aw o ((gD (wD (wD (wD (wD S3 91 0 (((gD S3 85 0 6)).toNat) a1) 92 0 (((gD (wD S3 91 0 (((gD S3 85 0 6)).toNat) a1) 85 0 6)).toNat) a2) 95 0 (((gD (wD (wD S3 91 0 (((gD S3 85 0 6)).toNat) a1) 92 0 (((gD (wD S3 91 0 (((gD S3 85 0 6)).toNat) a1) 85 0 6)).toNat) a2) 85 0 6)).toNat) (-1)) 96 0 (((gD (wD (wD (wD S3 91 0 (((gD S3 85 0 6)).toNat) a1) 92 0 (((gD (wD S3 91 0 (((gD S3 85 0 6)).toNat) a1) 85 0 6)).toNat) a2) 95 0 (((gD (wD (wD S3 91 0 (((gD S3 85 0 6)).toNat) a1) 92 0 (((gD (wD S3 91 0 (((gD S3 85 0 6)).toNat) a1) 85 0 6)).toNat) a2) 85 0 6)).toNat) (-1)) 85 0 6)).toNat) (-1)) 85 0 6) + 1))) 85 0 6) - 1)), wD (wD (wD (wD (wD S3 91 0 (((gD S3 85 0 6)).toNat) a1) 92 0 (((gD (wD S3 91 0 (((gD S3 85 0 6)).toNat) a1) 85 0 6)).toNat) a2) 95 0 (((gD (wD (wD S3 91 0 (((gD S3 85 0 6)).toNat) a1) 92 0 (((gD (wD S3 91 0 (((gD S3 85 0 6)).toNat) a1) 85 0 6)).toNat) a2) 85 0 6)).toNat) (-1)) 96 0 (((gD (wD (wD (wD S3 91 0 (((gD S3 85 0 6)).toNat) a1) 92 0 (((gD (wD S3 91 0 (((gD S3 85 0 6)).toNat) a1) 85 0 6)).toNat) a2) 95 0 (((gD (wD (wD S3 91 0 (((gD S3 85 0 6)).toNat) a1) 92 0 (((gD (wD S3 91 0 (((gD S3 85 0 6)).toNat) a1) 85 0 6)).toNat) a2) 85 0 6)).toNat) (-1)) 85 0 6)).toNat) (-1)) 85 0 6 (aw o ((gD (wD (wD (wD (wD S3 91 0 (((gD S3 85 0 6)).toNat) a1) 92 0 (((gD (wD S3 91 0 (((gD S3 85 0 6)).toNat) a1) 85 0 6)).toNat) a2) 95 0 (((gD (wD (wD S3 91 0 (((gD S3 85 0 6)).toNat) a1) 92 0 (((gD (wD S3 91 0 (((gD S3 85 0 6)).toNat) a1) 85 0 6)).toNat) a2) 85 0 6)).toNat) (-1)) 96 0 (((gD (wD (wD (wD S3 91 0 (((gD S3 85 0 6)).toNat) a1) 92 0 (((gD (wD S3 91 0 (((gD S3 85 0 6)).toNat) a1) 85 0 6)).toNat) a2) 95 0 (((gD (wD (wD S3 91 0 (((gD S3 85 0 6)).toNat) a1) 92 0 (((gD (wD S3 91 0 (((gD S3 85 0 6)).toNat) a1) 85 0 6)).toNat) a2) 85 0 6)).toNat) (-1)) 85 0 6)).toNat) (-1)) 85 0 6) + 1)))
         else none)
        else none)
       else none)
      else none)))))))) := rfl
set_option maxRecDepth 100000 in
theorem b201_0 (o : AR) (K : KT) (n : Nat) (S : SD) (a1 : Int) (a2 : Int) : run o K false mi_201 (n + 1) 0 [(0, vr (some (85, 0))), (1, vi a1), (2, vi a2)] [] S =
 (if 0 ≤ a1 ∧ a1 < 40 then
  (if 0 ≤ (aw o ((aw o (3 * (gD S 91 0 (a1.toNat)))) + a2)) ∧ (aw o ((aw o (3 * (gD S 91 0 (a1.toNat)))) + a2)) < 24 then
   some (vi (gD S 86 0 ((aw o ((aw o (3 * (gD S 91 0 (a1.toNat)))) + a2)).toNat)), S)
  else none)
 else none) := rfl
set_option maxRecDepth 100000 in
theorem b202_0 (o : AR) (K : KT) (n : Nat) (S : SD) (a1 : Int) (a2 : Int) : run o K false mi_202 (n + 1) 0 [(0, vr (some (85, 0))), (1, vi a1), (2, vi a2)] [] S =
 (if 0 ≤ a1 ∧ a1 < 40 then
  (if 0 ≤ (aw o ((aw o (3 * (gD S 91 0 (a1.toNat)))) + a2)) ∧ (aw o ((aw o (3 * (gD S 91 0 (a1.toNat)))) + a2)) < 24 then
   some (vi (gD S 87 0 ((aw o ((aw o (3 * (gD S 91 0 (a1.toNat)))) + a2)).toNat)), S)
  else none)
 else none) := rfl
set_option maxRecDepth 100000 in
theorem b203_0 (o : AR) (K : KT) (n : Nat) (S : SD) (a1 : Int) (a2 : Int) : run o K false mi_203 (n + 1) 0 [(0, vr (some (85, 0))), (1, vi a1), (2, vi a2)] [] S =
 (if 0 ≤ a1 ∧ a1 < 40 then
  (if 0 ≤ (aw o ((aw o (3 * (gD S 91 0 (a1.toNat)))) + a2)) ∧ (aw o ((aw o (3 * (gD S 91 0 (a1.toNat)))) + a2)) < 24 then
   some (vi (gD S 88 0 ((aw o ((aw o (3 * (gD S 91 0 (a1.toNat)))) + a2)).toNat)), S)
  else none)
 else none) := rfl
set_option maxRecDepth 100000 in
theorem b204_0 (o : AR) (K : KT) (n : Nat) (S : SD) (a1 : Int) (a2 : Int) : run o K false mi_204 (n + 1) 0 [(0, vr (some (85, 0))), (1, vi a1), (2, vi a2)] [] S =
 (bI (K 197 [vr (some (85, 0)), vi a1] S) (fun x2 S1 =>
  (if x2 = 0 then
   some (vi 0, S1)
  else
   (bI (K 192 [vl a2, vl 0, vl (gD S1 85 0 0)] S1) (fun x4 S3 =>
    (if x4 = 0 then
     some (vi 0, S3)
    else
     (if (gD S3 85 0 27) = 600 then
      some (vi 1, S3)
     else
      (if 0 ≤ (gD S3 85 0 27) ∧ (gD S3 85 0 27) < 600 then
       (if 0 ≤ (gD (wD S3 110 0 (((gD S3 85 0 27)).toNat) a1) 85 0 27) ∧ (gD (wD S3 110 0 (((gD S3 85 0 27)).toNat) a1) 85 0 27) < 600 then
        some (vi 1, wD (wD (wD S3 110 0 (((gD S3 85 0 27)).toNat) a1) 111 0 (((gD (wD S3 110 0 (((gD S3 85 0 27)).toNat) a1) 85 0 27)).toNat) a2) 85 0 27 (aw o ((gD (wD (wD S3 110 0 (((gD S3 85 0 27)).toNat) a1) 111 0 (((gD (wD S3 110 0 (((gD S3 85 0 27)).toNat) a1) 85 0 27)).toNat) a2) 85 0 27) + 1)))
       else none)
      else none)))))))) := rfl
set_option maxRecDepth 100000 in
theorem b205_0 (o : AR) (K : KT) (n : Nat) (S : SD) (a0 : Int) : run o K false mi_205 (n + 1) 0 [(0, vi a0)] [] S =
 (if a0 = (-1000000) then
  some (vi 1, S)
 else
  (bI (K 192 [vl a0, vl (-100000), vl 100000] S) (fun x2 S1 =>
   (if x2 = 0 then
    some (vi 0, S1)
   else
    some (vi 1, S1))))) := rfl
set_option maxRecDepth 100000 in
theorem b206_0 (o : AR) (K : KT) (n : Nat) (S : SD) (a1 : Int) (a2 : Int) (a3 : Int) (a4 : Int) (a5 : Int) : run o K false mi_206 (n + 1) 0 [(0, vr (some (85, 0))), (1, vi a1), (2, vi a2), (3, vi a3), (4, vi a4), (5, vi a5)] [] S =
 (bI (K 207 [vr (some (85, 0)), vi a1, vi a2, vi a3, vi a4] S) (fun x2 S1 =>
  (bI (K 208 [vr (some (85, 0)), vi a1, vi a2, vi a3, vi a4] S1) (fun x4 S3 =>
   (bI (K 192 [vl a5, vl x2, vl x4] S3) (fun x6 S5 =>
    (if x6 = 0 ∨ x6 = 1 then some (vi x6, S5) else none))))))) := rfl
set_option maxRecDepth 100000 in
theorem b207_0 (o : AR) (K : KT) (n : Nat) (S : SD) (a1 : Int) (a2 : Int) (a3 : Int) (a4 : Int) : run o K false mi_207 (n + 1) 0 [(0, vr (some (85, 0))), (1, vi a1), (2, vi a2), (3, vi a3), (4, vi a4)] [] S =
 (if 0 ≤ (aw o ((aw o (3 * a3)) + a2)) ∧ (aw o ((aw o (3 * a3)) + a2)) < 1200 then
  (bI (K 203 [vr (some (85, 0)), vi a1, vi a2] S) (fun x2 S1 =>
   (if 0 ≤ a3 ∧ a3 < 400 then
    (bI (K 201 [vr (some (85, 0)), vi a1, vi a2] S1) (fun x4 S3 =>
     (bI (K 194 [vi x4, vi (gD S 106 0 ((aw o ((aw o (3 * a3)) + a2)).toNat))] S3) (fun x6 S5 =>
      (bI (K 195 [vi (aw o ((gD S 106 0 ((aw o ((aw o (3 * a3)) + a2)).toNat)) - (aw o (x2 * (aw o (a4 - (gD S1 101 0 (a3.toNat)))))))), vi x6] S5) (fun x8 S7 =>
       some (vi x8, S7)))))))
   else none)))
 else none) := rfl
set_option maxRecDepth 100000 in
theorem b208_0 (o : AR) (K : KT) (n : Nat) (S : SD) (a1 : Int) (a2 : Int) (a3 : Int) (a4 : Int) : run o K false mi_208 (n + 1) 0 [(0, vr (some (85, 0))), (1, vi a1), (2, vi a2), (3, vi a3), (4, vi a4)] [] S =
 (if 0 ≤ (aw o ((aw o (3 * a3)) + a2)) ∧ (aw o ((aw o (3 * a3)) + a2)) < 1200 then
  (bI (K 203 [vr (some (85, 0)), vi a1, vi a2] S) (fun x2 S1 =>
   (if 0 ≤ a3 ∧ a3 < 400 then
    (bI (K 202 [vr (some (85, 0)), vi a1, vi a2] S1) (fun x4 S3 =>
     (bI (K 195 [vi x4, vi (gD S 106 0 ((aw o ((aw o (3 * a3)) + a2)).toNat))] S3) (fun x6 S5 =>
      (bI (K 194 [vi (aw o ((gD S 106 0 ((aw o ((aw o (3 * a3)) + a2)).toNat)) + (aw o (x2 * (aw o (a4 - (gD S1 101 0 (a3.toNat)))))))), vi x6] S5) (fun x8 S7 =>
       some (vi x8, S7)))))))
   else none)))
 else none) := rfl
set_option maxRecDepth 100000 in
theorem b209_0 (o : AR) (K : KT) (n : Nat) (S : SD) (a1 : Int) (a2 : Int) : run o K false mi_209 (n + 1) 0 [(0, vr (some (85, 0))), (1, vi a1), (2, vi a2)] [] S =
 (if 0 ≤ (aw o ((aw o (3 * a1)) + a2)) ∧ (aw o ((aw o (3 * a1)) + a2)) < 1200 then
  (if (gD S 106 0 ((aw o ((aw o (3 * a1)) + a2)).toNat)) = (-1000000) then
   some (vi 0, S)
  else
   run o K false mi_209 n 26 [(0, vr (some (85, 0))), (1, vi a1), (2, vi a2), (3, vi (gD S 106 0 ((aw o ((aw o (3 * a1)) + a2)).toNat))), (4, vi (-1)), (5, vi 0)] [] S)
 else none) := rfl
set_option maxRecDepth 100000 in
theorem b209_26 (o : AR) (K : KT) (n : Nat) (S : SD) (l1 : Int) (l2 : Int) (l3 : Int) (l4 : Int) (l5 : Int) : run o K false mi_209 (n + 1) 26 [(0, vr (some (85, 0))), (1, vi l1), (2, vi l2), (3, vi l3), (4, vi l4), (5, vi l5)] [] S =
 (if l5 < l1 then
  (if 0 ≤ l5 ∧ l5 < 400 then
   (if 0 ≤ l1 ∧ l1 < 400 then
    (if (gD S 97 0 (l5.toNat)) = (gD S 97 0 (l1.toNat)) then
     (if 0 ≤ l5 ∧ l5 < 400 then
      (if 0 ≤ l1 ∧ l1 < 400 then
       (if (gD S 98 0 (l5.toNat)) < (gD S 98 0 (l1.toNat)) then
        (if 0 ≤ l5 ∧ l5 < 400 then
         (if (gD S 105 0 (l5.toNat)) = 0 then
          (if 0 ≤ (aw o ((aw o (3 * l5)) + l2)) ∧ (aw o ((aw o (3 * l5)) + l2)) < 1200 then
           (if (gD S 106 0 ((aw o ((aw o (3 * l5)) + l2)).toNat)) = (-1000000) then
            run o K false mi_209 n 26 [(0, vr (some (85, 0))), (1, vi l1), (2, vi l2), (3, vi l3), (4, vi l4), (5, vi (aw o (l5 + 1)))] [] S
           else
            (if l4 < 0 then
             run o K false mi_209 n 26 [(0, vr (some (85, 0))), (1, vi l1), (2, vi l2), (3, vi l3), (4, vi l5), (5, vi (aw o (l5 + 1)))] [] S
            else
             (if 0 ≤ l5 ∧ l5 < 400 then
              (if 0 ≤ l4 ∧ l4 < 400 then
               (if (gD S 98 0 (l4.toNat)) < (gD S 98 0 (l5.toNat)) then
                run o K false mi_209 n 26 [(0, vr (some (85, 0))), (1, vi l1), (2, vi l2), (3, vi l3), (4, vi l5), (5, vi (aw o (l5 + 1)))] [] S
               else
                run o K false mi_209 n 26 [(0, vr (some (85, 0))), (1, vi l1), (2, vi l2), (3, vi l3), (4, vi l4), (5, vi (aw o (l5 + 1)))] [] S)
              else none)
             else none)))
          else none)
         else
          run o K false mi_209 n 26 [(0, vr (some (85, 0))), (1, vi l1), (2, vi l2), (3, vi l3), (4, vi l4), (5, vi (aw o (l5 + 1)))] [] S)
        else none)
       else
        run o K false mi_209 n 26 [(0, vr (some (85, 0))), (1, vi l1), (2, vi l2), (3, vi l3), (4, vi l4), (5, vi (aw o (l5 + 1)))] [] S)
      else none)
     else none)
    else
     run o K false mi_209 n 26 [(0, vr (some (85, 0))), (1, vi l1), (2, vi l2), (3, vi l3), (4, vi l4), (5, vi (aw o (l5 + 1)))] [] S)
   else none)
  else none)
 else
  (if l4 < 0 then
   some (vi 0, S)
  else
   (if 0 ≤ l4 ∧ l4 < 400 then
    (if 0 ≤ l1 ∧ l1 < 400 then
     (if (gD S 102 0 (l1.toNat)) < (gD S 101 0 (l4.toNat)) then
      some (vi 0, S)
     else
      (if 0 ≤ l1 ∧ l1 < 400 then
       (if 0 ≤ l1 ∧ l1 < 400 then
        (bI (K 206 [vr (some (85, 0)), vi (gD S 97 0 (l1.toNat)), vi l2, vi l4, vi (gD S 102 0 (l1.toNat)), vi l3] S) (fun x2 S1 =>
         (if x2 = 0 then
          some (vi 1, S1)
         else
          some (vi 0, S1))))
       else none)
      else none))
    else none)
   else none))) := rfl
set_option maxRecDepth 100000 in
theorem b210_0 (o : AR) (K : KT) (n : Nat) (S : SD) (a1 : Int) : run o K false mi_210 (n + 1) 0 [(0, vr (some (85, 0))), (1, vi a1)] [] S =
 run o K false mi_210 n 4 [(0, vr (some (85, 0))), (1, vi a1), (2, vi 0), (3, vi 0)] [] S := rfl
set_option maxRecDepth 100000 in
theorem b210_4 (o : AR) (K : KT) (n : Nat) (S : SD) (l1 : Int) (l2 : Int) (l3 : Int) : run o K false mi_210 (n + 1) 4 [(0, vr (some (85, 0))), (1, vi l1), (2, vi l2), (3, vi l3)] [] S =
 (if l3 < (gD S 85 0 27) then
  (if 0 ≤ l3 ∧ l3 < 600 then
   (if 0 ≤ l1 ∧ l1 < 400 then
    (if (gD S 110 0 (l3.toNat)) = (gD S 97 0 (l1.toNat)) then
     (if 0 ≤ l3 ∧ l3 < 600 then
      (if 0 ≤ l1 ∧ l1 < 400 then
       (if (gD S 99 0 (l1.toNat)) < (gD S 111 0 (l3.toNat)) then
        run o K false mi_210 n 4 [(0, vr (some (85, 0))), (1, vi l1), (2, vi l2), (3, vi (aw o (l3 + 1)))] [] S
       else
        (if 0 ≤ l3 ∧ l3 < 600 then
         (bI (K 195 [vi l2, vi (gD S 111 0 (l3.toNat))] S) (fun x2 S1 =>
          run o K false mi_210 n 4 [(0, vr (some (85, 0))), (1, vi l1), (2, vi x2), (3, vi (aw o (l3 + 1)))] [] S1))
        else none))
      else none)
     else none)
    else
     run o K false mi_210 n 4 [(0, vr (some (85, 0))), (1, vi l1), (2, vi l2), (3, vi (aw o (l3 + 1)))] [] S)
   else none)
  else none)
 else
  (if 0 ≤ l1 ∧ l1 < 400 then
   (if 0 ≤ l1 ∧ l1 < 400 then
    (if 0 ≤ (gD S 97 0 (l1.toNat)) ∧ (gD S 97 0 (l1.toNat)) < 40 then
     (if 0 ≤ (gD S 91 0 ((gD S 97 0 (l1.toNat)).toNat)) ∧ (gD S 91 0 ((gD S 97 0 (l1.toNat)).toNat)) < 8 then
      (if 0 ≤ l1 ∧ l1 < 400 then
       (bI (K 195 [vi (aw o ((gD S 99 0 (l1.toNat)) - (aw o (ab o 12 (aw o ((aw o ((aw o ((gD S 99 0 (l1.toNat)) - l2)) * (gD S 89 0 ((gD S 91 0 ((gD S 97 0 (l1.toNat)).toNat)).toNat)))) + 999)) 1000)))), vi l2] S) (fun x4 S3 =>
        (bI (K 194 [vi x4, vi (gD S3 85 0 0)] S3) (fun x6 S5 =>
         (if 0 ≤ l1 ∧ l1 < 400 then
          (if 0 ≤ l1 ∧ l1 < 400 then
           (bI (K 194 [vi (aw o ((gD (wD S5 101 0 ((l1).toNat) x6) 99 0 (l1.toNat)) + (aw o (ab o 12 (aw o ((aw o ((aw o ((gD S 99 0 (l1.toNat)) - l2)) * (gD S 89 0 ((gD S 91 0 ((gD S 97 0 (l1.toNat)).toNat)).toNat)))) + 999)) 1000)))), vi (gD (wD S5 101 0 ((l1).toNat) x6) 85 0 0)] (wD S5 101 0 ((l1).toNat) x6)) (fun x8 S7 =>
            (if 0 ≤ l1 ∧ l1 < 400 then
             some (vi 0, wD S7 102 0 ((l1).toNat) x8)
            else none)))
          else none)
         else none)))))
      else none)
     else none)
    else none)
   else none)
  else none)) := rfl
set_option maxRecDepth 100000 in
theorem b211_0 (o : AR) (K : KT) (n : Nat) (S : SD) (a1 : Int) (a2 : Int) (a3 : Int) (a4 : Int) (a5 : Int) (a6 : Int) : run o K false mi_211 (n + 1) 0 [(0, vr (some (85, 0))), (1, vi a1), (2, vi a2), (3, vi a3), (4, vi a4), (5, vi a5), (6, vi a6)] [] S =
 (if (gD S 85 0 13) = 400 then
  some (vi (-1), S)
 else
  (bI (K 197 [vr (some (85, 0)), vi a1] S) (fun x2 S1 =>
   (if x2 = 0 then
    some (vi (-1), S1)
   else
    (bI (K 192 [vl a2, vl 1, vl 200] S1) (fun x4 S3 =>
     (if x4 = 0 then
      some (vi (-1), S3)
     else
      (bI (K 193 [vi a3] S3) (fun x6 S5 =>
       (if x6 = 0 then
        some (vi (-1), S5)
       else
        (bI (K 205 [vi a4] S5) (fun x8 S7 =>
         (if x8 = 0 then
          some (vi (-1), S7)
         else
          (bI (K 205 [vi a5] S7) (fun x10 S9 =>
           (if x10 = 0 then
            some (vi (-1), S9)
           else
            (bI (K 205 [vi a6] S9) (fun x12 S11 =>
             (if x12 = 0 then
              some (vi (-1), S11)
             else
              (if 0 ≤ (aw o ((aw o (201 * a1)) + a2)) ∧ (aw o ((aw o (201 * a1)) + a2)) < 8040 then
               (if (gD S11 107 0 ((aw o ((aw o (201 * a1)) + a2)).toNat)) = 0 then
                (if 0 ≤ (gD S11 85 0 13) ∧ (gD S11 85 0 13) < 400 then
                 (if 0 ≤ (gD S11 85 0 13) ∧ (gD S11 85 0 13) < 400 then
                  (if 0 ≤ (gD S11 85 0 13) ∧ (gD S11 85 0 13) < 400 then
                   (if 0 ≤ (gD S11 85 0 13) ∧ (gD S11 85 0 13) < 400 then
                    (if 0 ≤ (aw o (3 * (gD S11 85 0 13))) ∧ (aw o (3 * (gD S11 85 0 13))) < 1200 then
                     (if 0 ≤ (aw o ((aw o (3 * (gD S11 85 0 13))) + 1)) ∧ (aw o ((aw o (3 * (gD S11 85 0 13))) + 1)) < 1200 then
                      (if 0 ≤ (aw o ((aw o (3 * (gD S11 85 0 13))) + 2)) ∧ (aw o ((aw o (3 * (gD S11 85 0 13))) + 2)) < 1200 then
                       (if 0 ≤ a1 ∧ a1 < 40 then
                        (if a2 < (gD (wD (wD (wD (wD (wD (wD (wD S11 97 0 (((gD S11 85 0 13)).toNat) a1) 98 0 (((gD S11 85 0 13)).toNat) a2) 99 0 (((gD S11 85 0 13)).toNat) a3) 100 0 (((gD S11 85 0 13)).toNat) (gD (wD (wD (wD S11 97 0 (((gD S11 85 0 13)).toNat) a1) 98 0 (((gD S11 85 0 13)).toNat) a2) 99 0 (((gD S11 85 0 13)).toNat) a3) 85 0 0)) 106 0 (((aw o (3 * (gD S11 85 0 13)))).toNat) a4) 106 0 (((aw o ((aw o (3 * (gD S11 85 0 13))) + 1))).toNat) a5) 106 0 (((aw o ((aw o (3 * (gD S11 85 0 13))) + 2))).toNat) a6) 109 0 (a1.toNat)) then
                         (if 0 ≤ (gD S11 85 0 13) ∧ (gD S11 85 0 13) < 400 then
                          (bV (K 210 [vr (some (85, 0)), vi (gD S11 85 0 13)] (wD (wD (wD (wD (wD (wD (wD (wD S11 97 0 (((gD S11 85 0 13)).toNat) a1) 98 0 (((gD S11 85 0 13)).toNat) a2) 99 0 (((gD S11 85 0 13)).toNat) a3) 100 0 (((gD S11 85 0 13)).toNat) (gD (wD (wD (wD S11 97 0 (((gD S11 85 0 13)).toNat) a1) 98 0 (((gD S11 85 0 13)).toNat) a2) 99 0 (((gD S11 85 0 13)).toNat) a3) 85 0 0)) 106 0 (((aw o (3 * (gD S11 85 0 13)))).toNat) a4) 106 0 (((aw o ((aw o (3 * (gD S11 85 0 13))) + 1))).toNat) a5) 106 0 (((aw o ((aw o (3 * (gD S11 85 0 13))) + 2))).toNat) a6) 104 0 (((gD S11 85 0 13)).toNat) 1)) (fun S13 =>
                           (if 0 ≤ (gD S11 85 0 13) ∧ (gD S11 85 0 13) < 400 then
                            run o K false mi_211 n 198 [(0, vr (some (85, 0))), (1, vi a1), (2, vi a2), (7, vi (gD S11 85 0 13)), (8, vi 0)] [] (wD S13 103 0 (((gD S11 85 0 13)).toNat) 0)
                           else none)))
                         else none)
                        else
                         (if 0 ≤ (gD S11 85 0 13) ∧ (gD S11 85 0 13) < 400 then
                          (bV (K 210 [vr (some (85, 0)), vi (gD S11 85 0 13)] (wD (wD (wD (wD (wD (wD (wD (wD S11 97 0 (((gD S11 85 0 13)).toNat) a1) 98 0 (((gD S11 85 0 13)).toNat) a2) 99 0 (((gD S11 85 0 13)).toNat) a3) 100 0 (((gD S11 85 0 13)).toNat) (gD (wD (wD (wD S11 97 0 (((gD S11 85 0 13)).toNat) a1) 98 0 (((gD S11 85 0 13)).toNat) a2) 99 0 (((gD S11 85 0 13)).toNat) a3) 85 0 0)) 106 0 (((aw o (3 * (gD S11 85 0 13)))).toNat) a4) 106 0 (((aw o ((aw o (3 * (gD S11 85 0 13))) + 1))).toNat) a5) 106 0 (((aw o ((aw o (3 * (gD S11 85 0 13))) + 2))).toNat) a6) 104 0 (((gD S11 85 0 13)).toNat) 0)) (fun S14 =>
                           (if 0 ≤ (gD S11 85 0 13) ∧ (gD S11 85 0 13) < 400 then
                            run o K false mi_211 n 198 [(0, vr (some (85, 0))), (1, vi a1), (2, vi a2), (7, vi (gD S11 85 0 13)), (8, vi 0)] [] (wD S14 103 0 (((gD S11 85 0 13)).toNat) 0)
                           else none)))
                         else none))
                       else none)
                      else none)
                     else none)
                    else none)
                   else none)
                  else none)
                 else none)
                else none)
               else
                some (vi (-2), S11))
              else none)))))))))))))))))))) := rfl
set_option maxRecDepth 100000 in
theorem b211_198 (o : AR) (K : KT) (n : Nat) (S : SD) (l1 : Int) (l2 : Int) (l7 : Int) (l8 : Int) : run o K false mi_211 (n + 1) 198 [(0, vr (some (85, 0))), (1, vi l1), (2, vi l2), (7, vi l7), (8, vi l8)] [] S =
 (if l8 < 3 then
  (bI (K 209 [vr (some (85, 0)), vi l7, vi l8] S) (fun x2 S1 =>
   (if x2 = 0 then
    run o K false mi_211 n 198 [(0, vr (some (85, 0))), (1, vi l1), (2, vi l2), (7, vi l7), (8, vi (aw o (l8 + 1)))] [] S1
   else
    (if 0 ≤ l7 ∧ l7 < 400 then
     (if 0 ≤ l7 ∧ l7 < 400 then
      run o K false mi_211 n 198 [(0, vr (some (85, 0))), (1, vi l1), (2, vi l2), (7, vi l7), (8, vi (aw o (l8 + 1)))] [] (wD S1 103 0 ((l7).toNat) (ab o 1 (gD S1 103 0 (l7.toNat)) (ab o 3 1 l8)))
     else none)
    else none))))
 else
  (if 0 ≤ (aw o ((aw o (201 * l1)) + l2)) ∧ (aw o ((aw o (201 * l1)) + l2)) < 8040 then
   (if 0 ≤ l1 ∧ l1 < 40 then
    (bI (K 195 [vi (gD (wD S 107 0 (((aw o ((aw o (201 * l1)) + l2))).toNat) 1) 109 0 (l1.toNat)), vi l2] (wD S 107 0 (((aw o ((aw o (201 * l1)) + l2))).toNat) 1)) (fun x4 S3 =>
     (if 0 ≤ l1 ∧ l1 < 40 then
      (bI (K 269 [vr (some (85, 0)), vi l1] (wD (wD S3 109 0 ((l1).toNat) x4) 85 0 13 (aw o ((gD (wD S3 109 0 ((l1).toNat) x4) 85 0 13) + 1)))) (fun x6 S5 =>
       some (vi l7, S5)))
     else none)))
   else none)
  else none)) := rfl
set_option maxRecDepth 100000 in
theorem b212_0 (o : AR) (K : KT) (n : Nat) (S : SD) (a1 : Int) (a2 : Int) : run o K false mi_212 (n + 1) 0 [(0, vr (some (85, 0))), (1, vi a1), (2, vi a2)] [] S =
 (bI (K 192 [vl a1, vl 0, vl (aw o ((gD S 85 0 13) - 1))] S) (fun x2 S1 =>
  (if x2 = 0 then
   some (vi (-1), S1)
  else
   (if a2 = 0 then
    (if 0 ≤ a1 ∧ a1 < 400 then
     some (vi (gD S1 97 0 (a1.toNat)), S1)
    else none)
   else (if a2 = 1 then
    (if 0 ≤ a1 ∧ a1 < 400 then
     some (vi (gD S1 98 0 (a1.toNat)), S1)
    else none)
   else (if a2 = 2 then
    (if 0 ≤ a1 ∧ a1 < 400 then
     some (vi (gD S1 99 0 (a1.toNat)), S1)
    else none)
   else (if a2 = 3 then
    (if 0 ≤ a1 ∧ a1 < 400 then
     some (vi (gD S1 100 0 (a1.toNat)), S1)
    else none)
   else (if a2 = 4 then
    (if 0 ≤ a1 ∧ a1 < 400 then
     (if (gD S1 104 0 (a1.toNat)) = 0 then
      some (vi 0, S1)
     else
      some (vi 1, S1))
    else none)
   else (if a2 = 5 then
    (if 0 ≤ a1 ∧ a1 < 400 then
     some (vi (gD S1 101 0 (a1.toNat)), S1)
    else none)
   else (if a2 = 6 then
    (if 0 ≤ a1 ∧ a1 < 400 then
     some (vi (gD S1 102 0 (a1.toNat)), S1)
    else none)
   else (if a2 = 7 then
    (if 0 ≤ a1 ∧ a1 < 400 then
     some (vi (gD S1 103 0 (a1.toNat)), S1)
    else none)
   else (if a2 = 8 then
    (if 0 ≤ a1 ∧ a1 < 400 then
     (if (gD S1 105 0 (a1.toNat)) = 0 then
      some (vi 0, S1)
     else
      some (vi 1, S1))
    else none)
   else 
    some (vi (-1), S1))))))))))))) := rfl
set_option maxRecDepth 100000 in
theorem b213_0 (o : AR) (K : KT) (n : Nat) (S : SD) (a1 : Int) (a2 : Int) : run o K false mi_213 (n + 1) 0 [(0, vr (some (85, 0))), (1, vi a1), (2, vi a2)] [] S =
 (if 0 ≤ a1 ∧ a1 < 40 then
  (bI (K 192 [vl a2, vl 1, vl (aw o ((gD S 109 0 (a1.toNat)) - 1))] S) (fun x2 S1 =>
   (if x2 = 0 then
    some (vi 0, S1)
   else
    (if 0 ≤ (aw o ((aw o (201 * a1)) + a2)) ∧ (aw o ((aw o (201 * a1)) + a2)) < 8040 then
     (if (gD S1 107 0 ((aw o ((aw o (201 * a1)) + a2)).toNat)) = 0 then
      (if 0 ≤ (aw o ((aw o (201 * a1)) + a2)) ∧ (aw o ((aw o (201 * a1)) + a2)) < 8040 then
       (if (gD S1 108 0 ((aw o ((aw o (201 * a1)) + a2)).toNat)) = 0 then
        some (vi 1, S1)
       else
        some (vi 0, S1))
      else none)
     else
      some (vi 0, S1))
    else none))))
 else none) := rfl
set_option maxRecDepth 100000 in
theorem b214_0 (o : AR) (K : KT) (n : Nat) (S : SD) (a1 : Int) (a2 : Int) : run o K false mi_214 (n + 1) 0 [(0, vr (some (85, 0))), (1, vi a1), (2, vi a2)] [] S =
 (bI (K 197 [vr (some (85, 0)), vi a1] S) (fun x2 S1 =>
  (if x2 = 0 then
   some (vi (-1), S1)
  else
   run o K false mi_214 n 15 [(0, vr (some (85, 0))), (1, vi a1), (2, vi a2), (3, vi 0), (4, vi 1)] [] S1))) := rfl
set_option maxRecDepth 100000 in
theorem b214_15 (o : AR) (K : KT) (n : Nat) (S : SD) (l1 : Int) (l2 : Int) (l3 : Int) (l4 : Int) : run o K false mi_214 (n + 1) 15 [(0, vr (some (85, 0))), (1, vi l1), (2, vi l2), (3, vi l3), (4, vi l4)] [] S =
 (if 0 ≤ l1 ∧ l1 < 40 then
  (if l4 < (gD S 109 0 (l1.toNat)) then
   (bI (K 213 [vr (some (85, 0)), vi l1, vi l4] S) (fun x2 S1 =>
    (if x2 = 0 then
     run o K false mi_214 n 15 [(0, vr (some (85, 0))), (1, vi l1), (2, vi l2), (3, vi l3), (4, vi (aw o (l4 + 1)))] [] S1
    else
     (if l3 = l2 then
      some (vi l4, S1)
     else
      run o K false mi_214 n 15 [(0, vr (some (85, 0))), (1, vi l1), (2, vi l2), (3, vi (aw o (l3 + 1))), (4, vi (aw o (l4 + 1)))] [] S1))))
  else
   (if l2 = (-1) then
    some (vi l3, S)
   else
    some (vi (-1), S)))
 else none) := rfl
set_option maxRecDepth 100000 in
theorem b215_0 (o : AR) (K : KT) (n : Nat) (S : SD) (a1 : Int) (a2 : Int) : run o K false mi_215 (n + 1) 0 [(0, vr (some (85, 0))), (1, vi a1), (2, vi a2)] [] S =
 (bI (K 197 [vr (some (85, 0)), vi a1] S) (fun x2 S1 =>
  (if x2 = 0 then
   some (vi 0, S1)
  else
   (bI (K 213 [vr (some (85, 0)), vi a1, vi a2] S1) (fun x4 S3 =>
    (if x4 = 0 then
     some (vi 0, S3)
    else
     (if 0 ≤ (aw o ((aw o (201 * a1)) + a2)) ∧ (aw o ((aw o (201 * a1)) + a2)) < 8040 then
      some (vi 1, wD S3 108 0 (((aw o ((aw o (201 * a1)) + a2))).toNat) 1)
     else none))))))) := rfl
set_option maxRecDepth 100000 in
theorem b216_0 (o : AR) (K : KT) (n : Nat) (S : SD) (a1 : Int) : run o K false mi_216 (n + 1) 0 [(0, vr (some (85, 0))), (1, vi a1)] [] S =
 (bI (K 197 [vr (some (85, 0)), vi a1] S) (fun x2 S1 =>
  (if x2 = 0 then
   some (vi (-1), S1)
  else
   run o K false mi_216 n 14 [(0, vr (some (85, 0))), (1, vi a1), (2, vi 0), (3, vi 0)] [] S1))) := rfl
set_option maxRecDepth 100000 in
theorem b216_14 (o : AR) (K : KT) (n : Nat) (S : SD) (l1 : Int) (l2 : Int) (l3 : Int) : run o K false mi_216 (n + 1) 14 [(0, vr (some (85, 0))), (1, vi l1), (2, vi l2), (3, vi l3)] [] S =
 (if l3 < (gD S 85 0 13) then
  (if 0 ≤ l3 ∧ l3 < 400 then
   (if (gD S 97 0 (l3.toNat)) = l1 then
    (if 0 ≤ l3 ∧ l3 < 400 then
     (if (gD S 105 0 (l3.toNat)) = 0 then
      (if 0 ≤ l3 ∧ l3 < 400 then
       run o K false mi_216 n 14 [(0, vr (some (85, 0))), (1, vi l1), (2, vi (aw o (l2 + 1))), (3, vi (aw o (l3 + 1)))] [] (wD S 105 0 ((l3).toNat) 1)
      else none)
     else
      run o K false mi_216 n 14 [(0, vr (some (85, 0))), (1, vi l1), (2, vi l2), (3, vi (aw o (l3 + 1)))] [] S)
    else none)
   else
    run o K false mi_216 n 14 [(0, vr (some (85, 0))), (1, vi l1), (2, vi l2), (3, vi (aw o (l3 + 1)))] [] S)
  else none)
 else
  some (vi l2, S)) := rfl
set_option maxRecDepth 100000 in
theorem b217_0 (o : AR) (K : KT) (n : Nat) (S : SD) (a1 : Int) (a2 : Int) (a3 : Int) (a4 : Int) : run o K false mi_217 (n + 1) 0 [(0, vr (some (85, 0))), (1, vi a1), (2, vi a2), (3, vi a3), (4, vi a4)] [] S =
 run o K false mi_217 n 6 [(0, vr (some (85, 0))), (1, vi a1), (2, vi a2), (3, vi a3), (4, vi a4), (5, vi (-1)), (6, vi 0)] [] S := rfl
set_option maxRecDepth 100000 in
theorem b217_6 (o : AR) (K : KT) (n : Nat) (S : SD) (l1 : Int) (l2 : Int) (l3 : Int) (l4 : Int) (l5 : Int) (l6 : Int) : run o K false mi_217 (n + 1) 6 [(0, vr (some (85, 0))), (1, vi l1), (2, vi l2), (3, vi l3), (4, vi l4), (5, vi l5), (6, vi l6)] [] S =
 (if l6 < (gD S 85 0 13) then
  (if 0 ≤ l6 ∧ l6 < 400 then
   (if (gD S 97 0 (l6.toNat)) = l1 then
    (if 0 ≤ l6 ∧ l6 < 400 then
     (if l4 < (gD S 100 0 (l6.toNat)) then
      run o K false mi_217 n 6 [(0, vr (some (85, 0))), (1, vi l1), (2, vi l2), (3, vi l3), (4, vi l4), (5, vi l5), (6, vi (aw o (l6 + 1)))] [] S
     else
      (if 0 ≤ l6 ∧ l6 < 400 then
       (if (gD S 105 0 (l6.toNat)) = 0 then
        (if 0 ≤ (aw o ((aw o (3 * l6)) + l2)) ∧ (aw o ((aw o (3 * l6)) + l2)) < 1200 then
         (if (gD S 106 0 ((aw o ((aw o (3 * l6)) + l2)).toNat)) = (-1000000) then
          run o K false mi_217 n 6 [(0, vr (some (85, 0))), (1, vi l1), (2, vi l2), (3, vi l3), (4, vi l4), (5, vi l5), (6, vi (aw o (l6 + 1)))] [] S
         else
          (if 0 ≤ l6 ∧ l6 < 400 then
           (if l3 < (gD S 101 0 (l6.toNat)) then
            run o K false mi_217 n 6 [(0, vr (some (85, 0))), (1, vi l1), (2, vi l2), (3, vi l3), (4, vi l4), (5, vi l5), (6, vi (aw o (l6 + 1)))] [] S
           else
            (if l5 < 0 then
             run o K false mi_217 n 6 [(0, vr (some (85, 0))), (1, vi l1), (2, vi l2), (3, vi l3), (4, vi l4), (5, vi l6), (6, vi (aw o (l6 + 1)))] [] S
            else
             (if 0 ≤ l6 ∧ l6 < 400 then
              (if 0 ≤ l5 ∧ l5 < 400 then
               (if (gD S 98 0 (l5.toNat)) < (gD S 98 0 (l6.toNat)) then
                run o K false mi_217 n 6 [(0, vr (some (85, 0))), (1, vi l1), (2, vi l2), (3, vi l3), (4, vi l4), (5, vi l6), (6, vi (aw o (l6 + 1)))] [] S
               else
                run o K false mi_217 n 6 [(0, vr (some (85, 0))), (1, vi l1), (2, vi l2), (3, vi l3), (4, vi l4), (5, vi l5), (6, vi (aw o (l6 + 1)))] [] S)
              else none)
             else none)))
          else none))
        else none)
       else
        run o K false mi_217 n 6 [(0, vr (some (85, 0))), (1, vi l1), (2, vi l2), (3, vi l3), (4, vi l4), (5, vi l5), (6, vi (aw o (l6 + 1)))] [] S)
      else none))
    else none)
   else
    run o K false mi_217 n 6 [(0, vr (some (85, 0))), (1, vi l1), (2, vi l2), (3, vi l3), (4, vi l4), (5, vi l5), (6, vi (aw o (l6 + 1)))] [] S)
  else none)
 else
  some (vi l5, S)) := rfl
set_option maxRecDepth 100000 in
theorem b218_0 (o : AR) (K : KT) (n : Nat) (S : SD) (a1 : Int) (a2 : Int) (a3 : Int) (a4 : Int) : run o K false mi_218 (n + 1) 0 [(0, vr (some (85, 0))), (1, vi a1), (2, vi a2), (3, vi a3), (4, vi a4)] [] S =
 (bI (K 217 [vr (some (85, 0)), vi a1, vi a2, vi a3, vi a4] S) (fun x2 S1 =>
  (if x2 < 0 then
   some (vi (-1000000), S1)
  else
   (if 0 ≤ (aw o ((aw o (3 * x2)) + a2)) ∧ (aw o ((aw o (3 * x2)) + a2)) < 1200 then
    some (vi (gD S1 106 0 ((aw o ((aw o (3 * x2)) + a2)).toNat)), S1)
   else none)))) := rfl
set_option maxRecDepth 100000 in
theorem b219_0 (o : AR) (K : KT) (n : Nat) (S : SD) (a1 : Int) (a2 : Int) (a3 : Int) (a4 : Int) : run o K false mi_219 (n + 1) 0 [(0, vr (some (85, 0))), (1, vi a1), (2, vi a2), (3, vi a3), (4, vi a4)] [] S =
 (bI (K 197 [vr (some (85, 0)), vi a1] S) (fun x2 S1 =>
  (if x2 = 0 then
   some (vi (-1000000), S1)
  else
   (bI (K 196 [vi a2] S1) (fun x4 S3 =>
    (if x4 = 0 then
     some (vi (-1000000), S3)
    else
     (bI (K 193 [vi a3] S3) (fun x6 S5 =>
      (if x6 = 0 then
       some (vi (-1000000), S5)
      else
       (bI (K 193 [vi a4] S5) (fun x8 S7 =>
        (if x8 = 0 then
         some (vi (-1000000), S7)
        else
         (bI (K 218 [vr (some (85, 0)), vi a1, vi a2, vi a3, vi a4] S7) (fun x10 S9 =>
          some (vi x10, S9))))))))))))))) := rfl
set_option maxRecDepth 100000 in
theorem b220_0 (o : AR) (K : KT) (n : Nat) (S : SD) (a1 : Int) (a2 : Int) (a3 : Int) (a4 : Int) (a5 : Int) : run o K false mi_220 (n + 1) 0 [(0, vr (some (85, 0))), (1, vi a1), (2, vi a2), (3, vi a3), (4, vi a4), (5, vi a5)] [] S =
 (bI (K 197 [vr (some (85, 0)), vi a1] S) (fun x2 S1 =>
  (if x2 = 0 then
   (if a5 = 2 then
    some (vi (-1), S1)
   else
    some (vi (-1000000), S1))
  else
   (bI (K 196 [vi a2] S1) (fun x4 S3 =>
    (if x4 = 0 then
     (if a5 = 2 then
      some (vi (-1), S3)
     else
      some (vi (-1000000), S3))
    else
     (bI (K 193 [vi a3] S3) (fun x6 S5 =>
      (if x6 = 0 then
       (if a5 = 2 then
        some (vi (-1), S5)
       else
        some (vi (-1000000), S5))
      else
       (bI (K 193 [vi a4] S5) (fun x8 S7 =>
        (if x8 = 0 then
         (if a5 = 2 then
          some (vi (-1), S7)
         else
          some (vi (-1000000), S7))
        else
         (bI (K 192 [vl a5, vl 0, vl 2] S7) (fun x10 S9 =>
          (if x10 = 0 then
           (if a5 = 2 then
            some (vi (-1), S9)
           else
            some (vi (-1000000), S9))
          else
           (bI (K 217 [vr (some (85, 0)), vi a1, vi a2, vi a3, vi a4] S9) (fun x12 S11 =>
            (if a5 = 2 then
             some (vi x12, S11)
            else
             (if x12 < 0 then
              some (vi (-1000000), S11)
             else
              (if a5 = 0 then
               (bI (K 207 [vr (some (85, 0)), vi a1, vi a2, vi x12, vi a3] S11) (fun x14 S13 =>
                some (vi x14, S13)))
              else
               (bI (K 208 [vr (some (85, 0)), vi a1, vi a2, vi x12, vi a3] S11) (fun x16 S15 =>
                some (vi x16, S15))))))))))))))))))))))) := rfl
set_option maxRecDepth 100000 in
theorem b221_0 (o : AR) (K : KT) (n : Nat) (S : SD) (a1 : Int) : run o K false mi_221 (n + 1) 0 [(0, vr (some (85, 0))), (1, vi a1)] [] S =
 run o K false mi_221 n 3 [(0, vr (some (85, 0))), (1, vi a1), (2, vi 24)] [] S := rfl
set_option maxRecDepth 100000 in
theorem b221_3 (o : AR) (K : KT) (n : Nat) (S : SD) (l1 : Int) (l2 : Int) : run o K false mi_221 (n + 1) 3 [(0, vr (some (85, 0))), (1, vi l1), (2, vi l2)] [] S =
 (if l2 < 0 then
  some (vi 0, S)
 else
  (if 0 ≤ (gD S 85 0 31) ∧ (gD S 85 0 31) < 200 then
   (if -128 ≤ (ab o 13 (ab o 4 l1 l2) 256) ∧ (ab o 13 (ab o 4 l1 l2) 256) < 128 then
   run o K false mi_221 n 3 [(0, vr (some (85, 0))), (1, vi l1), (2, vi (aw o (l2 + (-8))))] [] (wD (wD S 112 0 (((gD S 85 0 31)).toNat) (ab o 13 (ab o 4 l1 l2) 256)) 85 0 31 (aw o ((gD (wD S 112 0 (((gD S 85 0 31)).toNat) (ab o 13 (ab o 4 l1 l2) 256)) 85 0 31) + 1)))
  else none)
  else none)) := rfl
set_option maxRecDepth 100000 in
theorem b222_0 (o : AR) (K : KT) (n : Nat) (S : SD) (a1 : Int) (a2 : Int) (a3 : Int) (a4 : Int) (a5 : Int) : run o K false mi_222 (n + 1) 0 [(0, vr (some (85, 0))), (1, vi a1), (2, vi a2), (3, vi a3), (4, vi a4), (5, vi a5)] [] S =
 (if 200 < (aw o ((gD S 85 0 31) + 20)) then
  some (vi (-1), S)
 else
  (bV (K 221 [vr (some (85, 0)), vi a1] S) (fun S1 =>
   (bV (K 221 [vr (some (85, 0)), vi a2] S1) (fun S2 =>
    (bV (K 221 [vr (some (85, 0)), vi a3] S2) (fun S3 =>
     (bV (K 221 [vr (some (85, 0)), vi a4] S3) (fun S4 =>
      (bV (K 221 [vr (some (85, 0)), vi a5] S4) (fun S5 =>
       some (vi (gD S5 85 0 31), S5)))))))))))) := rfl
set_option maxRecDepth 100000 in
theorem b223_0 (o : AR) (K : KT) (n : Nat) (S : SD) (a1 : Int) : run o K false mi_223 (n + 1) 0 [(0, vr (some (85, 0))), (1, vi a1)] [] S =
 (if a1 < 0 then
  some (vi (-1), S)
 else
  (if (gD S 85 0 31) < a1 then
   some (vi (-1), S)
  else
   some (vi a1, wD S 85 0 31 a1))) := rfl
set_option maxRecDepth 100000 in
theorem b224_0 (o : AR) (K : KT) (n : Nat) (S : SD) (a1 : Int) (a2 : Int) : run o K false mi_224 (n + 1) 0 [(0, vr (some (85, 0))), (1, vi a1), (2, vi a2)] [] S =
 (if (gD S 85 0 54) = 0 then
  some (vi 0, wD S 85 0 54 (aw o ((aw o (1 + (aw o (8 * a2)))) + a1)))
 else
  some (vi 0, S)) := rfl
set_option maxRecDepth 100000 in
theorem b225_0 (o : AR) (K : KT) (n : Nat) (S : SD) : run o K false mi_225 (n + 1) 0 [(0, vr (some (85, 0)))] [] S =
 (if (gD S 85 0 53) < (gD S 85 0 31) then
  (if 0 ≤ (gD S 85 0 53) ∧ (gD S 85 0 53) < 200 then
   (if (gD S 112 0 ((gD S 85 0 53).toNat)) = 32 then
    run o K false mi_225 n 0 [(0, vr (some (85, 0)))] [] (wD S 85 0 53 (aw o ((gD S 85 0 53) + 1)))
   else
    (if (gD S 85 0 53) < (gD S 85 0 31) then
     (if 0 ≤ (gD S 85 0 53) ∧ (gD S 85 0 53) < 200 then
      some (vi (ab o 0 (gD S 112 0 ((gD S 85 0 53).toNat)) 255), S)
     else none)
    else
     some (vi (-1), S)))
  else none)
 else
  (if (gD S 85 0 53) < (gD S 85 0 31) then
   (if 0 ≤ (gD S 85 0 53) ∧ (gD S 85 0 53) < 200 then
    some (vi (ab o 0 (gD S 112 0 ((gD S 85 0 53).toNat)) 255), S)
   else none)
  else
   some (vi (-1), S))) := rfl
set_option maxRecDepth 100000 in
theorem b226_0 (o : AR) (K : KT) (n : Nat) (S : SD) (a1 : Int) : run o K false mi_226 (n + 1) 0 [(0, vr (some (85, 0))), (1, vi a1)] [] S =
 (if a1 < (gD S 85 0 31) then
  (if 0 ≤ a1 ∧ a1 < 200 then
   (if (gD S 112 0 (a1.toNat)) < 48 then
    some (vi 0, S)
   else
    (if 0 ≤ a1 ∧ a1 < 200 then
     (if 57 < (gD S 112 0 (a1.toNat)) then
      some (vi 0, S)
     else
      some (vi 1, S))
    else none))
  else none)
 else
  some (vi 0, S)) := rfl
set_option maxRecDepth 100000 in
theorem b227_0 (o : AR) (K : KT) (n : Nat) (S : SD) (a1 : Int) : run o K false mi_227 (n + 1) 0 [(0, vr (some (85, 0))), (1, vl a1)] [] S =
 (bI (K 225 [vr (some (85, 0))] S) (fun x2 S1 =>
  run o K false mi_227 n 10 [(0, vr (some (85, 0))), (1, vl a1), (3, vl 0), (5, vi 0)] [] S1)) := rfl
set_option maxRecDepth 100000 in
theorem b227_10 (o : AR) (K : KT) (n : Nat) (S : SD) (l1 : Int) (l3 : Int) (l5 : Int) : run o K false mi_227 (n + 1) 10 [(0, vr (some (85, 0))), (1, vl l1), (3, vl l3), (5, vi l5)] [] S =
 (if (aw o ((gD S 85 0 53) + l5)) < (gD S 85 0 31) then
  (if 0 ≤ (aw o ((gD S 85 0 53) + l5)) ∧ (aw o ((gD S 85 0 53) + l5)) < 200 then
   (if (gD S 112 0 ((aw o ((gD S 85 0 53) + l5)).toNat)) < 97 then
    (if l5 < 8 then
     (if 0 < l5 then
      (if (ab o 9 l3 l1) = 0 then
       some (vi 1, S)
      else
       some (vi 0, S))
     else
      some (vi 0, S))
    else
     some (vi 0, S))
   else
    (if 0 ≤ (aw o ((gD S 85 0 53) + l5)) ∧ (aw o ((gD S 85 0 53) + l5)) < 200 then
     (if 122 < (gD S 112 0 ((aw o ((gD S 85 0 53) + l5)).toNat)) then
      (if l5 < 8 then
       (if 0 < l5 then
        (if (ab o 9 l3 l1) = 0 then
         some (vi 1, S)
        else
         some (vi 0, S))
       else
        some (vi 0, S))
      else
       some (vi 0, S))
     else
      (if l5 < 7 then
       (if 0 ≤ (aw o ((gD S 85 0 53) + l5)) ∧ (aw o ((gD S 85 0 53) + l5)) < 200 then
        run o K false mi_227 n 10 [(0, vr (some (85, 0))), (1, vl l1), (3, vl (ab o 6 (ab o 7 l3 8) (gD S 112 0 ((aw o ((gD S 85 0 53) + l5)).toNat)))), (5, vi (aw o (l5 + 1)))] [] S
       else none)
      else
       run o K false mi_227 n 10 [(0, vr (some (85, 0))), (1, vl l1), (3, vl l3), (5, vi (aw o (l5 + 1)))] [] S))
    else none))
  else none)
 else
  (if l5 < 8 then
   (if 0 < l5 then
    (if (ab o 9 l3 l1) = 0 then
     some (vi 1, S)
    else
     some (vi 0, S))
   else
    some (vi 0, S))
  else
   some (vi 0, S))) := rfl
set_option maxRecDepth 100000 in
theorem b228_0 (o : AR) (K : KT) (n : Nat) (S : SD) : run o K false mi_228 (n + 1) 0 [(0, vr (some (85, 0)))] [] S =
 (if (gD S 85 0 53) < (gD S 85 0 31) then
  (if 0 ≤ (gD S 85 0 53) ∧ (gD S 85 0 53) < 200 then
   (if (gD S 112 0 ((gD S 85 0 53).toNat)) < 97 then
    some (vi 0, S)
   else
    (if 0 ≤ (gD S 85 0 53) ∧ (gD S 85 0 53) < 200 then
     (if 122 < (gD S 112 0 ((gD S 85 0 53).toNat)) then
      some (vi 0, S)
     else
      run o K false mi_228 n 0 [(0, vr (some (85, 0)))] [] (wD S 85 0 53 (aw o ((gD S 85 0 53) + 1))))
    else none))
  else none)
 else
  some (vi 0, S)) := rfl
set_option maxRecDepth 100000 in
theorem b229_0 (o : AR) (K : KT) (n : Nat) (S : SD) (a1 : Int) : run o K false mi_229 (n + 1) 0 [(0, vr (some (85, 0))), (1, vl a1)] [] S =
 (bI (K 227 [vr (some (85, 0)), vl a1] S) (fun x2 S1 =>
  (if x2 = 0 then
   some (vi 0, S1)
  else
   (bV (K 228 [vr (some (85, 0))] S1) (fun S3 =>
    some (vi 1, S3)))))) := rfl
set_option maxRecDepth 100000 in
theorem b230_0 (o : AR) (K : KT) (n : Nat) (S : SD) (a1 : Int) (a2 : Int) : run o K false mi_230 (n + 1) 0 [(0, vr (some (85, 0))), (1, vi a1), (2, vi a2)] [] S =
 (bI (K 226 [vr (some (85, 0)), vi (gD S 85 0 53)] S) (fun x2 S1 =>
  (if x2 = 0 then
   (bI (K 224 [vr (some (85, 0)), vi 0, vi (gD S1 85 0 53)] S1) (fun x4 S3 =>
    (if x4 = 0 ∨ x4 = 1 then some (vi x4, S3) else none)))
  else
   run o K false mi_230 n 29 [(0, vr (some (85, 0))), (1, vi a1), (2, vi a2), (3, vi (gD S1 85 0 53)), (4, vi 0)] [] S1))) := rfl
set_option maxRecDepth 100000 in
theorem b230_29 (o : AR) (K : KT) (n : Nat) (S : SD) (l1 : Int) (l2 : Int) (l3 : Int) (l4 : Int) : run o K false mi_230 (n + 1) 29 [(0, vr (some (85, 0))), (1, vi l1), (2, vi l2), (3, vi l3), (4, vi l4)] [] S =
 (bI (K 226 [vr (some (85, 0)), vi (gD S 85 0 53)] S) (fun x2 S1 =>
  (if x2 = 0 then
   (if 6 < (aw o ((gD (wD S1 85 0 57 l4) 85 0 53) - l3)) then
    (bI (K 224 [vr (some (85, 0)), vi 1, vi l3] (wD S1 85 0 57 l4)) (fun x4 S3 =>
     (if x4 = 0 then
      some (vi 0, S3)
     else
      some (vi 1, S3))))
   else
    (bI (K 192 [vl l4, vl l1, vl l2] (wD S1 85 0 57 l4)) (fun x6 S5 =>
     (if x6 = 0 then
      (bI (K 224 [vr (some (85, 0)), vi 1, vi l3] S5) (fun x8 S7 =>
       (if x8 = 0 then
        some (vi 0, S7)
       else
        some (vi 1, S7))))
     else
      some (vi 1, S5)))))
  else
   (if (aw o ((gD S1 85 0 53) - l3)) < 6 then
    (if 0 ≤ (gD S1 85 0 53) ∧ (gD S1 85 0 53) < 200 then
     run o K false mi_230 n 29 [(0, vr (some (85, 0))), (1, vi l1), (2, vi l2), (3, vi l3), (4, vi (aw o ((aw o ((aw o (10 * l4)) + (gD S1 112 0 ((gD S1 85 0 53).toNat)))) - 48)))] [] (wD S1 85 0 53 (aw o ((gD S1 85 0 53) + 1)))
    else none)
   else
    run o K false mi_230 n 29 [(0, vr (some (85, 0))), (1, vi l1), (2, vi l2), (3, vi l3), (4, vi l4)] [] (wD S1 85 0 53 (aw o ((gD S1 85 0 53) + 1))))))) := rfl
set_option maxRecDepth 100000 in
theorem b231_0 (o : AR) (K : KT) (n : Nat) (S : SD) : run o K false mi_231 (n + 1) 0 [(0, vr (some (85, 0)))] [] S =
 (bI (K 225 [vr (some (85, 0))] S) (fun x2 S1 =>
  (if x2 = 45 then
   (bI (K 230 [vr (some (85, 0)), vi 0, vi 999999] (wD S1 85 0 53 (aw o ((gD S1 85 0 53) + 1)))) (fun x4 S3 =>
    (if x4 = 0 then
     some (vi 0, S3)
    else
     some (vi 1, wD S3 85 0 57 (aw o (-(gD S3 85 0 57)))))))
  else
   (bI (K 230 [vr (some (85, 0)), vi 0, vi 999999] S1) (fun x6 S5 =>
    (if x6 = 0 then
     some (vi 0, S5)
    else
     some (vi 1, S5))))))) := rfl
set_option maxRecDepth 100000 in
theorem b232_0 (o : AR) (K : KT) (n : Nat) (S : SD) : run o K false mi_232 (n + 1) 0 [(0, vr (some (85, 0)))] [] S =
 (bI (K 225 [vr (some (85, 0))] S) (fun x2 S1 =>
  (bI (K 230 [vr (some (85, 0)), vi 1, vi 60] S1) (fun x4 S3 =>
   (if x4 = 0 ∨ x4 = 1 then some (vi x4, S3) else none))))) := rfl
set_option maxRecDepth 100000 in
theorem b233_0 (o : AR) (K : KT) (n : Nat) (S : SD) : run o K false mi_233 (n + 1) 0 [(0, vr (some (85, 0)))] [] S =
 (bI (K 227 [vr (some (85, 0)), vl 116] S) (fun x2 S1 =>
  (if x2 = 0 then
   (bI (K 224 [vr (some (85, 0)), vi 0, vi (gD S1 85 0 53)] S1) (fun x4 S3 =>
    (if x4 = 0 ∨ x4 = 1 then some (vi x4, S3) else none)))
  else
   (bI (K 230 [vr (some (85, 0)), vi 0, vi 39] (wD S1 85 0 53 (aw o ((gD S1 85 0 53) + 1)))) (fun x6 S5 =>
    (if x6 = 0 then
     some (vi 0, S5)
    else
     (bI (K 197 [vr (some (85, 0)), vi (gD (wD S5 85 0 55 (gD S5 85 0 57)) 85 0 55)] (wD S5 85 0 55 (gD S5 85 0 57))) (fun x8 S7 =>
      (if x8 = 0 then
       (bI (K 224 [vr (some (85, 0)), vi 4, vi (gD S1 85 0 53)] S7) (fun x10 S9 =>
        (if x10 = 0 then
         some (vi 0, S9)
        else
         some (vi 1, S9))))
      else
       some (vi 1, S7)))))))))) := rfl
set_option maxRecDepth 100000 in
theorem b234_0 (o : AR) (K : KT) (n : Nat) (S : SD) : run o K false mi_234 (n + 1) 0 [(0, vr (some (85, 0)))] [] S =
 (bI (K 233 [vr (some (85, 0))] S) (fun x2 S1 =>
  (if x2 = 0 then
   some (vi 0, S1)
  else
   (if (gD S1 85 0 53) < (gD S1 85 0 31) then
    (if 0 ≤ (gD S1 85 0 53) ∧ (gD S1 85 0 53) < 200 then
     (if (gD S1 112 0 ((gD S1 85 0 53).toNat)) = 46 then
      (if (gD (wD S1 85 0 53 (aw o ((gD S1 85 0 53) + 1))) 85 0 53) < (gD (wD S1 85 0 53 (aw o ((gD S1 85 0 53) + 1))) 85 0 31) then
       (if 0 ≤ (gD (wD S1 85 0 53 (aw o ((gD S1 85 0 53) + 1))) 85 0 53) ∧ (gD (wD S1 85 0 53 (aw o ((gD S1 85 0 53) + 1))) 85 0 53) < 200 then
        (if (gD (wD S1 85 0 53 (aw o ((gD S1 85 0 53) + 1))) 112 0 ((gD (wD S1 85 0 53 (aw o ((gD S1 85 0 53) + 1))) 85 0 53).toNat)) = 102 then
         (bI (K 230 [vr (some (85, 0)), vi 0, vi 2] (wD (wD S1 85 0 53 (aw o ((gD S1 85 0 53) + 1))) 85 0 53 (aw o ((gD (wD S1 85 0 53 (aw o ((gD S1 85 0 53) + 1))) 85 0 53) + 1)))) (fun x4 S3 =>
          (if x4 = 0 then
           some (vi 0, S3)
          else
           some (vi 1, wD S3 85 0 56 (gD S3 85 0 57)))))
        else
         (bI (K 224 [vr (some (85, 0)), vi 0, vi (gD (wD S1 85 0 53 (aw o ((gD S1 85 0 53) + 1))) 85 0 53)] (wD S1 85 0 53 (aw o ((gD S1 85 0 53) + 1)))) (fun x6 S5 =>
          (if x6 = 0 ∨ x6 = 1 then some (vi x6, S5) else none))))
       else none)
      else
       (bI (K 224 [vr (some (85, 0)), vi 0, vi (gD (wD S1 85 0 53 (aw o ((gD S1 85 0 53) + 1))) 85 0 53)] (wD S1 85 0 53 (aw o ((gD S1 85 0 53) + 1)))) (fun x8 S7 =>
        (if x8 = 0 ∨ x8 = 1 then some (vi x8, S7) else none))))
     else
      (bI (K 224 [vr (some (85, 0)), vi 0, vi (gD S1 85 0 53)] S1) (fun x10 S9 =>
       (if x10 = 0 ∨ x10 = 1 then some (vi x10, S9) else none))))
    else none)
   else
    (bI (K 224 [vr (some (85, 0)), vi 0, vi (gD S1 85 0 53)] S1) (fun x12 S11 =>
     (if x12 = 0 ∨ x12 = 1 then some (vi x12, S11) else none))))))) := rfl
set_option maxRecDepth 100000 in
theorem b235_0 (o : AR) (K : KT) (n : Nat) (S : SD) (a1 : Int) : run o K false mi_235 (n + 1) 0 [(0, vr (some (85, 0))), (1, vi a1)] [] S =
 (bI (K 225 [vr (some (85, 0))] S) (fun x2 S1 =>
  (if x2 = 60 then
   (if x2 = 61 then
    (if x2 = 61 then
     (if 0 ≤ a1 ∧ a1 < 320 then
      some (vi 1, wD (wD S1 85 0 53 (aw o ((gD S1 85 0 53) + 1))) 131 0 ((a1).toNat) 2)
     else none)
    else
     (if x2 = 60 then
      (if 0 ≤ a1 ∧ a1 < 320 then
       some (vi 1, wD (wD S1 85 0 53 (aw o ((gD S1 85 0 53) + 1))) 131 0 ((a1).toNat) 0)
      else none)
     else
      (if 0 ≤ a1 ∧ a1 < 320 then
       some (vi 1, wD (wD S1 85 0 53 (aw o ((gD S1 85 0 53) + 1))) 131 0 ((a1).toNat) 4)
      else none)))
   else
    (if (gD (wD S1 85 0 53 (aw o ((gD S1 85 0 53) + 1))) 85 0 53) < (gD (wD S1 85 0 53 (aw o ((gD S1 85 0 53) + 1))) 85 0 31) then
     (if 0 ≤ (gD (wD S1 85 0 53 (aw o ((gD S1 85 0 53) + 1))) 85 0 53) ∧ (gD (wD S1 85 0 53 (aw o ((gD S1 85 0 53) + 1))) 85 0 53) < 200 then
      (if (gD (wD S1 85 0 53 (aw o ((gD S1 85 0 53) + 1))) 112 0 ((gD (wD S1 85 0 53 (aw o ((gD S1 85 0 53) + 1))) 85 0 53).toNat)) = 61 then
       (if x2 = 61 then
        (if 0 ≤ a1 ∧ a1 < 320 then
         some (vi 1, wD (wD (wD S1 85 0 53 (aw o ((gD S1 85 0 53) + 1))) 85 0 53 (aw o ((gD (wD S1 85 0 53 (aw o ((gD S1 85 0 53) + 1))) 85 0 53) + 1))) 131 0 ((a1).toNat) 2)
        else none)
       else
        (if x2 = 60 then
         (if 0 ≤ a1 ∧ a1 < 320 then
          some (vi 1, wD (wD (wD S1 85 0 53 (aw o ((gD S1 85 0 53) + 1))) 85 0 53 (aw o ((gD (wD S1 85 0 53 (aw o ((gD S1 85 0 53) + 1))) 85 0 53) + 1))) 131 0 ((a1).toNat) 1)
         else none)
        else
         (if 0 ≤ a1 ∧ a1 < 320 then
          some (vi 1, wD (wD (wD S1 85 0 53 (aw o ((gD S1 85 0 53) + 1))) 85 0 53 (aw o ((gD (wD S1 85 0 53 (aw o ((gD S1 85 0 53) + 1))) 85 0 53) + 1))) 131 0 ((a1).toNat) 3)
         else none)))
      else
       (if x2 = 61 then
        (if 0 ≤ a1 ∧ a1 < 320 then
         some (vi 1, wD (wD S1 85 0 53 (aw o ((gD S1 85 0 53) + 1))) 131 0 ((a1).toNat) 2)
        else none)
       else
        (if x2 = 60 then
         (if 0 ≤ a1 ∧ a1 < 320 then
          some (vi 1, wD (wD S1 85 0 53 (aw o ((gD S1 85 0 53) + 1))) 131 0 ((a1).toNat) 0)
         else none)
        else
         (if 0 ≤ a1 ∧ a1 < 320 then
          some (vi 1, wD (wD S1 85 0 53 (aw o ((gD S1 85 0 53) + 1))) 131 0 ((a1).toNat) 4)
         else none))))
     else none)
    else
     (if x2 = 61 then
      (if 0 ≤ a1 ∧ a1 < 320 then
       some (vi 1, wD (wD S1 85 0 53 (aw o ((gD S1 85 0 53) + 1))) 131 0 ((a1).toNat) 2)
      else none)
     else
      (if x2 = 60 then
       (if 0 ≤ a1 ∧ a1 < 320 then
        some (vi 1, wD (wD S1 85 0 53 (aw o ((gD S1 85 0 53) + 1))) 131 0 ((a1).toNat) 0)
       else none)
      else
       (if 0 ≤ a1 ∧ a1 < 320 then
        some (vi 1, wD (wD S1 85 0 53 (aw o ((gD S1 85 0 53) + 1))) 131 0 ((a1).toNat) 4)
       else none)))))
  else
   (if x2 = 61 then
    (if x2 = 61 then
     (if x2 = 61 then
      (if 0 ≤ a1 ∧ a1 < 320 then
       some (vi 1, wD (wD S1 85 0 53 (aw o ((gD S1 85 0 53) + 1))) 131 0 ((a1).toNat) 2)
      else none)
     else
      (if x2 = 60 then
       (if 0 ≤ a1 ∧ a1 < 320 then
        some (vi 1, wD (wD S1 85 0 53 (aw o ((gD S1 85 0 53) + 1))) 131 0 ((a1).toNat) 0)
       else none)
      else
       (if 0 ≤ a1 ∧ a1 < 320 then
        some (vi 1, wD (wD S1 85 0 53 (aw o ((gD S1 85 0 53) + 1))) 131 0 ((a1).toNat) 4)
       else none)))
    else
     (if (gD (wD S1 85 0 53 (aw o ((gD S1 85 0 53) + 1))) 85 0 53) < (gD (wD S1 85 0 53 (aw o ((gD S1 85 0 53) + 1))) 85 0 31) then
      (if 0 ≤ (gD (wD S1 85 0 53 (aw o ((gD S1 85 0 53) + 1))) 85 0 53) ∧ (gD (wD S1 85 0 53 (aw o ((gD S1 85 0 53) + 1))) 85 0 53) < 200 then
       (if (gD (wD S1 85 0 53 (aw o ((gD S1 85 0 53) + 1))) 112 0 ((gD (wD S1 85 0 53 (aw o ((gD S1 85 0 53) + 1))) 85 0 53).toNat)) = 61 then
        (if x2 = 61 then
         (if 0 ≤ a1 ∧ a1 < 320 then
          some (vi 1, wD (wD (wD S1 85 0 53 (aw o ((gD S1 85 0 53) + 1))) 85 0 53 (aw o ((gD (wD S1 85 0 53 (aw o ((gD S1 85 0 53) + 1))) 85 0 53) + 1))) 131 0 ((a1).toNat) 2)
         else none)
        else
         (if x2 = 60 then
          (if 0 ≤ a1 ∧ a1 < 320 then
           some (vi 1, wD (wD (wD S1 85 0 53 (aw o ((gD S1 85 0 53) + 1))) 85 0 53 (aw o ((gD (wD S1 85 0 53 (aw o ((gD S1 85 0 53) + 1))) 85 0 53) + 1))) 131 0 ((a1).toNat) 1)
          else none)
         else
          (if 0 ≤ a1 ∧ a1 < 320 then
           some (vi 1, wD (wD (wD S1 85 0 53 (aw o ((gD S1 85 0 53) + 1))) 85 0 53 (aw o ((gD (wD S1 85 0 53 (aw o ((gD S1 85 0 53) + 1))) 85 0 53) + 1))) 131 0 ((a1).toNat) 3)
          else none)))
       else
        (if x2 = 61 then
         (if 0 ≤ a1 ∧ a1 < 320 then
          some (vi 1, wD (wD S1 85 0 53 (aw o ((gD S1 85 0 53) + 1))) 131 0 ((a1).toNat) 2)
         else none)
        else
         (if x2 = 60 then
          (if 0 ≤ a1 ∧ a1 < 320 then
           some (vi 1, wD (wD S1 85 0 53 (aw o ((gD S1 85 0 53) + 1))) 131 0 ((a1).toNat) 0)
          else none)
         else
          (if 0 ≤ a1 ∧ a1 < 320 then
           some (vi 1, wD (wD S1 85 0 53 (aw o ((gD S1 85 0 53) + 1))) 131 0 ((a1).toNat) 4)
          else none))))
      else none)
     else
      (if x2 = 61 then
       (if 0 ≤ a1 ∧ a1 < 320 then
        some (vi 1, wD (wD S1 85 0 53 (aw o ((gD S1 85 0 53) + 1))) 131 0 ((a1).toNat) 2)
       else none)
      else
       (if x2 = 60 then
        (if 0 ≤ a1 ∧ a1 < 320 then
         some (vi 1, wD (wD S1 85 0 53 (aw o ((gD S1 85 0 53) + 1))) 131 0 ((a1).toNat) 0)
        else none)
       else
        (if 0 ≤ a1 ∧ a1 < 320 then
         some (vi 1, wD (wD S1 85 0 53 (aw o ((gD S1 85 0 53) + 1))) 131 0 ((a1).toNat) 4)
        else none)))))
   else
    (if x2 = 62 then
     (if x2 = 61 then
      (if x2 = 61 then
       (if 0 ≤ a1 ∧ a1 < 320 then
        some (vi 1, wD (wD S1 85 0 53 (aw o ((gD S1 85 0 53) + 1))) 131 0 ((a1).toNat) 2)
       else none)
      else
       (if x2 = 60 then
        (if 0 ≤ a1 ∧ a1 < 320 then
         some (vi 1, wD (wD S1 85 0 53 (aw o ((gD S1 85 0 53) + 1))) 131 0 ((a1).toNat) 0)
        else none)
       else
        (if 0 ≤ a1 ∧ a1 < 320 then
         some (vi 1, wD (wD S1 85 0 53 (aw o ((gD S1 85 0 53) + 1))) 131 0 ((a1).toNat) 4)
        else none)))
     else
      (if (gD (wD S1 85 0 53 (aw o ((gD S1 85 0 53) + 1))) 85 0 53) < (gD (wD S1 85 0 53 (aw o ((gD S1 85 0 53) + 1))) 85 0 31) then
       (if 0 ≤ (gD (wD S1 85 0 53 (aw o ((gD S1 85 0 53) + 1))) 85 0 53) ∧ (gD (wD S1 85 0 53 (aw o ((gD S1 85 0 53) + 1))) 85 0 53) < 200 then
        (if (gD (wD S1 85 0 53 (aw o ((gD S1 85 0 53) + 1))) 112 0 ((gD (wD S1 85 0 53 (aw o ((gD S1 85 0 53) + 1))) 85 0 53).toNat)) = 61 then
         (if x2 = 61 then
          (if 0 ≤ a1 ∧ a1 < 320 then
           some (vi 1, wD (wD (wD S1 85 0 53 (aw o ((gD S1 85 0 53) + 1))) 85 0 53 (aw o ((gD (wD S1 85 0 53 (aw o ((gD S1 85 0 53) + 1))) 85 0 53) + 1))) 131 0 ((a1).toNat) 2)
          else none)
         else
          (if x2 = 60 then
           (if 0 ≤ a1 ∧ a1 < 320 then
            some (vi 1, wD (wD (wD S1 85 0 53 (aw o ((gD S1 85 0 53) + 1))) 85 0 53 (aw o ((gD (wD S1 85 0 53 (aw o ((gD S1 85 0 53) + 1))) 85 0 53) + 1))) 131 0 ((a1).toNat) 1)
           else none)
          else
           (if 0 ≤ a1 ∧ a1 < 320 then
            some (vi 1, wD (wD (wD S1 85 0 53 (aw o ((gD S1 85 0 53) + 1))) 85 0 53 (aw o ((gD (wD S1 85 0 53 (aw o ((gD S1 85 0 53) + 1))) 85 0 53) + 1))) 131 0 ((a1).toNat) 3)
           else none)))
        else
         (if x2 = 61 then
          (if 0 ≤ a1 ∧ a1 < 320 then
           some (vi 1, wD (wD S1 85 0 53 (aw o ((gD S1 85 0 53) + 1))) 131 0 ((a1).toNat) 2)
          else none)
         else
          (if x2 = 60 then
           (if 0 ≤ a1 ∧ a1 < 320 then
            some (vi 1, wD (wD S1 85 0 53 (aw o ((gD S1 85 0 53) + 1))) 131 0 ((a1).toNat) 0)
           else none)
          else
           (if 0 ≤ a1 ∧ a1 < 320 then
            some (vi 1, wD (wD S1 85 0 53 (aw o ((gD S1 85 0 53) + 1))) 131 0 ((a1).toNat) 4)
           else none))))
       else none)
      else
       (if x2 = 61 then
        (if 0 ≤ a1 ∧ a1 < 320 then
         some (vi 1, wD (wD S1 85 0 53 (aw o ((gD S1 85 0 53) + 1))) 131 0 ((a1).toNat) 2)
        else none)
       else
        (if x2 = 60 then
         (if 0 ≤ a1 ∧ a1 < 320 then
          some (vi 1, wD (wD S1 85 0 53 (aw o ((gD S1 85 0 53) + 1))) 131 0 ((a1).toNat) 0)
         else none)
        else
         (if 0 ≤ a1 ∧ a1 < 320 then
          some (vi 1, wD (wD S1 85 0 53 (aw o ((gD S1 85 0 53) + 1))) 131 0 ((a1).toNat) 4)
         else none)))))
    else
     (bI (K 224 [vr (some (85, 0)), vi 0, vi (gD S1 85 0 53)] S1) (fun x4 S3 =>
      (if x4 = 0 ∨ x4 = 1 then some (vi x4, S3) else none)))))))) := rfl
set_option maxRecDepth 100000 in
theorem b236_0 (o : AR) (K : KT) (n : Nat) (S : SD) : run o K false mi_236 (n + 1) 0 [(0, vr (some (85, 0)))] [] S =
 (bI (K 225 [vr (some (85, 0))] S) (fun x2 S1 =>
  (bI (K 227 [vr (some (85, 0)), vl 116] S1) (fun x4 S3 =>
   (if x4 = 0 then
    (bI (K 227 [vr (some (85, 0)), vl 7168376] S3) (fun x6 S5 =>
     (if x6 = 0 then
      (bI (K 227 [vr (some (85, 0)), vl 7170414] S5) (fun x8 S7 =>
       (if x8 = 0 then
        (bI (K 227 [vr (some (85, 0)), vl 6383461] S7) (fun x10 S9 =>
         (if x10 = 0 then
          (bI (K 224 [vr (some (85, 0)), vi 0, vi (gD S1 85 0 53)] S9) (fun x12 S11 =>
           (if x12 = 0 ∨ x12 = 1 then some (vi x12, S11) else none)))
         else
          (if 0 ≤ (gD S9 85 0 32) ∧ (gD S9 85 0 32) < 20 then
           (if (gD S9 123 0 ((gD S9 85 0 32).toNat)) = 16 then
            (bI (K 224 [vr (some (85, 0)), vi 3, vi (gD S1 85 0 53)] S9) (fun x14 S13 =>
             (if x14 = 0 ∨ x14 = 1 then some (vi x14, S13) else none)))
           else
            (if 0 ≤ (gD S9 85 0 32) ∧ (gD S9 85 0 32) < 20 then
             (if 0 ≤ (gD S9 85 0 32) ∧ (gD S9 85 0 32) < 20 then
              (if 0 ≤ (gD S9 85 0 32) ∧ (gD S9 85 0 32) < 20 then
               (if 0 ≤ (aw o ((aw o (16 * (gD S9 85 0 32))) + (gD S9 123 0 ((gD S9 85 0 32).toNat)))) ∧ (aw o ((aw o (16 * (gD S9 85 0 32))) + (gD S9 123 0 ((gD S9 85 0 32).toNat)))) < 320 then
                (if 0 ≤ (aw o ((aw o (16 * (gD S9 85 0 32))) + (gD S9 123 0 ((gD S9 85 0 32).toNat)))) ∧ (aw o ((aw o (16 * (gD S9 85 0 32))) + (gD S9 123 0 ((gD S9 85 0 32).toNat)))) < 320 then
                 (bV (K 228 [vr (some (85, 0))] (wD (wD (wD S9 123 0 (((gD S9 85 0 32)).toNat) (aw o ((gD S9 123 0 ((gD S9 85 0 32).toNat)) + 1))) 127 0 (((aw o ((aw o (16 * (gD S9 85 0 32))) + (gD S9 123 0 ((gD S9 85 0 32).toNat))))).toNat) 3) 129 0 (((aw o ((aw o (16 * (gD S9 85 0 32))) + (gD S9 123 0 ((gD S9 85 0 32).toNat))))).toNat) (-1))) (fun S15 =>
                  (bI (K 225 [vr (some (85, 0))] S15) (fun x17 S16 =>
                   (bI (K 233 [vr (some (85, 0))] S16) (fun x19 S18 =>
                    (if x19 = 0 then
                     some (vi 0, S18)
                    else
                     (if 0 ≤ (aw o ((aw o (16 * (gD S9 85 0 32))) + (gD S9 123 0 ((gD S9 85 0 32).toNat)))) ∧ (aw o ((aw o (16 * (gD S9 85 0 32))) + (gD S9 123 0 ((gD S9 85 0 32).toNat)))) < 320 then
                      (bI (K 235 [vr (some (85, 0)), vi (aw o ((aw o (16 * (gD S9 85 0 32))) + (gD S9 123 0 ((gD S9 85 0 32).toNat))))] (wD S18 128 0 (((aw o ((aw o (16 * (gD S9 85 0 32))) + (gD S9 123 0 ((gD S9 85 0 32).toNat))))).toNat) (gD S18 85 0 55))) (fun x21 S20 =>
                       (if x21 = 0 then
                        some (vi 0, S20)
                       else
                        (bI (K 231 [vr (some (85, 0))] S20) (fun x23 S22 =>
                         (if x23 = 0 then
                          some (vi 0, S22)
                         else
                          (if 0 ≤ (aw o ((aw o (16 * (gD S9 85 0 32))) + (gD S9 123 0 ((gD S9 85 0 32).toNat)))) ∧ (aw o ((aw o (16 * (gD S9 85 0 32))) + (gD S9 123 0 ((gD S9 85 0 32).toNat)))) < 320 then
                           some (vi 1, wD S22 132 0 (((aw o ((aw o (16 * (gD S9 85 0 32))) + (gD S9 123 0 ((gD S9 85 0 32).toNat))))).toNat) (gD S22 85 0 57))
                          else none)))))))
                     else none))))))))
                else none)
               else none)
              else none)
             else none)
            else none))
          else none))))
       else
        (if 0 ≤ (gD S7 85 0 32) ∧ (gD S7 85 0 32) < 20 then
         (if (gD S7 123 0 ((gD S7 85 0 32).toNat)) = 16 then
          (bI (K 224 [vr (some (85, 0)), vi 3, vi (gD S1 85 0 53)] S7) (fun x25 S24 =>
           (if x25 = 0 ∨ x25 = 1 then some (vi x25, S24) else none)))
         else
          (if 0 ≤ (gD S7 85 0 32) ∧ (gD S7 85 0 32) < 20 then
           (if 0 ≤ (gD S7 85 0 32) ∧ (gD S7 85 0 32) < 20 then
            (if 0 ≤ (gD S7 85 0 32) ∧ (gD S7 85 0 32) < 20 then
             (if 0 ≤ (aw o ((aw o (16 * (gD S7 85 0 32))) + (gD S7 123 0 ((gD S7 85 0 32).toNat)))) ∧ (aw o ((aw o (16 * (gD S7 85 0 32))) + (gD S7 123 0 ((gD S7 85 0 32).toNat)))) < 320 then
              (if 0 ≤ (aw o ((aw o (16 * (gD S7 85 0 32))) + (gD S7 123 0 ((gD S7 85 0 32).toNat)))) ∧ (aw o ((aw o (16 * (gD S7 85 0 32))) + (gD S7 123 0 ((gD S7 85 0 32).toNat)))) < 320 then
               (bV (K 228 [vr (some (85, 0))] (wD (wD (wD S7 123 0 (((gD S7 85 0 32)).toNat) (aw o ((gD S7 123 0 ((gD S7 85 0 32).toNat)) + 1))) 127 0 (((aw o ((aw o (16 * (gD S7 85 0 32))) + (gD S7 123 0 ((gD S7 85 0 32).toNat))))).toNat) 2) 129 0 (((aw o ((aw o (16 * (gD S7 85 0 32))) + (gD S7 123 0 ((gD S7 85 0 32).toNat))))).toNat) (-1))) (fun S26 =>
                (bI (K 225 [vr (some (85, 0))] S26) (fun x28 S27 =>
                 (bI (K 234 [vr (some (85, 0))] S27) (fun x30 S29 =>
                  (if x30 = 0 then
                   some (vi 0, S29)
                  else
                   (if 0 ≤ (aw o ((aw o (16 * (gD S7 85 0 32))) + (gD S7 123 0 ((gD S7 85 0 32).toNat)))) ∧ (aw o ((aw o (16 * (gD S7 85 0 32))) + (gD S7 123 0 ((gD S7 85 0 32).toNat)))) < 320 then
                    (if 0 ≤ (aw o ((aw o (16 * (gD S7 85 0 32))) + (gD S7 123 0 ((gD S7 85 0 32).toNat)))) ∧ (aw o ((aw o (16 * (gD S7 85 0 32))) + (gD S7 123 0 ((gD S7 85 0 32).toNat)))) < 320 then
                     (bI (K 232 [vr (some (85, 0))] (wD (wD S29 128 0 (((aw o ((aw o (16 * (gD S7 85 0 32))) + (gD S7 123 0 ((gD S7 85 0 32).toNat))))).toNat) (gD S29 85 0 55)) 129 0 (((aw o ((aw o (16 * (gD S7 85 0 32))) + (gD S7 123 0 ((gD S7 85 0 32).toNat))))).toNat) (gD (wD S29 128 0 (((aw o ((aw o (16 * (gD S7 85 0 32))) + (gD S7 123 0 ((gD S7 85 0 32).toNat))))).toNat) (gD S29 85 0 55)) 85 0 56))) (fun x32 S31 =>
                      (if x32 = 0 then
                       some (vi 0, S31)
                      else
                       (if 0 ≤ (aw o ((aw o (16 * (gD S7 85 0 32))) + (gD S7 123 0 ((gD S7 85 0 32).toNat)))) ∧ (aw o ((aw o (16 * (gD S7 85 0 32))) + (gD S7 123 0 ((gD S7 85 0 32).toNat)))) < 320 then
                        (bI (K 235 [vr (some (85, 0)), vi (aw o ((aw o (16 * (gD S7 85 0 32))) + (gD S7 123 0 ((gD S7 85 0 32).toNat))))] (wD S31 130 0 (((aw o ((aw o (16 * (gD S7 85 0 32))) + (gD S7 123 0 ((gD S7 85 0 32).toNat))))).toNat) (gD S31 85 0 57))) (fun x34 S33 =>
                         (if x34 = 0 then
                          some (vi 0, S33)
                         else
                          (bI (K 231 [vr (some (85, 0))] S33) (fun x36 S35 =>
                           (if x36 = 0 then
                            some (vi 0, S35)
                           else
                            (if 0 ≤ (aw o ((aw o (16 * (gD S7 85 0 32))) + (gD S7 123 0 ((gD S7 85 0 32).toNat)))) ∧ (aw o ((aw o (16 * (gD S7 85 0 32))) + (gD S7 123 0 ((gD S7 85 0 32).toNat)))) < 320 then
                             some (vi 1, wD S35 132 0 (((aw o ((aw o (16 * (gD S7 85 0 32))) + (gD S7 123 0 ((gD S7 85 0 32).toNat))))).toNat) (gD S35 85 0 57))
                            else none)))))))
                       else none))))
                    else none)
                   else none))))))))
              else none)
             else none)
            else none)
           else none)
          else none))
        else none))))
     else
      (if 0 ≤ (gD S5 85 0 32) ∧ (gD S5 85 0 32) < 20 then
       (if (gD S5 123 0 ((gD S5 85 0 32).toNat)) = 16 then
        (bI (K 224 [vr (some (85, 0)), vi 3, vi (gD S1 85 0 53)] S5) (fun x38 S37 =>
         (if x38 = 0 ∨ x38 = 1 then some (vi x38, S37) else none)))
       else
        (if 0 ≤ (gD S5 85 0 32) ∧ (gD S5 85 0 32) < 20 then
         (if 0 ≤ (gD S5 85 0 32) ∧ (gD S5 85 0 32) < 20 then
          (if 0 ≤ (gD S5 85 0 32) ∧ (gD S5 85 0 32) < 20 then
           (if 0 ≤ (aw o ((aw o (16 * (gD S5 85 0 32))) + (gD S5 123 0 ((gD S5 85 0 32).toNat)))) ∧ (aw o ((aw o (16 * (gD S5 85 0 32))) + (gD S5 123 0 ((gD S5 85 0 32).toNat)))) < 320 then
            (if 0 ≤ (aw o ((aw o (16 * (gD S5 85 0 32))) + (gD S5 123 0 ((gD S5 85 0 32).toNat)))) ∧ (aw o ((aw o (16 * (gD S5 85 0 32))) + (gD S5 123 0 ((gD S5 85 0 32).toNat)))) < 320 then
             (bV (K 228 [vr (some (85, 0))] (wD (wD (wD S5 123 0 (((gD S5 85 0 32)).toNat) (aw o ((gD S5 123 0 ((gD S5 85 0 32).toNat)) + 1))) 127 0 (((aw o ((aw o (16 * (gD S5 85 0 32))) + (gD S5 123 0 ((gD S5 85 0 32).toNat))))).toNat) 1) 129 0 (((aw o ((aw o (16 * (gD S5 85 0 32))) + (gD S5 123 0 ((gD S5 85 0 32).toNat))))).toNat) (-1))) (fun S39 =>
              (bI (K 225 [vr (some (85, 0))] S39) (fun x41 S40 =>
               (bI (K 234 [vr (some (85, 0))] S40) (fun x43 S42 =>
                (if x43 = 0 then
                 some (vi 0, S42)
                else
                 (if 0 ≤ (aw o ((aw o (16 * (gD S5 85 0 32))) + (gD S5 123 0 ((gD S5 85 0 32).toNat)))) ∧ (aw o ((aw o (16 * (gD S5 85 0 32))) + (gD S5 123 0 ((gD S5 85 0 32).toNat)))) < 320 then
                  (if 0 ≤ (aw o ((aw o (16 * (gD S5 85 0 32))) + (gD S5 123 0 ((gD S5 85 0 32).toNat)))) ∧ (aw o ((aw o (16 * (gD S5 85 0 32))) + (gD S5 123 0 ((gD S5 85 0 32).toNat)))) < 320 then
                   (bI (K 232 [vr (some (85, 0))] (wD (wD S42 128 0 (((aw o ((aw o (16 * (gD S5 85 0 32))) + (gD S5 123 0 ((gD S5 85 0 32).toNat))))).toNat) (gD S42 85 0 55)) 129 0 (((aw o ((aw o (16 * (gD S5 85 0 32))) + (gD S5 123 0 ((gD S5 85 0 32).toNat))))).toNat) (gD (wD S42 128 0 (((aw o ((aw o (16 * (gD S5 85 0 32))) + (gD S5 123 0 ((gD S5 85 0 32).toNat))))).toNat) (gD S42 85 0 55)) 85 0 56))) (fun x45 S44 =>
                    (if x45 = 0 then
                     some (vi 0, S44)
                    else
                     (if 0 ≤ (aw o ((aw o (16 * (gD S5 85 0 32))) + (gD S5 123 0 ((gD S5 85 0 32).toNat)))) ∧ (aw o ((aw o (16 * (gD S5 85 0 32))) + (gD S5 123 0 ((gD S5 85 0 32).toNat)))) < 320 then
                      (bI (K 235 [vr (some (85, 0)), vi (aw o ((aw o (16 * (gD S5 85 0 32))) + (gD S5 123 0 ((gD S5 85 0 32).toNat))))] (wD S44 130 0 (((aw o ((aw o (16 * (gD S5 85 0 32))) + (gD S5 123 0 ((gD S5 85 0 32).toNat))))).toNat) (gD S44 85 0 57))) (fun x47 S46 =>
                       (if x47 = 0 then
                        some (vi 0, S46)
                       else
                        (bI (K 231 [vr (some (85, 0))] S46) (fun x49 S48 =>
                         (if x49 = 0 then
                          some (vi 0, S48)
                         else
                          (if 0 ≤ (aw o ((aw o (16 * (gD S5 85 0 32))) + (gD S5 123 0 ((gD S5 85 0 32).toNat)))) ∧ (aw o ((aw o (16 * (gD S5 85 0 32))) + (gD S5 123 0 ((gD S5 85 0 32).toNat)))) < 320 then
                           some (vi 1, wD S48 132 0 (((aw o ((aw o (16 * (gD S5 85 0 32))) + (gD S5 123 0 ((gD S5 85 0 32).toNat))))).toNat) (gD S48 85 0 57))
                          else none)))))))
                     else none))))
                  else none)
                 else none))))))))
            else none)
           else none)
          else none)
         else none)
        else none))
      else none))))
   else
    (if 0 ≤ (gD S3 85 0 32) ∧ (gD S3 85 0 32) < 20 then
     (if (gD S3 123 0 ((gD S3 85 0 32).toNat)) = 16 then
      (bI (K 224 [vr (some (85, 0)), vi 3, vi (gD S1 85 0 53)] S3) (fun x51 S50 =>
       (if x51 = 0 ∨ x51 = 1 then some (vi x51, S50) else none)))
     else
      (if 0 ≤ (gD S3 85 0 32) ∧ (gD S3 85 0 32) < 20 then
       (if 0 ≤ (gD S3 85 0 32) ∧ (gD S3 85 0 32) < 20 then
        (if 0 ≤ (gD S3 85 0 32) ∧ (gD S3 85 0 32) < 20 then
         (if 0 ≤ (aw o ((aw o (16 * (gD S3 85 0 32))) + (gD S3 123 0 ((gD S3 85 0 32).toNat)))) ∧ (aw o ((aw o (16 * (gD S3 85 0 32))) + (gD S3 123 0 ((gD S3 85 0 32).toNat)))) < 320 then
          (if 0 ≤ (aw o ((aw o (16 * (gD S3 85 0 32))) + (gD S3 123 0 ((gD S3 85 0 32).toNat)))) ∧ (aw o ((aw o (16 * (gD S3 85 0 32))) + (gD S3 123 0 ((gD S3 85 0 32).toNat)))) < 320 then
           (bI (K 234 [vr (some (85, 0))] (wD (wD (wD S3 123 0 (((gD S3 85 0 32)).toNat) (aw o ((gD S3 123 0 ((gD S3 85 0 32).toNat)) + 1))) 127 0 (((aw o ((aw o (16 * (gD S3 85 0 32))) + (gD S3 123 0 ((gD S3 85 0 32).toNat))))).toNat) 0) 129 0 (((aw o ((aw o (16 * (gD S3 85 0 32))) + (gD S3 123 0 ((gD S3 85 0 32).toNat))))).toNat) (-1))) (fun x53 S52 =>
            (if x53 = 0 then
             some (vi 0, S52)
            else
             (if 0 ≤ (aw o ((aw o (16 * (gD S3 85 0 32))) + (gD S3 123 0 ((gD S3 85 0 32).toNat)))) ∧ (aw o ((aw o (16 * (gD S3 85 0 32))) + (gD S3 123 0 ((gD S3 85 0 32).toNat)))) < 320 then
              (if 0 ≤ (aw o ((aw o (16 * (gD S3 85 0 32))) + (gD S3 123 0 ((gD S3 85 0 32).toNat)))) ∧ (aw o ((aw o (16 * (gD S3 85 0 32))) + (gD S3 123 0 ((gD S3 85 0 32).toNat)))) < 320 then
               (bI (K 235 [vr (some (85, 0)), vi (aw o ((aw o (16 * (gD S3 85 0 32))) + (gD S3 123 0 ((gD S3 85 0 32).toNat))))] (wD (wD S52 128 0 (((aw o ((aw o (16 * (gD S3 85 0 32))) + (gD S3 123 0 ((gD S3 85 0 32).toNat))))).toNat) (gD S52 85 0 55)) 129 0 (((aw o ((aw o (16 * (gD S3 85 0 32))) + (gD S3 123 0 ((gD S3 85 0 32).toNat))))).toNat) (gD (wD S52 128 0 (((aw o ((aw o (16 * (gD S3 85 0 32))) + (gD S3 123 0 ((gD S3 85 0 32).toNat))))).toNat) (gD S52 85 0 55)) 85 0 56))) (fun x55 S54 =>
                (if x55 = 0 then
                 some (vi 0, S54)
                else
                 (bI (K 231 [vr (some (85, 0))] S54) (fun x57 S56 =>
                  (if x57 = 0 then
                   some (vi 0, S56)
                  else
                   (if 0 ≤ (aw o ((aw o (16 * (gD S3 85 0 32))) + (gD S3 123 0 ((gD S3 85 0 32).toNat)))) ∧ (aw o ((aw o (16 * (gD S3 85 0 32))) + (gD S3 123 0 ((gD S3 85 0 32).toNat)))) < 320 then
                    some (vi 1, wD S56 132 0 (((aw o ((aw o (16 * (gD S3 85 0 32))) + (gD S3 123 0 ((gD S3 85 0 32).toNat))))).toNat) (gD S56 85 0 57))
                   else none)))))))
              else none)
             else none))))
          else none)
         else none)
        else none)
       else none)
      else none))
    else none)))))) := rfl
set_option maxRecDepth 100000 in
theorem b237_0 (o : AR) (K : KT) (n : Nat) (S : SD) (a1 : Int) (a2 : Int) : run o K false mi_237 (n + 1) 0 [(0, vr (some (85, 0))), (1, vi a1), (2, vi a2)] [] S =
 (if 0 ≤ (aw o ((aw o (2 * (gD S 85 0 32))) + a1)) ∧ (aw o ((aw o (2 * (gD S 85 0 32))) + a1)) < 40 then
  (if 0 ≤ (aw o ((aw o (100 * (aw o ((aw o (2 * (gD S 85 0 32))) + a1)))) + (gD S 125 0 ((aw o ((aw o (2 * (gD S 85 0 32))) + a1)).toNat)))) ∧ (aw o ((aw o (100 * (aw o ((aw o (2 * (gD S 85 0 32))) + a1)))) + (gD S 125 0 ((aw o ((aw o (2 * (gD S 85 0 32))) + a1)).toNat)))) < 4000 then
   (if 0 ≤ (aw o ((aw o (2 * (gD (wD S 126 0 (((aw o ((aw o (100 * (aw o ((aw o (2 * (gD S 85 0 32))) + a1)))) + (gD S 125 0 ((aw o ((aw o (2 * (gD S 85 0 32))) + a1)).toNat))))).toNat) a2) 85 0 32))) + a1)) ∧ (aw o ((aw o (2 * (gD (wD S 126 0 (((aw o ((aw o (100 * (aw o ((aw o (2 * (gD S 85 0 32))) + a1)))) + (gD S 125 0 ((aw o ((aw o (2 * (gD S 85 0 32))) + a1)).toNat))))).toNat) a2) 85 0 32))) + a1)) < 40 then
    (if 0 ≤ (aw o ((aw o (2 * (gD (wD S 126 0 (((aw o ((aw o (100 * (aw o ((aw o (2 * (gD S 85 0 32))) + a1)))) + (gD S 125 0 ((aw o ((aw o (2 * (gD S 85 0 32))) + a1)).toNat))))).toNat) a2) 85 0 32))) + a1)) ∧ (aw o ((aw o (2 * (gD (wD S 126 0 (((aw o ((aw o (100 * (aw o ((aw o (2 * (gD S 85 0 32))) + a1)))) + (gD S 125 0 ((aw o ((aw o (2 * (gD S 85 0 32))) + a1)).toNat))))).toNat) a2) 85 0 32))) + a1)) < 40 then
     some (vi 0, wD (wD S 126 0 (((aw o ((aw o (100 * (aw o ((aw o (2 * (gD S 85 0 32))) + a1)))) + (gD S 125 0 ((aw o ((aw o (2 * (gD S 85 0 32))) + a1)).toNat))))).toNat) a2) 125 0 (((aw o ((aw o (2 * (gD (wD S 126 0 (((aw o ((aw o (100 * (aw o ((aw o (2 * (gD S 85 0 32))) + a1)))) + (gD S 125 0 ((aw o ((aw o (2 * (gD S 85 0 32))) + a1)).toNat))))).toNat) a2) 85 0 32))) + a1))).toNat) (aw o ((gD (wD S 126 0 (((aw o ((aw o (100 * (aw o ((aw o (2 * (gD S 85 0 32))) + a1)))) + (gD S 125 0 ((aw o ((aw o (2 * (gD S 85 0 32))) + a1)).toNat))))).toNat) a2) 125 0 ((aw o ((aw o (2 * (gD (wD S 126 0 (((aw o ((aw o (100 * (aw o ((aw o (2 * (gD S 85 0 32))) + a1)))) + (gD S 125 0 ((aw o ((aw o (2 * (gD S 85 0 32))) + a1)).toNat))))).toNat) a2) 85 0 32))) + a1)).toNat)) + 1)))
    else none)
   else none)
  else none)
 else none) := rfl
set_option maxRecDepth 100000 in
theorem b238_0 (o : AR) (K : KT) (n : Nat) (S : SD) (a1 : Int) : run o K false mi_238 (n + 1) 0 [(0, vr (some (85, 0))), (1, vi a1)] [] S =
 (if 0 ≤ (gD (wD S 85 0 59 (aw o ((gD S 85 0 59) - 1))) 85 0 59) ∧ (gD (wD S 85 0 59 (aw o ((gD S 85 0 59) - 1))) 85 0 59) < 220 then
  (bV (K 237 [vr (some (85, 0)), vi a1, vi (gD (wD S 85 0 59 (aw o ((gD S 85 0 59) - 1))) 133 0 ((gD (wD S 85 0 59 (aw o ((gD S 85 0 59) - 1))) 85 0 59).toNat))] (wD S 85 0 59 (aw o ((gD S 85 0 59) - 1)))) (fun S1 =>
   some (vi 0, S1)))
 else none) := rfl
set_option maxRecDepth 100000 in
theorem b239_0 (o : AR) (K : KT) (n : Nat) (S : SD) (a1 : Int) : run o K false mi_239 (n + 1) 0 [(0, vr (some (85, 0))), (1, vi a1)] [] S =
 (if 0 < (gD S 85 0 59) then
  (if 0 ≤ (aw o ((gD S 85 0 59) - 1)) ∧ (aw o ((gD S 85 0 59) - 1)) < 220 then
   (if (gD S 133 0 ((aw o ((gD S 85 0 59) - 1)).toNat)) = a1 then
    some (vi 1, S)
   else
    some (vi 0, S))
  else none)
 else
  some (vi 0, S)) := rfl
set_option maxRecDepth 100000 in
theorem b240_0 (o : AR) (K : KT) (n : Nat) (S : SD) (a1 : Int) : run o K false mi_240 (n + 1) 0 [(0, vr (some (85, 0))), (1, vi a1)] [] S =
 (bI (K 239 [vr (some (85, 0)), vi (-1)] S) (fun x2 S1 =>
  (if x2 = 0 then
   some (vi 0, S1)
  else
   (bV (K 238 [vr (some (85, 0)), vi a1] S1) (fun S3 =>
    run o K false mi_240 n 0 [(0, vr (some (85, 0))), (1, vi a1)] [] (wD S3 85 0 58 (aw o ((gD S3 85 0 58) - 1)))))))) := rfl
set_option maxRecDepth 100000 in
theorem b241_0 (o : AR) (K : KT) (n : Nat) (S : SD) (a1 : Int) : run o K false mi_241 (n + 1) 0 [(0, vr (some (85, 0))), (1, vi a1)] [] S =
 (if (gD S 85 0 58) = 5 then
  (bI (K 224 [vr (some (85, 0)), vi 2, vi (gD S 85 0 53)] S) (fun x2 S1 =>
   (if x2 = 0 ∨ x2 = 1 then some (vi x2, S1) else none)))
 else
  (if 0 ≤ (gD (wD S 85 0 58 (aw o ((gD S 85 0 58) + 1))) 85 0 59) ∧ (gD (wD S 85 0 58 (aw o ((gD S 85 0 58) + 1))) 85 0 59) < 220 then
   some (vi 1, wD (wD (wD S 85 0 58 (aw o ((gD S 85 0 58) + 1))) 133 0 (((gD (wD S 85 0 58 (aw o ((gD S 85 0 58) + 1))) 85 0 59)).toNat) a1) 85 0 59 (aw o ((gD (wD (wD S 85 0 58 (aw o ((gD S 85 0 58) + 1))) 133 0 (((gD (wD S 85 0 58 (aw o ((gD S 85 0 58) + 1))) 85 0 59)).toNat) a1) 85 0 59) + 1)))
  else none)) := rfl
set_option maxRecDepth 100000 in
theorem b242_0 (o : AR) (K : KT) (n : Nat) (S : SD) (a1 : Int) : run o K false mi_242 (n + 1) 0 [(0, vr (some (85, 0))), (1, vi a1)] [] S =
 (if 0 ≤ (aw o ((aw o (2 * (gD (wD (wD S 85 0 58 0) 85 0 59 0) 85 0 32))) + a1)) ∧ (aw o ((aw o (2 * (gD (wD (wD S 85 0 58 0) 85 0 59 0) 85 0 32))) + a1)) < 40 then
  run o K false mi_242 n 24 [(0, vr (some (85, 0))), (1, vi a1)] [] (wD (wD (wD S 85 0 58 0) 85 0 59 0) 125 0 (((aw o ((aw o (2 * (gD (wD (wD S 85 0 58 0) 85 0 59 0) 85 0 32))) + a1))).toNat) 0)
 else none) := rfl
set_option maxRecDepth 100000 in
theorem b242_24 (o : AR) (K : KT) (n : Nat) (S : SD) (l1 : Int) : run o K false mi_242 (n + 1) 24 [(0, vr (some (85, 0))), (1, vi l1)] [] S =
 (bI (K 225 [vr (some (85, 0))] S) (fun x2 S1 =>
  (bI (K 227 [vr (some (85, 0)), vl 7237492] S1) (fun x4 S3 =>
   (if x4 = 0 then
    (if x2 = 91 then
     (if x2 = 91 then
      (bI (K 241 [vr (some (85, 0)), vi (-4)] S3) (fun x6 S5 =>
       (if x6 = 0 then
        some (vi 0, S5)
       else
        run o K false mi_242 n 24 [(0, vr (some (85, 0))), (1, vi l1)] [] (wD S5 85 0 53 (aw o ((gD S5 85 0 53) + 1))))))
     else
      (bI (K 241 [vr (some (85, 0)), vi (-1)] S3) (fun x8 S7 =>
       (if x8 = 0 then
        some (vi 0, S7)
       else
        run o K false mi_242 n 24 [(0, vr (some (85, 0))), (1, vi l1)] [] (wD S7 85 0 53 (aw o ((gD S7 85 0 53) + 3)))))))
    else
     (if 0 ≤ (gD S3 85 0 32) ∧ (gD S3 85 0 32) < 20 then
      (bI (K 236 [vr (some (85, 0))] S3) (fun x10 S9 =>
       (if x10 = 0 then
        some (vi 0, S9)
       else
        (bV (K 237 [vr (some (85, 0)), vi l1, vi (gD S3 123 0 ((gD S3 85 0 32).toNat))] S9) (fun S11 =>
         (bV (K 240 [vr (some (85, 0)), vi l1] S11) (fun S12 =>
          run o K false mi_242 n 127 [(0, vr (some (85, 0))), (1, vi l1)] [] S12)))))))
     else none))
   else
    (if x2 = 91 then
     (bI (K 241 [vr (some (85, 0)), vi (-4)] S3) (fun x14 S13 =>
      (if x14 = 0 then
       some (vi 0, S13)
      else
       run o K false mi_242 n 24 [(0, vr (some (85, 0))), (1, vi l1)] [] (wD S13 85 0 53 (aw o ((gD S13 85 0 53) + 1))))))
    else
     (bI (K 241 [vr (some (85, 0)), vi (-1)] S3) (fun x16 S15 =>
      (if x16 = 0 then
       some (vi 0, S15)
      else
       run o K false mi_242 n 24 [(0, vr (some (85, 0))), (1, vi l1)] [] (wD S15 85 0 53 (aw o ((gD S15 85 0 53) + 3)))))))))))) := rfl
set_option maxRecDepth 100000 in
theorem b242_127 (o : AR) (K : KT) (n : Nat) (S : SD) (l1 : Int) : run o K false mi_242 (n + 1) 127 [(0, vr (some (85, 0))), (1, vi l1)] [] S =
 (bI (K 225 [vr (some (85, 0))] S) (fun x2 S1 =>
  (if x2 = 93 then
   (bI (K 243 [vr (some (85, 0))] S1) (fun x4 S3 =>
    (if x4 = 0 then
     (bI (K 227 [vr (some (85, 0)), vl 6385252] S3) (fun x6 S5 =>
      (if x6 = 0 then
       (bI (K 227 [vr (some (85, 0)), vl 28530] S5) (fun x8 S7 =>
        (if x8 = 0 then
         (bI (K 243 [vr (some (85, 0))] S7) (fun x10 S9 =>
          (if x10 = 0 then
           run o K false mi_242 n 311 [(0, vr (some (85, 0))), (1, vi l1)] [] S9
          else
           (bI (K 224 [vr (some (85, 0)), vi 0, vi (gD S9 85 0 53)] S9) (fun x12 S11 =>
            (if x12 = 0 ∨ x12 = 1 then some (vi x12, S11) else none))))))
        else
         (bV (K 228 [vr (some (85, 0))] S7) (fun S13 =>
          run o K false mi_242 n 229 [(0, vr (some (85, 0))), (1, vi l1), (4, vi x6)] [] S13)))))
      else
       (bV (K 228 [vr (some (85, 0))] S5) (fun S14 =>
        run o K false mi_242 n 229 [(0, vr (some (85, 0))), (1, vi l1), (4, vi x6)] [] S14)))))
    else
     run o K false mi_242 n 143 [(0, vr (some (85, 0))), (1, vi l1)] [] S3)))
  else
   (bI (K 227 [vr (some (85, 0)), vl 6385252] S1) (fun x16 S15 =>
    (if x16 = 0 then
     (bI (K 227 [vr (some (85, 0)), vl 28530] S15) (fun x18 S17 =>
      (if x18 = 0 then
       (bI (K 243 [vr (some (85, 0))] S17) (fun x20 S19 =>
        (if x20 = 0 then
         run o K false mi_242 n 311 [(0, vr (some (85, 0))), (1, vi l1)] [] S19
        else
         (bI (K 224 [vr (some (85, 0)), vi 0, vi (gD S19 85 0 53)] S19) (fun x22 S21 =>
          (if x22 = 0 ∨ x22 = 1 then some (vi x22, S21) else none))))))
      else
       (bV (K 228 [vr (some (85, 0))] S17) (fun S23 =>
        run o K false mi_242 n 229 [(0, vr (some (85, 0))), (1, vi l1), (4, vi x16)] [] S23)))))
    else
     (bV (K 228 [vr (some (85, 0))] S15) (fun S24 =>
      run o K false mi_242 n 229 [(0, vr (some (85, 0))), (1, vi l1), (4, vi x16)] [] S24)))))))) := rfl
set_option maxRecDepth 100000 in
theorem b242_311 (o : AR) (K : KT) (n : Nat) (S : SD) (l1 : Int) : run o K false mi_242 (n + 1) 311 [(0, vr (some (85, 0))), (1, vi l1)] [] S =
 (if 0 < (gD S 85 0 59) then
  (bV (K 238 [vr (some (85, 0)), vi l1] S) (fun S1 =>
   run o K false mi_242 n 311 [(0, vr (some (85, 0))), (1, vi l1)] [] S1))
 else
  some (vi 1, S)) := rfl
set_option maxRecDepth 100000 in
theorem b242_229 (o : AR) (K : KT) (n : Nat) (S : SD) (l1 : Int) (l4 : Int) : run o K false mi_242 (n + 1) 229 [(0, vr (some (85, 0))), (1, vi l1), (4, vi l4)] [] S =
 (bI (K 239 [vr (some (85, 0)), vi (-2)] S) (fun x2 S1 =>
  (if x2 = 0 then
   (if l4 = 0 then
    (bI (K 239 [vr (some (85, 0)), vi (-3)] S1) (fun x4 S3 =>
     (if x4 = 0 then
      (if l4 = 0 then
       (if 0 ≤ (gD S3 85 0 59) ∧ (gD S3 85 0 59) < 220 then
        run o K false mi_242 n 24 [(0, vr (some (85, 0))), (1, vi l1)] [] (wD (wD S3 133 0 (((gD S3 85 0 59)).toNat) (-3)) 85 0 59 (aw o ((gD (wD S3 133 0 (((gD S3 85 0 59)).toNat) (-3)) 85 0 59) + 1)))
       else none)
      else
       (if 0 ≤ (gD S3 85 0 59) ∧ (gD S3 85 0 59) < 220 then
        run o K false mi_242 n 24 [(0, vr (some (85, 0))), (1, vi l1)] [] (wD (wD S3 133 0 (((gD S3 85 0 59)).toNat) (-2)) 85 0 59 (aw o ((gD (wD S3 133 0 (((gD S3 85 0 59)).toNat) (-2)) 85 0 59) + 1)))
       else none))
     else
      (bV (K 238 [vr (some (85, 0)), vi l1] S3) (fun S5 =>
       run o K false mi_242 n 229 [(0, vr (some (85, 0))), (1, vi l1), (4, vi l4)] [] S5)))))
   else
    (if l4 = 0 then
     (if 0 ≤ (gD S1 85 0 59) ∧ (gD S1 85 0 59) < 220 then
      run o K false mi_242 n 24 [(0, vr (some (85, 0))), (1, vi l1)] [] (wD (wD S1 133 0 (((gD S1 85 0 59)).toNat) (-3)) 85 0 59 (aw o ((gD (wD S1 133 0 (((gD S1 85 0 59)).toNat) (-3)) 85 0 59) + 1)))
     else none)
    else
     (if 0 ≤ (gD S1 85 0 59) ∧ (gD S1 85 0 59) < 220 then
      run o K false mi_242 n 24 [(0, vr (some (85, 0))), (1, vi l1)] [] (wD (wD S1 133 0 (((gD S1 85 0 59)).toNat) (-2)) 85 0 59 (aw o ((gD (wD S1 133 0 (((gD S1 85 0 59)).toNat) (-2)) 85 0 59) + 1)))
     else none)))
  else
   (bV (K 238 [vr (some (85, 0)), vi l1] S1) (fun S6 =>
    run o K false mi_242 n 229 [(0, vr (some (85, 0))), (1, vi l1), (4, vi l4)] [] S6))))) := rfl
set_option maxRecDepth 100000 in
theorem b242_143 (o : AR) (K : KT) (n : Nat) (S : SD) (l1 : Int) : run o K false mi_242 (n + 1) 143 [(0, vr (some (85, 0))), (1, vi l1)] [] S =
 (bI (K 239 [vr (some (85, 0)), vi (-4)] S) (fun x2 S1 =>
  (if x2 = 0 then
   (bV (K 238 [vr (some (85, 0)), vi l1] S1) (fun S3 =>
    run o K false mi_242 n 143 [(0, vr (some (85, 0))), (1, vi l1)] [] S3))
  else
   (bV (K 240 [vr (some (85, 0)), vi l1] (wD (wD (wD S1 85 0 59 (aw o ((gD S1 85 0 59) - 1))) 85 0 58 (aw o ((gD (wD S1 85 0 59 (aw o ((gD S1 85 0 59) - 1))) 85 0 58) - 1))) 85 0 53 (aw o ((gD (wD (wD S1 85 0 59 (aw o ((gD S1 85 0 59) - 1))) 85 0 58 (aw o ((gD (wD S1 85 0 59 (aw o ((gD S1 85 0 59) - 1))) 85 0 58) - 1))) 85 0 53) + 1)))) (fun S4 =>
    run o K false mi_242 n 127 [(0, vr (some (85, 0))), (1, vi l1)] [] S4))))) := rfl
set_option maxRecDepth 100000 in
theorem b243_0 (o : AR) (K : KT) (n : Nat) (S : SD) : run o K false mi_243 (n + 1) 0 [(0, vr (some (85, 0)))] [] S =
 run o K false mi_243 n 2 [(0, vr (some (85, 0))), (1, vi 0)] [] S := rfl
set_option maxRecDepth 100000 in
theorem b243_2 (o : AR) (K : KT) (n : Nat) (S : SD) (l1 : Int) : run o K false mi_243 (n + 1) 2 [(0, vr (some (85, 0))), (1, vi l1)] [] S =
 (if l1 < (gD S 85 0 59) then
  (if 0 ≤ l1 ∧ l1 < 220 then
   (if (gD S 133 0 (l1.toNat)) = (-4) then
    some (vi 1, S)
   else
    run o K false mi_243 n 2 [(0, vr (some (85, 0))), (1, vi (aw o (l1 + 1)))] [] S)
  else none)
 else
  some (vi 0, S)) := rfl
set_option maxRecDepth 100000 in
theorem b244_0 (o : AR) (K : KT) (n : Nat) (S : SD) : run o K false mi_244 (n + 1) 0 [(0, vr (some (85, 0)))] [] S =
 (bI (K 225 [vr (some (85, 0))] S) (fun x2 S1 =>
  (if x2 = 58 then
   (bI (K 227 [vr (some (85, 0)), vl 2003399528] (wD S1 85 0 53 (aw o ((gD S1 85 0 53) + 1)))) (fun x4 S3 =>
    (if 0 ≤ (gD (wD S1 85 0 53 (aw o ((gD S1 85 0 53) + 1))) 85 0 32) ∧ (gD (wD S1 85 0 53 (aw o ((gD S1 85 0 53) + 1))) 85 0 32) < 20 then
     (if x4 = 0 ∨ x4 = 1 then
     (if 0 ≤ (gD (wD S3 119 0 (((gD (wD S1 85 0 53 (aw o ((gD S1 85 0 53) + 1))) 85 0 32)).toNat) x4) 85 0 32) ∧ (gD (wD S3 119 0 (((gD (wD S1 85 0 53 (aw o ((gD S1 85 0 53) + 1))) 85 0 32)).toNat) x4) 85 0 32) < 20 then
      (if (gD (wD S3 119 0 (((gD (wD S1 85 0 53 (aw o ((gD S1 85 0 53) + 1))) 85 0 32)).toNat) x4) 119 0 ((gD (wD S3 119 0 (((gD (wD S1 85 0 53 (aw o ((gD S1 85 0 53) + 1))) 85 0 32)).toNat) x4) 85 0 32).toNat)) = 0 then
       (bI (K 227 [vr (some (85, 0)), vl 478660552050] (wD S3 119 0 (((gD (wD S1 85 0 53 (aw o ((gD S1 85 0 53) + 1))) 85 0 32)).toNat) x4)) (fun x6 S5 =>
        (if x6 = 0 then
         (bI (K 224 [vr (some (85, 0)), vi 0, vi (gD S5 85 0 53)] S5) (fun x8 S7 =>
          (if x8 = 0 ∨ x8 = 1 then some (vi x8, S7) else none)))
        else
         (bV (K 228 [vr (some (85, 0))] S5) (fun S9 =>
          (bI (K 225 [vr (some (85, 0))] S9) (fun x11 S10 =>
           (if 0 ≤ (gD S10 85 0 32) ∧ (gD S10 85 0 32) < 20 then
            (if (gD S10 119 0 ((gD S10 85 0 32).toNat)) = 0 then
             (bI (K 233 [vr (some (85, 0))] S10) (fun x13 S12 =>
              (if x13 = 0 then
               some (vi 0, S12)
              else
               (if 0 ≤ (gD S12 85 0 32) ∧ (gD S12 85 0 32) < 20 then
                (if 0 ≤ (gD (wD S12 120 0 (((gD S12 85 0 32)).toNat) (gD S12 85 0 55)) 85 0 32) ∧ (gD (wD S12 120 0 (((gD S12 85 0 32)).toNat) (gD S12 85 0 55)) 85 0 32) < 20 then
                 (if 0 ≤ (gD (wD (wD S12 120 0 (((gD S12 85 0 32)).toNat) (gD S12 85 0 55)) 121 0 (((gD (wD S12 120 0 (((gD S12 85 0 32)).toNat) (gD S12 85 0 55)) 85 0 32)).toNat) (gD (wD S12 120 0 (((gD S12 85 0 32)).toNat) (gD S12 85 0 55)) 85 0 56)) 85 0 32) ∧ (gD (wD (wD S12 120 0 (((gD S12 85 0 32)).toNat) (gD S12 85 0 55)) 121 0 (((gD (wD S12 120 0 (((gD S12 85 0 32)).toNat) (gD S12 85 0 55)) 85 0 32)).toNat) (gD (wD S12 120 0 (((gD S12 85 0 32)).toNat) (gD S12 85 0 55)) 85 0 56)) 85 0 32) < 20 then
                  (if (gD (wD (wD S12 120 0 (((gD S12 85 0 32)).toNat) (gD S12 85 0 55)) 121 0 (((gD (wD S12 120 0 (((gD S12 85 0 32)).toNat) (gD S12 85 0 55)) 85 0 32)).toNat) (gD (wD S12 120 0 (((gD S12 85 0 32)).toNat) (gD S12 85 0 55)) 85 0 56)) 119 0 ((gD (wD (wD S12 120 0 (((gD S12 85 0 32)).toNat) (gD S12 85 0 55)) 121 0 (((gD (wD S12 120 0 (((gD S12 85 0 32)).toNat) (gD S12 85 0 55)) 85 0 32)).toNat) (gD (wD S12 120 0 (((gD S12 85 0 32)).toNat) (gD S12 85 0 55)) 85 0 56)) 85 0 32).toNat)) = 0 then
                   (bI (K 232 [vr (some (85, 0))] (wD (wD S12 120 0 (((gD S12 85 0 32)).toNat) (gD S12 85 0 55)) 121 0 (((gD (wD S12 120 0 (((gD S12 85 0 32)).toNat) (gD S12 85 0 55)) 85 0 32)).toNat) (gD (wD S12 120 0 (((gD S12 85 0 32)).toNat) (gD S12 85 0 55)) 85 0 56))) (fun x15 S14 =>
                    (if x15 = 0 then
                     some (vi 0, S14)
                    else
                     (if 0 ≤ (gD S14 85 0 32) ∧ (gD S14 85 0 32) < 20 then
                      (bI (K 225 [vr (some (85, 0))] (wD S14 122 0 (((gD S14 85 0 32)).toNat) (gD S14 85 0 57))) (fun x17 S16 =>
                       (if x17 = (-1) then
                        some (vi 1, S16)
                       else
                        (bI (K 224 [vr (some (85, 0)), vi 0, vi (gD S16 85 0 53)] S16) (fun x19 S18 =>
                         (if x19 = 0 then
                          some (vi 0, S18)
                         else
                          some (vi 1, S18)))))))
                     else none))))
                  else
                   (bI (K 225 [vr (some (85, 0))] (wD (wD S12 120 0 (((gD S12 85 0 32)).toNat) (gD S12 85 0 55)) 121 0 (((gD (wD S12 120 0 (((gD S12 85 0 32)).toNat) (gD S12 85 0 55)) 85 0 32)).toNat) (gD (wD S12 120 0 (((gD S12 85 0 32)).toNat) (gD S12 85 0 55)) 85 0 56))) (fun x21 S20 =>
                    (if x21 = 61 then
                     (bI (K 231 [vr (some (85, 0))] (wD S20 85 0 53 (aw o ((gD S20 85 0 53) + 1)))) (fun x23 S22 =>
                      (if x23 = 0 then
                       some (vi 0, S22)
                      else
                       (if 0 ≤ (gD S22 85 0 32) ∧ (gD S22 85 0 32) < 20 then
                        (bI (K 225 [vr (some (85, 0))] (wD S22 122 0 (((gD S22 85 0 32)).toNat) (gD S22 85 0 57))) (fun x25 S24 =>
                         (if x25 = (-1) then
                          some (vi 1, S24)
                         else
                          (bI (K 224 [vr (some (85, 0)), vi 0, vi (gD S24 85 0 53)] S24) (fun x27 S26 =>
                           (if x27 = 0 then
                            some (vi 0, S26)
                           else
                            some (vi 1, S26)))))))
                       else none))))
                    else
                     (bI (K 224 [vr (some (85, 0)), vi 0, vi (gD S20 85 0 53)] S20) (fun x29 S28 =>
                      (if x29 = 0 ∨ x29 = 1 then some (vi x29, S28) else none)))))))
                 else none)
                else none)
               else none))))
            else
             (bI (K 234 [vr (some (85, 0))] S10) (fun x31 S30 =>
              (if x31 = 0 then
               some (vi 0, S30)
              else
               (if 0 ≤ (gD S30 85 0 32) ∧ (gD S30 85 0 32) < 20 then
                (if 0 ≤ (gD (wD S30 120 0 (((gD S30 85 0 32)).toNat) (gD S30 85 0 55)) 85 0 32) ∧ (gD (wD S30 120 0 (((gD S30 85 0 32)).toNat) (gD S30 85 0 55)) 85 0 32) < 20 then
                 (if 0 ≤ (gD (wD (wD S30 120 0 (((gD S30 85 0 32)).toNat) (gD S30 85 0 55)) 121 0 (((gD (wD S30 120 0 (((gD S30 85 0 32)).toNat) (gD S30 85 0 55)) 85 0 32)).toNat) (gD (wD S30 120 0 (((gD S30 85 0 32)).toNat) (gD S30 85 0 55)) 85 0 56)) 85 0 32) ∧ (gD (wD (wD S30 120 0 (((gD S30 85 0 32)).toNat) (gD S30 85 0 55)) 121 0 (((gD (wD S30 120 0 (((gD S30 85 0 32)).toNat) (gD S30 85 0 55)) 85 0 32)).toNat) (gD (wD S30 120 0 (((gD S30 85 0 32)).toNat) (gD S30 85 0 55)) 85 0 56)) 85 0 32) < 20 then
                  (if (gD (wD (wD S30 120 0 (((gD S30 85 0 32)).toNat) (gD S30 85 0 55)) 121 0 (((gD (wD S30 120 0 (((gD S30 85 0 32)).toNat) (gD S30 85 0 55)) 85 0 32)).toNat) (gD (wD S30 120 0 (((gD S30 85 0 32)).toNat) (gD S30 85 0 55)) 85 0 56)) 119 0 ((gD (wD (wD S30 120 0 (((gD S30 85 0 32)).toNat) (gD S30 85 0 55)) 121 0 (((gD (wD S30 120 0 (((gD S30 85 0 32)).toNat) (gD S30 85 0 55)) 85 0 32)).toNat) (gD (wD S30 120 0 (((gD S30 85 0 32)).toNat) (gD S30 85 0 55)) 85 0 56)) 85 0 32).toNat)) = 0 then
                   (bI (K 232 [vr (some (85, 0))] (wD (wD S30 120 0 (((gD S30 85 0 32)).toNat) (gD S30 85 0 55)) 121 0 (((gD (wD S30 120 0 (((gD S30 85 0 32)).toNat) (gD S30 85 0 55)) 85 0 32)).toNat) (gD (wD S30 120 0 (((gD S30 85 0 32)).toNat) (gD S30 85 0 55)) 85 0 56))) (fun x33 S32 =>
                    (if x33 = 0 then
                     some (vi 0, S32)
                    else
                     (if 0 ≤ (gD S32 85 0 32) ∧ (gD S32 85 0 32) < 20 then
                      (bI (K 225 [vr (some (85, 0))] (wD S32 122 0 (((gD S32 85 0 32)).toNat) (gD S32 85 0 57))) (fun x35 S34 =>
                       (if x35 = (-1) then
                        some (vi 1, S34)
                       else
                        (bI (K 224 [vr (some (85, 0)), vi 0, vi (gD S34 85 0 53)] S34) (fun x37 S36 =>
                         (if x37 = 0 then
                          some (vi 0, S36)
                         else
                          some (vi 1, S36)))))))
                     else none))))
                  else
                   (bI (K 225 [vr (some (85, 0))] (wD (wD S30 120 0 (((gD S30 85 0 32)).toNat) (gD S30 85 0 55)) 121 0 (((gD (wD S30 120 0 (((gD S30 85 0 32)).toNat) (gD S30 85 0 55)) 85 0 32)).toNat) (gD (wD S30 120 0 (((gD S30 85 0 32)).toNat) (gD S30 85 0 55)) 85 0 56))) (fun x39 S38 =>
                    (if x39 = 61 then
                     (bI (K 231 [vr (some (85, 0))] (wD S38 85 0 53 (aw o ((gD S38 85 0 53) + 1)))) (fun x41 S40 =>
                      (if x41 = 0 then
                       some (vi 0, S40)
                      else
                       (if 0 ≤ (gD S40 85 0 32) ∧ (gD S40 85 0 32) < 20 then
                        (bI (K 225 [vr (some (85, 0))] (wD S40 122 0 (((gD S40 85 0 32)).toNat) (gD S40 85 0 57))) (fun x43 S42 =>
                         (if x43 = (-1) then
                          some (vi 1, S42)
                         else
                          (bI (K 224 [vr (some (85, 0)), vi 0, vi (gD S42 85 0 53)] S42) (fun x45 S44 =>
                           (if x45 = 0 then
                            some (vi 0, S44)
                           else
                            some (vi 1, S44)))))))
                       else none))))
                    else
                     (bI (K 224 [vr (some (85, 0)), vi 0, vi (gD S38 85 0 53)] S38) (fun x47 S46 =>
                      (if x47 = 0 ∨ x47 = 1 then some (vi x47, S46) else none)))))))
                 else none)
                else none)
               else none)))))
           else none))))))))
      else
       (bV (K 228 [vr (some (85, 0))] (wD S3 119 0 (((gD (wD S1 85 0 53 (aw o ((gD S1 85 0 53) + 1))) 85 0 32)).toNat) x4)) (fun S48 =>
        (bI (K 225 [vr (some (85, 0))] S48) (fun x50 S49 =>
         (if 0 ≤ (gD S49 85 0 32) ∧ (gD S49 85 0 32) < 20 then
          (if (gD S49 119 0 ((gD S49 85 0 32).toNat)) = 0 then
           (bI (K 233 [vr (some (85, 0))] S49) (fun x52 S51 =>
            (if x52 = 0 then
             some (vi 0, S51)
            else
             (if 0 ≤ (gD S51 85 0 32) ∧ (gD S51 85 0 32) < 20 then
              (if 0 ≤ (gD (wD S51 120 0 (((gD S51 85 0 32)).toNat) (gD S51 85 0 55)) 85 0 32) ∧ (gD (wD S51 120 0 (((gD S51 85 0 32)).toNat) (gD S51 85 0 55)) 85 0 32) < 20 then
               (if 0 ≤ (gD (wD (wD S51 120 0 (((gD S51 85 0 32)).toNat) (gD S51 85 0 55)) 121 0 (((gD (wD S51 120 0 (((gD S51 85 0 32)).toNat) (gD S51 85 0 55)) 85 0 32)).toNat) (gD (wD S51 120 0 (((gD S51 85 0 32)).toNat) (gD S51 85 0 55)) 85 0 56)) 85 0 32) ∧ (gD (wD (wD S51 120 0 (((gD S51 85 0 32)).toNat) (gD S51 85 0 55)) 121 0 (((gD (wD S51 120 0 (((gD S51 85 0 32)).toNat) (gD S51 85 0 55)) 85 0 32)).toNat) (gD (wD S51 120 0 (((gD S51 85 0 32)).toNat) (gD S51 85 0 55)) 85 0 56)) 85 0 32) < 20 then
                (if (gD (wD (wD S51 120 0 (((gD S51 85 0 32)).toNat) (gD S51 85 0 55)) 121 0 (((gD (wD S51 120 0 (((gD S51 85 0 32)).toNat) (gD S51 85 0 55)) 85 0 32)).toNat) (gD (wD S51 120 0 (((gD S51 85 0 32)).toNat) (gD S51 85 0 55)) 85 0 56)) 119 0 ((gD (wD (wD S51 120 0 (((gD S51 85 0 32)).toNat) (gD S51 85 0 55)) 121 0 (((gD (wD S51 120 0 (((gD S51 85 0 32)).toNat) (gD S51 85 0 55)) 85 0 32)).toNat) (gD (wD S51 120 0 (((gD S51 85 0 32)).toNat) (gD S51 85 0 55)) 85 0 56)) 85 0 32).toNat)) = 0 then
                 (bI (K 232 [vr (some (85, 0))] (wD (wD S51 120 0 (((gD S51 85 0 32)).toNat) (gD S51 85 0 55)) 121 0 (((gD (wD S51 120 0 (((gD S51 85 0 32)).toNat) (gD S51 85 0 55)) 85 0 32)).toNat) (gD (wD S51 120 0 (((gD S51 85 0 32)).toNat) (gD S51 85 0 55)) 85 0 56))) (fun x54 S53 =>
                  (if x54 = 0 then
                   some (vi 0, S53)
                  else
                   (if 0 ≤ (gD S53 85 0 32) ∧ (gD S53 85 0 32) < 20 then
                    (bI (K 225 [vr (some (85, 0))] (wD S53 122 0 (((gD S53 85 0 32)).toNat) (gD S53 85 0 57))) (fun x56 S55 =>
                     (if x56 = (-1) then
                      some (vi 1, S55)
                     else
                      (bI (K 224 [vr (some (85, 0)), vi 0, vi (gD S55 85 0 53)] S55) (fun x58 S57 =>
                       (if x58 = 0 then
                        some (vi 0, S57)
                       else
                        some (vi 1, S57)))))))
                   else none))))
                else
                 (bI (K 225 [vr (some (85, 0))] (wD (wD S51 120 0 (((gD S51 85 0 32)).toNat) (gD S51 85 0 55)) 121 0 (((gD (wD S51 120 0 (((gD S51 85 0 32)).toNat) (gD S51 85 0 55)) 85 0 32)).toNat) (gD (wD S51 120 0 (((gD S51 85 0 32)).toNat) (gD S51 85 0 55)) 85 0 56))) (fun x60 S59 =>
                  (if x60 = 61 then
                   (bI (K 231 [vr (some (85, 0))] (wD S59 85 0 53 (aw o ((gD S59 85 0 53) + 1)))) (fun x62 S61 =>
                    (if x62 = 0 then
                     some (vi 0, S61)
                    else
                     (if 0 ≤ (gD S61 85 0 32) ∧ (gD S61 85 0 32) < 20 then
                      (bI (K 225 [vr (some (85, 0))] (wD S61 122 0 (((gD S61 85 0 32)).toNat) (gD S61 85 0 57))) (fun x64 S63 =>
                       (if x64 = (-1) then
                        some (vi 1, S63)
                       else
                        (bI (K 224 [vr (some (85, 0)), vi 0, vi (gD S63 85 0 53)] S63) (fun x66 S65 =>
                         (if x66 = 0 then
                          some (vi 0, S65)
                         else
                          some (vi 1, S65)))))))
                     else none))))
                  else
                   (bI (K 224 [vr (some (85, 0)), vi 0, vi (gD S59 85 0 53)] S59) (fun x68 S67 =>
                    (if x68 = 0 ∨ x68 = 1 then some (vi x68, S67) else none)))))))
               else none)
              else none)
             else none))))
          else
           (bI (K 234 [vr (some (85, 0))] S49) (fun x70 S69 =>
            (if x70 = 0 then
             some (vi 0, S69)
            else
             (if 0 ≤ (gD S69 85 0 32) ∧ (gD S69 85 0 32) < 20 then
              (if 0 ≤ (gD (wD S69 120 0 (((gD S69 85 0 32)).toNat) (gD S69 85 0 55)) 85 0 32) ∧ (gD (wD S69 120 0 (((gD S69 85 0 32)).toNat) (gD S69 85 0 55)) 85 0 32) < 20 then
               (if 0 ≤ (gD (wD (wD S69 120 0 (((gD S69 85 0 32)).toNat) (gD S69 85 0 55)) 121 0 (((gD (wD S69 120 0 (((gD S69 85 0 32)).toNat) (gD S69 85 0 55)) 85 0 32)).toNat) (gD (wD S69 120 0 (((gD S69 85 0 32)).toNat) (gD S69 85 0 55)) 85 0 56)) 85 0 32) ∧ (gD (wD (wD S69 120 0 (((gD S69 85 0 32)).toNat) (gD S69 85 0 55)) 121 0 (((gD (wD S69 120 0 (((gD S69 85 0 32)).toNat) (gD S69 85 0 55)) 85 0 32)).toNat) (gD (wD S69 120 0 (((gD S69 85 0 32)).toNat) (gD S69 85 0 55)) 85 0 56)) 85 0 32) < 20 then
                (if (gD (wD (wD S69 120 0 (((gD S69 85 0 32)).toNat) (gD S69 85 0 55)) 121 0 (((gD (wD S69 120 0 (((gD S69 85 0 32)).toNat) (gD S69 85 0 55)) 85 0 32)).toNat) (gD (wD S69 120 0 (((gD S69 85 0 32)).toNat) (gD S69 85 0 55)) 85 0 56)) 119 0 ((gD (wD (wD S69 120 0 (((gD S69 85 0 32)).toNat) (gD S69 85 0 55)) 121 0 (((gD (wD S69 120 0 (((gD S69 85 0 32)).toNat) (gD S69 85 0 55)) 85 0 32)).toNat) (gD (wD S69 120 0 (((gD S69 85 0 32)).toNat) (gD S69 85 0 55)) 85 0 56)) 85 0 32).toNat)) = 0 then
                 (bI (K 232 [vr (some (85, 0))] (wD (wD S69 120 0 (((gD S69 85 0 32)).toNat) (gD S69 85 0 55)) 121 0 (((gD (wD S69 120 0 (((gD S69 85 0 32)).toNat) (gD S69 85 0 55)) 85 0 32)).toNat) (gD (wD S69 120 0 (((gD S69 85 0 32)).toNat) (gD S69 85 0 55)) 85 0 56))) (fun x72 S71 =>
                  (if x72 = 0 then
                   some (vi 0, S71)
                  else
                   (if 0 ≤ (gD S71 85 0 32) ∧ (gD S71 85 0 32) < 20 then
                    (bI (K 225 [vr (some (85, 0))] (wD S71 122 0 (((gD S71 85 0 32)).toNat) (gD S71 85 0 57))) (fun x74 S73 =>
                     (if x74 = (-1) then
                      some (vi 1, S73)
                     else
                      (bI (K 224 [vr (some (85, 0)), vi 0, vi (gD S73 85 0 53)] S73) (fun x76 S75 =>
                       (if x76 = 0 then
                        some (vi 0, S75)
                       else
                        some (vi 1, S75)))))))
                   else none))))
                else
                 (bI (K 225 [vr (some (85, 0))] (wD (wD S69 120 0 (((gD S69 85 0 32)).toNat) (gD S69 85 0 55)) 121 0 (((gD (wD S69 120 0 (((gD S69 85 0 32)).toNat) (gD S69 85 0 55)) 85 0 32)).toNat) (gD (wD S69 120 0 (((gD S69 85 0 32)).toNat) (gD S69 85 0 55)) 85 0 56))) (fun x78 S77 =>
                  (if x78 = 61 then
                   (bI (K 231 [vr (some (85, 0))] (wD S77 85 0 53 (aw o ((gD S77 85 0 53) + 1)))) (fun x80 S79 =>
                    (if x80 = 0 then
                     some (vi 0, S79)
                    else
                     (if 0 ≤ (gD S79 85 0 32) ∧ (gD S79 85 0 32) < 20 then
                      (bI (K 225 [vr (some (85, 0))] (wD S79 122 0 (((gD S79 85 0 32)).toNat) (gD S79 85 0 57))) (fun x82 S81 =>
                       (if x82 = (-1) then
                        some (vi 1, S81)
                       else
                        (bI (K 224 [vr (some (85, 0)), vi 0, vi (gD S81 85 0 53)] S81) (fun x84 S83 =>
                         (if x84 = 0 then
                          some (vi 0, S83)
                         else
                          some (vi 1, S83)))))))
                     else none))))
                  else
                   (bI (K 224 [vr (some (85, 0)), vi 0, vi (gD S77 85 0 53)] S77) (fun x86 S85 =>
                    (if x86 = 0 ∨ x86 = 1 then some (vi x86, S85) else none)))))))
               else none)
              else none)
             else none)))))
         else none))))))
     else none)
    else none)
    else none)))
  else
   (bI (K 224 [vr (some (85, 0)), vi 0, vi (gD S1 85 0 53)] S1) (fun x88 S87 =>
    (if x88 = 0 ∨ x88 = 1 then some (vi x88, S87) else none)))))) := rfl
set_option maxRecDepth 100000 in
theorem b245_0 (o : AR) (K : KT) (n : Nat) (S : SD) : run o K false mi_245 (n + 1) 0 [(0, vr (some (85, 0)))] [] S =
 (if 0 ≤ (gD S 85 0 32) ∧ (gD S 85 0 32) < 20 then
  (if 0 ≤ (aw o ((aw o (2 * (gD (wD S 123 0 (((gD S 85 0 32)).toNat) 0) 85 0 32))) + 1)) ∧ (aw o ((aw o (2 * (gD (wD S 123 0 (((gD S 85 0 32)).toNat) 0) 85 0 32))) + 1)) < 40 then
   (if 0 ≤ (gD (wD (wD S 123 0 (((gD S 85 0 32)).toNat) 0) 125 0 (((aw o ((aw o (2 * (gD (wD S 123 0 (((gD S 85 0 32)).toNat) 0) 85 0 32))) + 1))).toNat) 0) 85 0 32) ∧ (gD (wD (wD S 123 0 (((gD S 85 0 32)).toNat) 0) 125 0 (((aw o ((aw o (2 * (gD (wD S 123 0 (((gD S 85 0 32)).toNat) 0) 85 0 32))) + 1))).toNat) 0) 85 0 32) < 20 then
    (if 0 ≤ (gD (wD (wD (wD S 123 0 (((gD S 85 0 32)).toNat) 0) 125 0 (((aw o ((aw o (2 * (gD (wD S 123 0 (((gD S 85 0 32)).toNat) 0) 85 0 32))) + 1))).toNat) 0) 116 0 (((gD (wD (wD S 123 0 (((gD S 85 0 32)).toNat) 0) 125 0 (((aw o ((aw o (2 * (gD (wD S 123 0 (((gD S 85 0 32)).toNat) 0) 85 0 32))) + 1))).toNat) 0) 85 0 32)).toNat) 0) 85 0 32) ∧ (gD (wD (wD (wD S 123 0 (((gD S 85 0 32)).toNat) 0) 125 0 (((aw o ((aw o (2 * (gD (wD S 123 0 (((gD S 85 0 32)).toNat) 0) 85 0 32))) + 1))).toNat) 0) 116 0 (((gD (wD (wD S 123 0 (((gD S 85 0 32)).toNat) 0) 125 0 (((aw o ((aw o (2 * (gD (wD S 123 0 (((gD S 85 0 32)).toNat) 0) 85 0 32))) + 1))).toNat) 0) 85 0 32)).toNat) 0) 85 0 32) < 20 then
     (bI (K 229 [vr (some (85, 0)), vl 2003330414] (wD (wD (wD (wD S 123 0 (((gD S 85 0 32)).toNat) 0) 125 0 (((aw o ((aw o (2 * (gD (wD S 123 0 (((gD S 85 0 32)).toNat) 0) 85 0 32))) + 1))).toNat) 0) 116 0 (((gD (wD (wD S 123 0 (((gD S 85 0 32)).toNat) 0) 125 0 (((aw o ((aw o (2 * (gD (wD S 123 0 (((gD S 85 0 32)).toNat) 0) 85 0 32))) + 1))).toNat) 0) 85 0 32)).toNat) 0) 115 0 (((gD (wD (wD (wD S 123 0 (((gD S 85 0 32)).toNat) 0) 125 0 (((aw o ((aw o (2 * (gD (wD S 123 0 (((gD S 85 0 32)).toNat) 0) 85 0 32))) + 1))).toNat) 0) 116 0 (((gD (wD (wD S 123 0 (((gD S 85 0 32)).toNat) 0) 125 0 (((aw o ((aw o (2 * (gD (wD S 123 0 (((gD S 85 0 32)).toNat) 0) 85 0 32))) + 1))).toNat) 0) 85 0 32)).toNat) 0) 85 0 32)).toNat) 1)) (fun x2 S1 =>
      (if x2 = 0 then
       (bI (K 224 [vr (some (85, 0)), vi 0, vi (gD S1 85 0 53)] S1) (fun x4 S3 =>
        (if x4 = 0 ∨ x4 = 1 then some (vi x4, S3) else none)))
      else
       (bI (K 242 [vr (some (85, 0)), vi 0] S1) (fun x6 S5 =>
        (if x6 = 0 then
         some (vi 0, S5)
        else
         (if 0 ≤ (gD S5 85 0 32) ∧ (gD S5 85 0 32) < 20 then
          (if 0 ≤ (gD S5 85 0 32) ∧ (gD S5 85 0 32) < 20 then
           (bI (K 229 [vr (some (85, 0)), vl 6713202] (wD S5 124 0 (((gD S5 85 0 32)).toNat) (gD S5 123 0 ((gD S5 85 0 32).toNat)))) (fun x8 S7 =>
            (if x8 = 0 then
             (bI (K 229 [vr (some (85, 0)), vl 129117125440371] S7) (fun x10 S9 =>
              (if x10 = 0 then
               (bI (K 244 [vr (some (85, 0))] S9) (fun x12 S11 =>
                (if x12 = 0 then
                 some (vi 0, S11)
                else
                 some (vi 1, S11))))
              else
               (bI (K 242 [vr (some (85, 0)), vi 1] S9) (fun x14 S13 =>
                (if x14 = 0 then
                 some (vi 0, S13)
                else
                 (bI (K 244 [vr (some (85, 0))] S13) (fun x16 S15 =>
                  (if x16 = 0 then
                   some (vi 0, S15)
                  else
                   some (vi 1, S15))))))))))
            else
             (bI (K 232 [vr (some (85, 0))] S7) (fun x18 S17 =>
              (if x18 = 0 then
               some (vi 0, S17)
              else
               (if 0 ≤ (gD S17 85 0 32) ∧ (gD S17 85 0 32) < 20 then
                (if 0 ≤ (gD (wD S17 116 0 (((gD S17 85 0 32)).toNat) 1) 85 0 32) ∧ (gD (wD S17 116 0 (((gD S17 85 0 32)).toNat) 1) 85 0 32) < 20 then
                 (bI (K 229 [vr (some (85, 0)), vl 129117125440371] (wD (wD S17 116 0 (((gD S17 85 0 32)).toNat) 1) 115 0 (((gD (wD S17 116 0 (((gD S17 85 0 32)).toNat) 1) 85 0 32)).toNat) (gD (wD S17 116 0 (((gD S17 85 0 32)).toNat) 1) 85 0 57))) (fun x20 S19 =>
                  (if x20 = 0 then
                   (bI (K 244 [vr (some (85, 0))] S19) (fun x22 S21 =>
                    (if x22 = 0 then
                     some (vi 0, S21)
                    else
                     some (vi 1, S21))))
                  else
                   (bI (K 242 [vr (some (85, 0)), vi 1] S19) (fun x24 S23 =>
                    (if x24 = 0 then
                     some (vi 0, S23)
                    else
                     (bI (K 244 [vr (some (85, 0))] S23) (fun x26 S25 =>
                      (if x26 = 0 then
                       some (vi 0, S25)
                      else
                       some (vi 1, S25))))))))))
                else none)
               else none)))))))
          else none)
         else none)))))))
    else none)
   else none)
  else none)
 else none) := rfl
set_option maxRecDepth 100000 in
theorem b246_0 (o : AR) (K : KT) (n : Nat) (S : SD) (a1 : Int) : run o K false mi_246 (n + 1) 0 [(0, vr (some (85, 0))), (1, vi a1)] [] S =
 (if (gD S 85 0 32) = 20 then
  some (vi (-1), S)
 else
  (bI (K 192 [vl a1, vl 0, vl 7] S) (fun x2 S1 =>
   (if x2 = 0 then
    some (vi (-1), S1)
   else
    (bI (K 245 [vr (some (85, 0))] (wD (wD S1 85 0 53 0) 85 0 54 0)) (fun x4 S3 =>
     (if x4 = 0 then
      some (vi (aw o ((-2) - (gD (wD S3 85 0 31 0) 85 0 54))), wD S3 85 0 31 0)
     else
      (if 0 ≤ (gD (wD S3 85 0 31 0) 85 0 32) ∧ (gD (wD S3 85 0 31 0) 85 0 32) < 20 then
       (if 0 ≤ (gD (wD (wD S3 85 0 31 0) 113 0 (((gD (wD S3 85 0 31 0) 85 0 32)).toNat) a1) 85 0 32) ∧ (gD (wD (wD S3 85 0 31 0) 113 0 (((gD (wD S3 85 0 31 0) 85 0 32)).toNat) a1) 85 0 32) < 20 then
        (if 0 ≤ (gD (wD (wD (wD S3 85 0 31 0) 113 0 (((gD (wD S3 85 0 31 0) 85 0 32)).toNat) a1) 114 0 (((gD (wD (wD S3 85 0 31 0) 113 0 (((gD (wD S3 85 0 31 0) 85 0 32)).toNat) a1) 85 0 32)).toNat) (gD (wD (wD S3 85 0 31 0) 113 0 (((gD (wD S3 85 0 31 0) 85 0 32)).toNat) a1) 85 0 0)) 85 0 32) ∧ (gD (wD (wD (wD S3 85 0 31 0) 113 0 (((gD (wD S3 85 0 31 0) 85 0 32)).toNat) a1) 114 0 (((gD (wD (wD S3 85 0 31 0) 113 0 (((gD (wD S3 85 0 31 0) 85 0 32)).toNat) a1) 85 0 32)).toNat) (gD (wD (wD S3 85 0 31 0) 113 0 (((gD (wD S3 85 0 31 0) 85 0 32)).toNat) a1) 85 0 0)) 85 0 32) < 20 then
         (if 0 ≤ (gD (wD (wD (wD (wD S3 85 0 31 0) 113 0 (((gD (wD S3 85 0 31 0) 85 0 32)).toNat) a1) 114 0 (((gD (wD (wD S3 85 0 31 0) 113 0 (((gD (wD S3 85 0 31 0) 85 0 32)).toNat) a1) 85 0 32)).toNat) (gD (wD (wD S3 85 0 31 0) 113 0 (((gD (wD S3 85 0 31 0) 85 0 32)).toNat) a1) 85 0 0)) 117 0 (((gD (wD (wD (wD S3 85 0 31 0) 113 0 (((gD (wD S3 85 0 31 0) 85 0 32)).toNat) a1) 114 0 (((gD (wD (wD S3 85 0 31 0) 113 0 (((gD (wD S3 85 0 31 0) 85 0 32)).toNat) a1) 85 0 32)).toNat) (gD (wD (wD S3 85 0 31 0) 113 0 (((gD (wD S3 85 0 31 0) 85 0 32)).toNat) a1) 85 0 0)) 85 0 32)).toNat) 1) 85 0 32) ∧ (gD (wD (wD (wD (wD S3 85 0 31 0) 113 0 (((gD (wD S3 85 0 31 0) 85 0 32)).toNat) a1) 114 0 (((gD (wD (wD S3 85 0 31 0) 113 0 (((gD (wD S3 85 0 31 0) 85 0 32)).toNat) a1) 85 0 32)).toNat) (gD (wD (wD S3 85 0 31 0) 113 0 (((gD (wD S3 85 0 31 0) 85 0 32)).toNat) a1) 85 0 0)) 117 0 (((gD (wD (wD (wD S3 85 0 31 0) 113 0 (((gD (wD S3 85 0 31 0) 85 0 32)).toNat) a1) 114 0 (((gD (wD (wD S3 85 0 31 0) 113 0 (((gD (wD S3 85 0 31 0) 85 0 32)).toNat) a1) 85 0 32)).toNat) (gD (wD (wD S3 85 0 31 0) 113 0 (((gD (wD S3 85 0 31 0) 85 0 32)).toNat) a1) 85 0 0)) 85 0 32)).toNat) 1) 85 0 32) < 20 then
          some (vi (aw o ((gD (wD (wD (wD (wD (wD (wD S3 85 0 31 0) 113 0 (((gD (wD S3 85 0 31 0) 85 0 32)).toNat) a1) 114 0 (((gD (wD (wD S3 85 0 31 0) 113 0 (((gD (wD S3 85 0 31 0) 85 0 32)).toNat) a1) 85 0 32)).toNat) (gD (wD (wD S3 85 0 31 0) 113 0 (((gD (wD S3 85 0 31 0) 85 0 32)).toNat) a1) 85 0 0)) 117 0 (((gD (wD (wD (wD S3 85 0 31 0) 113 0 (((gD (wD S3 85 0 31 0) 85 0 32)).toNat) a1) 114 0 (((gD (wD (wD S3 85 0 31 0) 113 0 (((gD (wD S3 85 0 31 0) 85 0 32)).toNat) a1) 85 0 32)).toNat) (gD (wD (wD S3 85 0 31 0) 113 0 (((gD (wD S3 85 0 31 0) 85 0 32)).toNat) a1) 85 0 0)) 85 0 32)).toNat) 1) 118 0 (((gD (wD (wD (wD (wD S3 85 0 31 0) 113 0 (((gD (wD S3 85 0 31 0) 85 0 32)).toNat) a1) 114 0 (((gD (wD (wD S3 85 0 31 0) 113 0 (((gD (wD S3 85 0 31 0) 85 0 32)).toNat) a1) 85 0 32)).toNat) (gD (wD (wD S3 85 0 31 0) 113 0 (((gD (wD S3 85 0 31 0) 85 0 32)).toNat) a1) 85 0 0)) 117 0 (((gD (wD (wD (wD S3 85 0 31 0) 113 0 (((gD (wD S3 85 0 31 0) 85 0 32)).toNat) a1) 114 0 (((gD (wD (wD S3 85 0 31 0) 113 0 (((gD (wD S3 85 0 31 0) 85 0 32)).toNat) a1) 85 0 32)).toNat) (gD (wD (wD S3 85 0 31 0) 113 0 (((gD (wD S3 85 0 31 0) 85 0 32)).toNat) a1) 85 0 0)) 85 0 32)).toNat) 1) 85 0 32)).toNat) 0) 85 0 32 (aw o ((gD (wD (wD (wD (wD (wD S3 85 0 31 0) 113 0 (((gD (wD S3 85 0 31 0) 85 0 32)).toNat) a1) 114 0 (((gD (wD (wD S3 85 0 31 0) 113 0 (((gD (wD S3 85 0 31 0) 85 0 32)).toNat) a1) 85 0 32)).toNat) (gD (wD (wD S3 85 0 31 0) 113 0 (((gD (wD S3 85 0 31 0) 85 0 32)).toNat) a1) 85 0 0)) 117 0 (((gD (wD (wD (wD S3 85 0 31 0) 113 0 (((gD (wD S3 85 0 31 0) 85 0 32)).toNat) a1) 114 0 (((gD (wD (wD S3 85 0 31 0) 113 0 (((gD (wD S3 85 0 31 0) 85 0 32)).toNat) a1) 85 0 32)).toNat) (gD (wD (wD S3 85 0 31 0) 113 0 (((gD (wD S3 85 0 31 0) 85 0 32)).toNat) a1) 85 0 0)) 85 0 32)).toNat) 1) 118 0 (((gD (wD (wD (wD (wD S3 85 0 31 0) 113 0 (((gD (wD S3 85 0 31 0) 85 0 32)).toNat) a1) 114 0 (((gD (wD (wD S3 85 0 31 0) 113 0 (((gD (wD S3 85 0 31 0) 85 0 32)).toNat) a1) 85 0 32)).toNat) (gD (wD (wD S3 85 0 31 0) 113 0 (((gD (wD S3 85 0 31 0) 85 0 32)).toNat) a1) 85 0 0)) 117 0 (((gD (wD (wD (wD S3 85 0 31 0) 113 0 (((gD (wD S3 85 0 31 0) 85 0 32)).toNat) a1) 114 0 (((gD (wD (wD S3 85 0 31 0) 113 0 (((gD (wD S3 85 0 31 0) 85 0 32)).toNat) a1) 85 0 32)).toNat) (gD (wD (wD S3 85 0 31 0) 113 0 (((gD (wD S3 85 0 31 0) 85 0 32)).toNat) a1) 85 0 0)) 85 0 32)).toNat) 1) 85 0 32)).toNat) 0) 85 0 32) + 1))) 85 0 32) - 1)), wD (wD (wD (wD (wD (wD S3 85 0 31 0) 113 0 (((gD (wD S3 85 0 31 0) 85 0 32)).toNat) a1) 114 0 (((gD (wD (wD S3 85 0 31 0) 113 0 (((gD (wD S3 85 0 31 0) 85 0 32)).toNat) a1) 85 0 32)).toNat) (gD (wD (wD S3 85 0 31 0) 113 0 (((gD (wD S3 85 0 31 0) 85 0 32)).toNat) a1) 85 0 0)) 117 0 (((gD (wD (wD (wD S3 85 0 31 0) 113 0 (((gD (wD S3 85 0 31 0) 85 0 32)).toNat) a1) 114 0 (((gD (wD (wD S3 85 0 31 0) 113 0 (((gD (wD S3 85 0 31 0) 85 0 32)).toNat) a1) 85 0 32)).toNat) (gD (wD (wD S3 85 0 31 0) 113 0 (((gD (wD S3 85 0 31 0) 85 0 32)).toNat) a1) 85 0 0)) 85 0 32)).toNat) 1) 118 0 (((gD (wD (wD (wD (wD S3 85 0 31 0) 113 0 (((gD (wD S3 85 0 31 0) 85 0 32)).toNat) a1) 114 0 (((gD (wD (wD S3 85 0 31 0) 113 0 (((gD (wD S3 85 0 31 0) 85 0 32)).toNat) a1) 85 0 32)).toNat) (gD (wD (wD S3 85 0 31 0) 113 0 (((gD (wD S3 85 0 31 0) 85 0 32)).toNat) a1) 85 0 0)) 117 0 (((gD (wD (wD (wD S3 85 0 31 0) 113 0 (((gD (wD S3 85 0 31 0) 85 0 32)).toNat) a1) 114 0 (((gD (wD (wD S3 85 0 31 0) 113 0 (((gD (wD S3 85 0 31 0) 85 0 32)).toNat) a1) 85 0 32)).toNat) (gD (wD (wD S3 85 0 31 0) 113 0 (((gD (wD S3 85 0 31 0) 85 0 32)).toNat) a1) 85 0 0)) 85 0 32)).toNat) 1) 85 0 32)).toNat) 0) 85 0 32 (aw o ((gD (wD (wD (wD (wD (wD S3 85 0 31 0) 113 0 (((gD (wD S3 85 0 31 0) 85 0 32)).toNat) a1) 114 0 (((gD (wD (wD S3 85 0 31 0) 113 0 (((gD (wD S3 85 0 31 0) 85 0 32)).toNat) a1) 85 0 32)).toNat) (gD (wD (wD S3 85 0 31 0) 113 0 (((gD (wD S3 85 0 31 0) 85 0 32)).toNat) a1) 85 0 0)) 117 0 (((gD (wD (wD (wD S3 85 0 31 0) 113 0 (((gD (wD S3 85 0 31 0) 85 0 32)).toNat) a1) 114 0 (((gD (wD (wD S3 85 0 31 0) 113 0 (((gD (wD S3 85 0 31 0) 85 0 32)).toNat) a1) 85 0 32)).toNat) (gD (wD (wD S3 85 0 31 0) 113 0 (((gD (wD S3 85 0 31 0) 85 0 32)).toNat) a1) 85 0 0)) 85 0 32)).toNat) 1) 118 0 (((gD (wD (wD (wD (wD S3 85 0 31 0) 113 0 (((gD (wD S3 85 0 31 0) 85 0 32)).toNat) a1) 114 0 (((gD (wD (wD S3 85 0 31 0) 113 0 (((gD (wD S3 85 0 31 0) 85 0 32)).toNat) a1) 85 0 32)).toNat) (gD (wD (wD S3 85 0 31 0) 113 0 (((gD (wD S3 85 0 31 0) 85 0 32)).toNat) a1) 85 0 0)) 117 0 (((gD (wD (wD (wD S3 85 0 31 0) 113 0 (((gD (wD S3 85 0 31 0) 85 0 32)).toNat) a1) 114 0 (((gD (wD (wD S3 85 0 31 0) 113 0 (((gD (wD S3 85 0 31 0) 85 0 32)).toNat) a1) 85 0 32)).toNat) (gD (wD (wD S3 85 0 31 0) 113 0 (((gD (wD S3 85 0 31 0) 85 0 32)).toNat) a1) 85 0 0)) 85 0 32)).toNat) 1) 85 0 32)).toNat) 0) 85 0 32) + 1)))
         else none)
        else none)
       else none)
      else none)))))))) := rfl
set_option maxRecDepth 100000 in
theorem b247_0 (o : AR) (K : KT) (n : Nat) (S : SD) (a1 : Int) : run o K false mi_247 (n + 1) 0 [(0, vr (some (85, 0))), (1, vi a1)] [] S =
 (if a1 < 0 then
  some (vi 0, S)
 else
  (if a1 < (gD S 85 0 32) then
   some (vi 1, S)
  else
   some (vi 0, S))) := rfl
set_option maxRecDepth 100000 in
theorem b248_0 (o : AR) (K : KT) (n : Nat) (S : SD) (a1 : Int) (a2 : Int) : run o K false mi_248 (n + 1) 0 [(0, vr (some (85, 0))), (1, vi a1), (2, vi a2)] [] S =
 (bI (K 247 [vr (some (85, 0)), vi a1] S) (fun x2 S1 =>
  (if x2 = 0 then
   some (vi 0, S1)
  else
   (if 0 ≤ a1 ∧ a1 < 20 then
    (if (gD S1 117 0 (a1.toNat)) = a2 then
     some (vi 0, S1)
    else
     (if 0 ≤ a1 ∧ a1 < 20 then
      (if a2 = 0 ∨ a2 = 1 then
      (if 0 ≤ a1 ∧ a1 < 20 then
       some (vi 1, wD (wD S1 117 0 ((a1).toNat) a2) 118 0 ((a1).toNat) 0)
      else none)
     else none)
     else none))
   else none)))) := rfl
