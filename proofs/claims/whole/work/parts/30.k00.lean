set_option maxRecDepth 100000 in
theorem b1_0 (o : AR) (K : KT) (n : Nat) (S : SD) (a1 : Int) (a2 : Int) : run o K false mi_1 (n + 1) 0 [(0, vr (some (55, 0))), (1, vi a1), (2, vi a2)] [] S =
 (bR (K 110 [vr (some (41, 0)), vi a1] S) 47 (fun S1 =>
  (bR (K 110 [vr (some (41, 0)), vi a2] S1) 47 (fun S3 =>
   some (vi (-1), S3))
  (fun j4 S3 =>
   some (vi (-1), S3))))
 (fun j2 S1 =>
  (bR (K 110 [vr (some (41, 0)), vi a2] S1) 47 (fun S5 =>
   some (vi (-1), S5))
  (fun j6 S5 =>
   (if a1 = a2 then
    some (vi (-1), S5)
   else
    (bI (K 53 [vr (some (47, j2))] S5) (fun x8 S7 =>
     (if x8 = 0 then
      some (vi (-1), S7)
     else
      (bI (K 53 [vr (some (47, j6))] S7) (fun x10 S9 =>
       (if x10 = 0 then
        some (vi (-1), S9)
       else
        (bI (K 51 [vr (some (47, j2))] S9) (fun x12 S11 =>
         (bI (K 51 [vr (some (47, j6))] S11) (fun x14 S13 =>
          (if x12 = x14 then
           (if (gD S13 47 j2 14) = (gD S13 47 j6 14) then
            (bV (K 3 [vr (some (55, 0))] S13) (fun S15 =>
             run o K false mi_1 n 134 [(0, vr (some (55, 0))), (3, vr (some (47, j2))), (4, vr (some (47, j6))), (6, vi 0), (7, vi 0)] [] (wD S15 55 0 8 (gD S15 62 0 7))))
           else
            (bI (K 85 [vr (some (62, 0)), vi (ab o 1 (ab o 3 1 a1) (ab o 3 1 a2))] S13) (fun x17 S16 =>
             (if x17 = (-2) then
              some (vi (-2), S16)
             else
              (bV (K 3 [vr (some (55, 0))] S16) (fun S18 =>
               run o K false mi_1 n 134 [(0, vr (some (55, 0))), (3, vr (some (47, j2))), (4, vr (some (47, j6))), (6, vi x17), (7, vi 0)] [] (wD S18 55 0 8 (gD S18 62 0 7))))))))
          else
           (bV (K 3 [vr (some (55, 0))] S13) (fun S19 =>
            run o K false mi_1 n 134 [(0, vr (some (55, 0))), (3, vr (some (47, j2))), (4, vr (some (47, j6))), (6, vi 0), (7, vi 0)] [] (wD S19 55 0 8 (gD S19 62 0 7)))))))))))))))))))) := rfl
set_option maxRecDepth 100000 in
theorem b1_134 (o : AR) (K : KT) (n : Nat) (S : SD) (j3 : Nat) (j4 : Nat) (l6 : Int) (l7 : Int) : run o K false mi_1 (n + 1) 134 [(0, vr (some (55, 0))), (3, vr (some (47, j3))), (4, vr (some (47, j4))), (6, vi l6), (7, vi l7)] [] S =
 (if l7 < l6 then
  (bV (K 6 [vr (some (55, 0))] S) (fun S1 =>
   (bI (K 9 [vr (some (55, 0)), vr (some (47, j3))] S1) (fun x3 S2 =>
    (if x3 = 0 then
     (bV (K 91 [vr (some (62, 0))] S2) (fun S4 =>
      run o K false mi_1 n 134 [(0, vr (some (55, 0))), (3, vr (some (47, j3))), (4, vr (some (47, j4))), (6, vi l6), (7, vi (aw o (l7 + 1)))] [] S4))
    else
     (bI (K 9 [vr (some (55, 0)), vr (some (47, j4))] S2) (fun x6 S5 =>
      (if x6 = 0 then
       (bV (K 91 [vr (some (62, 0))] S5) (fun S7 =>
        run o K false mi_1 n 134 [(0, vr (some (55, 0))), (3, vr (some (47, j3))), (4, vr (some (47, j4))), (6, vi l6), (7, vi (aw o (l7 + 1)))] [] S7))
      else
       (bV (K 7 [vr (some (55, 0))] S5) (fun S8 =>
        some (vi 1, S8)))))))))))
 else
  some (vi 0, S)) := rfl
set_option maxRecDepth 100000 in
theorem b2_0 (o : AR) (K : KT) (n : Nat) (S : SD) : run o K false mi_2 (n + 1) 0 [(0, vr (some (55, 0)))] [] S =
 (bI (K 4 [vr (some (55, 0))] S) (fun x2 S1 =>
  (bI (K 85 [vr (some (62, 0)), vi x2] S1) (fun x4 S3 =>
   (if x4 = (-2) then
    some (vi (-2), S3)
   else
    (if 2000 < x4 then
     some (vi (-2), S3)
    else
     (bV (K 5 [vr (some (55, 0)), vi x2] (wD S3 55 0 8 (gD S3 62 0 7))) (fun S5 =>
      run o K false mi_2 n 48 [(0, vr (some (55, 0))), (1, vi x2), (2, vi x4), (3, vi 0)] [] S5)))))))) := rfl
set_option maxRecDepth 100000 in
theorem b2_48 (o : AR) (K : KT) (n : Nat) (S : SD) (l1 : Int) (l2 : Int) (l3 : Int) : run o K false mi_2 (n + 1) 48 [(0, vr (some (55, 0))), (1, vi l1), (2, vi l2), (3, vi l3)] [] S =
 (if l3 < l2 then
  (bV (K 6 [vr (some (55, 0))] S) (fun S1 =>
   (bI (K 11 [vr (some (55, 0)), vi l1] S1) (fun x3 S2 =>
    (if x3 = (-2) then
     some (vi (-2), S2)
    else
     (if x3 = (-1) then
      (bV (K 91 [vr (some (62, 0))] S2) (fun S4 =>
       run o K false mi_2 n 48 [(0, vr (some (55, 0))), (1, vi l1), (2, vi l2), (3, vi (aw o (l3 + 1)))] [] S4))
     else
      some (vi (gD S2 55 0 10), S2)))))))
 else
  (bV (K 3 [vr (some (55, 0))] S) (fun S5 =>
   some (vi 0, S5)))) := rfl
set_option maxRecDepth 100000 in
theorem b3_0 (o : AR) (K : KT) (n : Nat) (S : SD) : run o K false mi_3 (n + 1) 0 [(0, vr (some (55, 0)))] [] S =
 some (vi 0, wD (wD S 55 0 9 0) 55 0 10 0) := rfl
set_option maxRecDepth 100000 in
theorem b4_0 (o : AR) (K : KT) (n : Nat) (S : SD) : run o K false mi_4 (n + 1) 0 [(0, vr (some (55, 0)))] [] S =
 run o K false mi_4 n 4 [(0, vr (some (55, 0))), (1, vi 0), (2, vi 0)] [] S := rfl
set_option maxRecDepth 100000 in
theorem b4_4 (o : AR) (K : KT) (n : Nat) (S : SD) (l1 : Int) (l2 : Int) : run o K false mi_4 (n + 1) 4 [(0, vr (some (55, 0))), (1, vi l1), (2, vi l2)] [] S =
 (if l2 < 20 then
  (bR (K 110 [vr (some (41, 0)), vi l2] S) 47 (fun S1 =>
   run o K false mi_4 n 4 [(0, vr (some (55, 0))), (1, vi l1), (2, vi (aw o (l2 + 1)))] [] S1)
  (fun j2 S1 =>
   (if (gD S1 47 j2 17) = 0 then
    run o K false mi_4 n 4 [(0, vr (some (55, 0))), (1, vi l1), (2, vi (aw o (l2 + 1)))] [] S1
   else
    (bI (K 53 [vr (some (47, j2))] S1) (fun x4 S3 =>
     (if x4 = 0 then
      run o K false mi_4 n 4 [(0, vr (some (55, 0))), (1, vi l1), (2, vi (aw o (l2 + 1)))] [] S3
     else
      run o K false mi_4 n 4 [(0, vr (some (55, 0))), (1, vi (ab o 1 l1 (ab o 3 1 l2))), (2, vi (aw o (l2 + 1)))] [] S3))))))
 else
  some (vi l1, S)) := rfl
set_option maxRecDepth 100000 in
theorem b5_0 (o : AR) (K : KT) (n : Nat) (S : SD) (a1 : Int) : run o K false mi_5 (n + 1) 0 [(0, vr (some (55, 0))), (1, vi a1)] [] S =
 run o K false mi_5 n 2 [(0, vr (some (55, 0))), (1, vi a1), (2, vi 0)] [] S := rfl
set_option maxRecDepth 100000 in
theorem b5_2 (o : AR) (K : KT) (n : Nat) (S : SD) (l1 : Int) (l2 : Int) : run o K false mi_5 (n + 1) 2 [(0, vr (some (55, 0))), (1, vi l1), (2, vi l2)] [] S =
 (if l2 < 20 then
  (if (ab o 0 (ab o 4 l1 l2) 1) = 1 then
   (bR (K 110 [vr (some (41, 0)), vi l2] S) 47 (fun S1 =>
    run o K false mi_5 n 2 [(0, vr (some (55, 0))), (1, vi l1), (2, vi (aw o (l2 + 1)))] [] S1)
   (fun j2 S1 =>
    (bI (K 51 [vr (some (47, j2))] S1) (fun x4 S3 =>
     (if x4 < 0 then
      run o K false mi_5 n 2 [(0, vr (some (55, 0))), (1, vi l1), (2, vi (aw o (l2 + 1)))] [] S3
     else
      (if x4 < 120 then
       (if 0 ≤ x4 ∧ x4 < 120 then
        (if (gD S3 64 0 (x4.toNat)) = (-1) then
         (if (gD S3 55 0 8) < 32 then
          (if 0 ≤ x4 ∧ x4 < 120 then
           run o K false mi_5 n 2 [(0, vr (some (55, 0))), (1, vi l1), (2, vi (aw o (l2 + 1)))] [] (wD (wD S3 64 0 ((x4).toNat) (gD S3 55 0 8)) 55 0 8 (aw o ((gD (wD S3 64 0 ((x4).toNat) (gD S3 55 0 8)) 55 0 8) + 1)))
          else none)
         else
          run o K false mi_5 n 2 [(0, vr (some (55, 0))), (1, vi l1), (2, vi (aw o (l2 + 1)))] [] S3)
        else
         run o K false mi_5 n 2 [(0, vr (some (55, 0))), (1, vi l1), (2, vi (aw o (l2 + 1)))] [] S3)
       else none)
      else
       run o K false mi_5 n 2 [(0, vr (some (55, 0))), (1, vi l1), (2, vi (aw o (l2 + 1)))] [] S3))))))
  else
   run o K false mi_5 n 2 [(0, vr (some (55, 0))), (1, vi l1), (2, vi (aw o (l2 + 1)))] [] S)
 else
  some (vi 0, S)) := rfl
set_option maxRecDepth 100000 in
theorem b6_0 (o : AR) (K : KT) (n : Nat) (S : SD) : run o K false mi_6 (n + 1) 0 [(0, vr (some (55, 0)))] [] S =
 run o K false mi_6 n 2 [(0, vr (some (55, 0))), (1, vi 0)] [] S := rfl
set_option maxRecDepth 100000 in
theorem b6_2 (o : AR) (K : KT) (n : Nat) (S : SD) (l1 : Int) : run o K false mi_6 (n + 1) 2 [(0, vr (some (55, 0))), (1, vi l1)] [] S =
 (if l1 < (gD S 55 0 8) then
  (if l1 < 32 then
   (bI (K 90 [vr (some (62, 0)), vi l1] S) (fun x2 S1 =>
    (if 0 ≤ l1 ∧ l1 < 32 then
     run o K false mi_6 n 2 [(0, vr (some (55, 0))), (1, vi (aw o (l1 + 1)))] [] (wD S1 56 0 ((l1).toNat) x2)
    else none)))
  else
   some (vi 0, S))
 else
  some (vi 0, S)) := rfl
set_option maxRecDepth 100000 in
theorem b7_0 (o : AR) (K : KT) (n : Nat) (S : SD) : run o K false mi_7 (n + 1) 0 [(0, vr (some (55, 0)))] [] S =
 (bV (K 3 [vr (some (55, 0))] S) (fun S1 =>
  run o K false mi_7 n 6 [(0, vr (some (55, 0))), (1, vi 0)] [] S1)) := rfl
set_option maxRecDepth 100000 in
theorem b7_6 (o : AR) (K : KT) (n : Nat) (S : SD) (l1 : Int) : run o K false mi_7 (n + 1) 6 [(0, vr (some (55, 0))), (1, vi l1)] [] S =
 (if l1 < (gD S 62 0 7) then
  (if l1 < 12 then
   (if 0 ≤ l1 ∧ l1 < 12 then
    (if 0 ≤ l1 ∧ l1 < 12 then
     (bI (K 90 [vr (some (62, 0)), vi l1] (wD S 59 0 ((l1).toNat) (gD S 63 0 (l1.toNat)))) (fun x2 S1 =>
      (if 0 ≤ l1 ∧ l1 < 12 then
       run o K false mi_7 n 6 [(0, vr (some (55, 0))), (1, vi (aw o (l1 + 1)))] [] (wD (wD S1 60 0 ((l1).toNat) x2) 55 0 9 (aw o ((gD (wD S1 60 0 ((l1).toNat) x2) 55 0 9) + 1)))
      else none)))
    else none)
   else none)
  else
   some (vi 0, S))
 else
  some (vi 0, S)) := rfl
set_option maxRecDepth 100000 in
theorem b8_0 (o : AR) (K : KT) (n : Nat) (S : SD) (a1 : Int) : run o K false mi_8 (n + 1) 0 [(0, vr (some (55, 0))), (1, vi a1)] [] S =
 (if a1 < 0 then
  some (vi (-1), S)
 else
  (if a1 < 120 then
   (if 0 ≤ a1 ∧ a1 < 120 then
    (if (gD S 64 0 (a1.toNat)) < 32 then
     some (vi (gD S 64 0 (a1.toNat)), S)
    else
     some (vi (-1), S))
   else none)
  else
   some (vi (-1), S))) := rfl
set_option maxRecDepth 100000 in
theorem b9_0 (o : AR) (K : KT) (n : Nat) (S : SD) (j1 : Nat) : run o K false mi_9 (n + 1) 0 [(0, vr (some (55, 0))), (1, vr (some (47, j1)))] [] S =
 run o K false mi_9 n 4 [(0, vr (some (55, 0))), (1, vr (some (47, j1))), (2, vi 0), (3, vi 0)] [] S := rfl
set_option maxRecDepth 100000 in
theorem b9_4 (o : AR) (K : KT) (n : Nat) (S : SD) (j1 : Nat) (l2 : Int) (l3 : Int) : run o K false mi_9 (n + 1) 4 [(0, vr (some (55, 0))), (1, vr (some (47, j1))), (2, vi l2), (3, vi l3)] [] S =
 (if l3 < (gD S 47 j1 7) then
  (if l3 < 16 then
   (bI (K 50 [vr (some (47, j1)), vi l3] S) (fun x2 S1 =>
    (bI (K 8 [vr (some (55, 0)), vi x2] S1) (fun x4 S3 =>
     (if x4 < 0 then
      run o K false mi_9 n 4 [(0, vr (some (55, 0))), (1, vr (some (47, j1))), (2, vi l2), (3, vi (aw o (l3 + 1)))] [] S3
     else
      (if 0 ≤ x4 ∧ x4 < 32 then
       (bI (K 54 [vr (some (47, j1)), vi l3, vi (gD S3 56 0 (x4.toNat))] S3) (fun x6 S5 =>
        (if x6 = 0 then
         run o K false mi_9 n 4 [(0, vr (some (55, 0))), (1, vr (some (47, j1))), (2, vi l2), (3, vi (aw o (l3 + 1)))] [] S5
        else
         run o K false mi_9 n 4 [(0, vr (some (55, 0))), (1, vr (some (47, j1))), (2, vi (ab o 1 l2 (ab o 3 1 l3))), (3, vi (aw o (l3 + 1)))] [] S5)))
      else none))))))
  else
   (bI (K 55 [vr (some (47, j1)), vi 1, vi l2] S) (fun x8 S7 =>
    (if x8 = 0 then
     some (vi 0, S7)
    else
     (bI (K 48 [vr (some (47, j1))] S7) (fun x10 S9 =>
      (if x10 = 0 then
       some (vi 1, S9)
      else
       (bI (K 55 [vr (some (47, j1)), vi 0, vi l2] S9) (fun x12 S11 =>
        (if x12 = 0 then
         some (vi 1, S11)
        else
         some (vi 0, S11)))))))))))
 else
  (bI (K 55 [vr (some (47, j1)), vi 1, vi l2] S) (fun x14 S13 =>
   (if x14 = 0 then
    some (vi 0, S13)
   else
    (bI (K 48 [vr (some (47, j1))] S13) (fun x16 S15 =>
     (if x16 = 0 then
      some (vi 1, S15)
     else
      (bI (K 55 [vr (some (47, j1)), vi 0, vi l2] S15) (fun x18 S17 =>
       (if x18 = 0 then
        some (vi 1, S17)
       else
        some (vi 0, S17))))))))))) := rfl
set_option maxRecDepth 100000 in
theorem b10_0 (o : AR) (K : KT) (n : Nat) (S : SD) (a1 : Int) : run o K false mi_10 (n + 1) 0 [(0, vr (some (55, 0))), (1, vi a1)] [] S =
 run o K false mi_10 n 2 [(0, vr (some (55, 0))), (1, vi a1), (2, vi 0)] [] S := rfl
set_option maxRecDepth 100000 in
theorem b10_2 (o : AR) (K : KT) (n : Nat) (S : SD) (l1 : Int) (l2 : Int) : run o K false mi_10 (n + 1) 2 [(0, vr (some (55, 0))), (1, vi l1), (2, vi l2)] [] S =
 (if l2 < 20 then
  (if (ab o 0 (ab o 4 l1 l2) 1) = 1 then
   (bR (K 110 [vr (some (41, 0)), vi l2] S) 47 (fun S1 =>
    run o K false mi_10 n 2 [(0, vr (some (55, 0))), (1, vi l1), (2, vi (aw o (l2 + 1)))] [] S1)
   (fun j2 S1 =>
    (bI (K 51 [vr (some (47, j2))] S1) (fun x4 S3 =>
     (bI (K 8 [vr (some (55, 0)), vi x4] S3) (fun x6 S5 =>
      (if x6 < 0 then
       run o K false mi_10 n 2 [(0, vr (some (55, 0))), (1, vi l1), (2, vi (aw o (l2 + 1)))] [] S5
      else
       (if 0 ≤ x6 ∧ x6 < 32 then
        (if (gD S5 56 0 (x6.toNat)) = (gD S5 47 j2 14) then
         run o K false mi_10 n 2 [(0, vr (some (55, 0))), (1, vi l1), (2, vi (aw o (l2 + 1)))] [] S5
        else
         (bI (K 9 [vr (some (55, 0)), vr (some (47, j2))] S5) (fun x8 S7 =>
          (if x8 = 0 then
           run o K false mi_10 n 2 [(0, vr (some (55, 0))), (1, vi l1), (2, vi (aw o (l2 + 1)))] [] S7
          else
           some (vi l2, S7)))))
       else none))))))))
  else
   run o K false mi_10 n 2 [(0, vr (some (55, 0))), (1, vi l1), (2, vi (aw o (l2 + 1)))] [] S)
 else
  some (vi (-1), S)) := rfl
set_option maxRecDepth 100000 in
theorem b11_0 (o : AR) (K : KT) (n : Nat) (S : SD) (a1 : Int) : run o K false mi_11 (n + 1) 0 [(0, vr (some (55, 0))), (1, vi a1)] [] S =
 run o K false mi_11 n 2 [(0, vr (some (55, 0))), (1, vi a1), (2, vi 0)] [] S := rfl
set_option maxRecDepth 100000 in
theorem b11_2 (o : AR) (K : KT) (n : Nat) (S : SD) (l1 : Int) (l2 : Int) : run o K false mi_11 (n + 1) 2 [(0, vr (some (55, 0))), (1, vi l1), (2, vi l2)] [] S =
 (if 200 < l2 then
  some (vi (-2), S)
 else
  (bI (K 12 [vr (some (55, 0)), vi l2] S) (fun x2 S1 =>
   (if x2 = (-1) then
    (bI (K 10 [vr (some (55, 0)), vi l1] S1) (fun x4 S3 =>
     (bR (K 110 [vr (some (41, 0)), vi x4] S3) 47 (fun S5 =>
      some (vi (-1), S5))
     (fun j6 S5 =>
      (bI (K 51 [vr (some (47, j6))] S5) (fun x8 S7 =>
       (bI (K 8 [vr (some (55, 0)), vi x8] S7) (fun x10 S9 =>
        (if x10 < 0 then
         some (vi (-1), S9)
        else
         (if l2 = 200 then
          some (vi (-2), S9)
         else
          (if 0 ≤ (aw o (l2 * 32)) ∧ (aw o (l2 * 32)) + 32 ≤ 6432 then
           (if 0 ≤ l2 ∧ l2 < 200 then
            (if 0 ≤ x10 ∧ x10 < 32 then
             run o K false mi_11 n 2 [(0, vr (some (55, 0))), (1, vi l1), (2, vi (aw o (l2 + 1)))] [] (wD (wD (wC S9 57 0 (((aw o (l2 * 32)) : Int).toNat) ((32 : Int).toNat) 56 0 ((0 : Int).toNat)) 58 0 ((l2).toNat) x4) 56 0 ((x10).toNat) (gD (wD (wC S9 57 0 (((aw o (l2 * 32)) : Int).toNat) ((32 : Int).toNat) 56 0 ((0 : Int).toNat)) 58 0 ((l2).toNat) x4) 47 j6 14))
            else none)
           else none)
          else none)))))))))))
   else
    (bV (K 13 [vr (some (55, 0)), vi x2, vi l2] S1) (fun S11 =>
     some (vi x2, S11))))))) := rfl
set_option maxRecDepth 100000 in
theorem b12_0 (o : AR) (K : KT) (n : Nat) (S : SD) (a1 : Int) : run o K false mi_12 (n + 1) 0 [(0, vr (some (55, 0))), (1, vi a1)] [] S =
 run o K false mi_12 n 2 [(0, vr (some (55, 0))), (1, vi a1), (2, vi 0)] [] S := rfl
set_option maxRecDepth 100000 in
theorem b12_2 (o : AR) (K : KT) (n : Nat) (S : SD) (l1 : Int) (l2 : Int) : run o K false mi_12 (n + 1) 2 [(0, vr (some (55, 0))), (1, vi l1), (2, vi l2)] [] S =
 (if l2 < l1 then
  (if 200 < l2 then
   some (vi (-1), S)
  else
   run o K false mi_12 n 16 [(0, vr (some (55, 0))), (1, vi l1), (2, vi l2), (3, vi 0)] [] S)
 else
  some (vi (-1), S)) := rfl
set_option maxRecDepth 100000 in
theorem b12_16 (o : AR) (K : KT) (n : Nat) (S : SD) (l1 : Int) (l2 : Int) (l3 : Int) : run o K false mi_12 (n + 1) 16 [(0, vr (some (55, 0))), (1, vi l1), (2, vi l2), (3, vi l3)] [] S =
 (if l3 < (gD S 55 0 8) then
  (if l3 < 32 then
   (if 0 ≤ (aw o ((aw o (l2 * 32)) + l3)) ∧ (aw o ((aw o (l2 * 32)) + l3)) < 6432 then
    (if 0 ≤ l3 ∧ l3 < 32 then
     (if (gD S 57 0 ((aw o ((aw o (l2 * 32)) + l3)).toNat)) = (gD S 56 0 (l3.toNat)) then
      run o K false mi_12 n 16 [(0, vr (some (55, 0))), (1, vi l1), (2, vi l2), (3, vi (aw o (l3 + 1)))] [] S
     else
      (if l3 = (gD S 55 0 8) then
       some (vi l2, S)
      else
       run o K false mi_12 n 2 [(0, vr (some (55, 0))), (1, vi l1), (2, vi (aw o (l2 + 1)))] [] S))
    else none)
   else none)
  else
   (if l3 = (gD S 55 0 8) then
    some (vi l2, S)
   else
    run o K false mi_12 n 2 [(0, vr (some (55, 0))), (1, vi l1), (2, vi (aw o (l2 + 1)))] [] S))
 else
  (if l3 = (gD S 55 0 8) then
   some (vi l2, S)
  else
   run o K false mi_12 n 2 [(0, vr (some (55, 0))), (1, vi l1), (2, vi (aw o (l2 + 1)))] [] S)) := rfl
set_option maxRecDepth 100000 in
theorem b13_0 (o : AR) (K : KT) (n : Nat) (S : SD) (a1 : Int) (a2 : Int) : run o K false mi_13 (n + 1) 0 [(0, vr (some (55, 0))), (1, vi a1), (2, vi a2)] [] S =
 (bV (K 7 [vr (some (55, 0))] S) (fun S1 =>
  run o K false mi_13 n 6 [(0, vr (some (55, 0))), (2, vi a2), (3, vi a1)] [] S1)) := rfl
set_option maxRecDepth 100000 in
theorem b13_6 (o : AR) (K : KT) (n : Nat) (S : SD) (l2 : Int) (l3 : Int) : run o K false mi_13 (n + 1) 6 [(0, vr (some (55, 0))), (2, vi l2), (3, vi l3)] [] S =
 (if l3 < 0 then
  some (vi 0, S)
 else
  (if l3 < l2 then
   (if l3 < 200 then
    (if 0 ≤ l3 ∧ l3 < 200 then
     (if 0 ≤ (gD S 55 0 10) ∧ (gD S 55 0 10) < 200 then
      run o K false mi_13 n 6 [(0, vr (some (55, 0))), (2, vi l2), (3, vi (aw o (l3 + 1)))] [] (wD (wD S 61 0 (((gD S 55 0 10)).toNat) (gD S 58 0 (l3.toNat))) 55 0 10 (aw o ((gD (wD S 61 0 (((gD S 55 0 10)).toNat) (gD S 58 0 (l3.toNat))) 55 0 10) + 1)))
     else none)
    else none)
   else
    some (vi 0, S))
  else
   some (vi 0, S))) := rfl
set_option maxRecDepth 100000 in
theorem b14_0 (o : AR) (K : KT) (n : Nat) (S : SD) (a1 : Int) (a2 : Int) : run o K false mi_14 (n + 1) 0 [(0, vr (some (55, 0))), (1, vi a1), (2, vi a2)] [] S =
 (if a2 = 3 then
  (if a1 < 0 then
   some (vi (-1000000), S)
  else
   (if a1 < (gD S 55 0 10) then
    (if a1 < 200 then
     (if 0 ≤ a1 ∧ a1 < 200 then
      some (vi (gD S 61 0 (a1.toNat)), S)
     else none)
    else
     some (vi (-1000000), S))
   else
    some (vi (-1000000), S)))
 else
  (if a1 < 0 then
   some (vi (-1000000), S)
  else
   (if a1 < (gD S 55 0 9) then
    (if a1 < 12 then
     (if a2 = 0 then
      (if 0 ≤ a1 ∧ a1 < 12 then
       some (vi (aw o (ab o 12 (gD S 59 0 (a1.toNat)) 3)), S)
      else none)
     else (if a2 = 1 then
      (if 0 ≤ a1 ∧ a1 < 12 then
       some (vi (aw o ((gD S 59 0 (a1.toNat)) - ab o 12 (gD S 59 0 (a1.toNat)) 3 * 3)), S)
      else none)
     else (if a2 = 2 then
      (if 0 ≤ a1 ∧ a1 < 12 then
       some (vi (gD S 60 0 (a1.toNat)), S)
      else none)
     else 
      some (vi (-1000000), S))))
    else
     some (vi (-1000000), S))
   else
    some (vi (-1000000), S)))) := rfl
