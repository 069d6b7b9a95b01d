set_option maxRecDepth 100000 in
theorem b120_0 (o : AR) (K : KT) (n : Nat) (S : SD) (a1 : Int) (a2 : Int) (a3 : Int) : run o K false mi_120 (n + 1) 0 [(0, vr (some (31, 0))), (1, vi a1), (2, vi a2), (3, vi a3)] [] S =
 (bI (K 189 [vi a1, vi 0, vi 7] S) (fun x2 S1 =>
  (if x2 = 0 then
   some (vi (-1), S1)
  else
   (bI (K 189 [vi a2, vi 0, vi 7] S1) (fun x4 S3 =>
    (if x4 = 0 then
     some (vi (-1), S3)
    else
     (bI (K 189 [vi a3, vi 0, vi 9] S3) (fun x6 S5 =>
      (if x6 = 0 then
       some (vi (-1), S5)
      else
       (if 0 ≤ (aw o ((aw o (a1 * 8)) + a2)) ∧ (aw o ((aw o (a1 * 8)) + a2)) < 64 then
        (if 0 ≤ (aw o ((aw o (a1 * 8)) + a2)) ∧ (aw o ((aw o (a1 * 8)) + a2)) < 64 then
         some (vi (gD S5 32 0 ((aw o ((aw o (a1 * 8)) + a2)).toNat)), wD S5 32 0 (((aw o ((aw o (a1 * 8)) + a2))).toNat) a3)
        else none)
       else none)))))))))) := rfl
set_option maxRecDepth 100000 in
theorem b121_0 (o : AR) (K : KT) (n : Nat) (S : SD) (a0 : Int) (a1 : Int) : run o K false mi_121 (n + 1) 0 [(0, vi a0), (1, vi a1)] [] S =
 (bI (K 189 [vi a0, vi 0, vi 7] S) (fun x2 S1 =>
  (if x2 = 0 then
   some (vi (-1), S1)
  else
   (bI (K 189 [vi a1, vi 0, vi 119] S1) (fun x4 S3 =>
    (if x4 = 0 then
     some (vi (-1), S3)
    else
     some (vi (aw o ((aw o (a0 * 120)) + a1)), S3))))))) := rfl
set_option maxRecDepth 100000 in
theorem b122_0 (o : AR) (K : KT) (n : Nat) (S : SD) (a1 : Int) (a2 : Int) (a3 : Int) : run o K false mi_122 (n + 1) 0 [(0, vr (some (31, 0))), (1, vi a1), (2, vi a2), (3, vi a3)] [] S =
 (bI (K 121 [vi a1, vi a2] S) (fun x2 S1 =>
  (if x2 = (-1) then
   some (vi 0, S1)
  else
   (if 0 ≤ x2 ∧ x2 < 960 then
    (if 0 ≤ x2 ∧ x2 < 960 then
     some (vi 0, wD (wD (wD S1 31 0 3 (aw o ((gD S1 31 0 3) + 1))) 33 0 ((x2).toNat) a3) 34 0 ((x2).toNat) (gD (wD (wD S1 31 0 3 (aw o ((gD S1 31 0 3) + 1))) 33 0 ((x2).toNat) a3) 31 0 3))
    else none)
   else none)))) := rfl
set_option maxRecDepth 100000 in
theorem b123_0 (o : AR) (K : KT) (n : Nat) (S : SD) (a1 : Int) (a2 : Int) : run o K false mi_123 (n + 1) 0 [(0, vr (some (31, 0))), (1, vi a1), (2, vi a2)] [] S =
 (bI (K 121 [vi a1, vi a2] S) (fun x2 S1 =>
  (if x2 = (-1) then
   some (vi 0, S1)
  else
   (if 0 ≤ x2 ∧ x2 < 960 then
    (if (gD S1 34 0 (x2.toNat)) = 0 then
     some (vi 0, S1)
    else
     (if 0 ≤ x2 ∧ x2 < 960 then
      some (vi 1, wD S1 34 0 ((x2).toNat) 0)
     else none))
   else none)))) := rfl
set_option maxRecDepth 100000 in
theorem b124_0 (o : AR) (K : KT) (n : Nat) (S : SD) (a1 : Int) (a2 : Int) : run o K false mi_124 (n + 1) 0 [(0, vr (some (31, 0))), (1, vi a1), (2, vi a2)] [] S =
 (bI (K 121 [vi a1, vi a2] S) (fun x2 S1 =>
  (if x2 = (-1) then
   some (vi (-1000000), S1)
  else
   (if 0 ≤ x2 ∧ x2 < 960 then
    some (vi (gD S1 33 0 (x2.toNat)), S1)
   else none)))) := rfl
set_option maxRecDepth 100000 in
theorem b125_0 (o : AR) (K : KT) (n : Nat) (S : SD) (a1 : Int) (a2 : Int) : run o K false mi_125 (n + 1) 0 [(0, vr (some (31, 0))), (1, vi a1), (2, vi a2)] [] S =
 run o K false mi_125 n 11 [(0, vr (some (31, 0))), (1, vi a1), (2, vi a2), (3, vi (-1)), (4, vi 0), (5, vi 0), (6, vi 0)] [] S := rfl
set_option maxRecDepth 100000 in
theorem b125_11 (o : AR) (K : KT) (n : Nat) (S : SD) (l1 : Int) (l2 : Int) (l3 : Int) (l4 : Int) (l5 : Int) (l6 : Int) : run o K false mi_125 (n + 1) 11 [(0, vr (some (31, 0))), (1, vi l1), (2, vi l2), (3, vi l3), (4, vi l4), (5, vi l5), (6, vi l6)] [] S =
 (if l6 < 8 then
  (bI (K 121 [vi l6, vi l1] S) (fun x2 S1 =>
   (if x2 = (-1) then
    (bI (K 189 [vi l2, vi 0, vi 7] S1) (fun x4 S3 =>
     (if x4 = 0 then
      (if l4 < 0 then
       run o K false mi_125 n 11 [(0, vr (some (31, 0))), (1, vi l1), (2, vi l2), (3, vi l3), (4, vi l4), (5, vi l5), (6, vi (aw o (l6 + 1)))] [] S3
      else
       (if 0 = l4 then
        (if l5 < 0 then
         run o K false mi_125 n 11 [(0, vr (some (31, 0))), (1, vi l1), (2, vi l2), (3, vi l3), (4, vi l4), (5, vi l5), (6, vi (aw o (l6 + 1)))] [] S3
        else
         run o K false mi_125 n 11 [(0, vr (some (31, 0))), (1, vi l1), (2, vi l2), (3, vi l3), (4, vi l4), (5, vi l5), (6, vi (aw o (l6 + 1)))] [] S3)
       else
        run o K false mi_125 n 11 [(0, vr (some (31, 0))), (1, vi l1), (2, vi l2), (3, vi l3), (4, vi l4), (5, vi l5), (6, vi (aw o (l6 + 1)))] [] S3))
     else
      (if 0 ≤ (aw o ((aw o (l6 * 8)) + l2)) ∧ (aw o ((aw o (l6 * 8)) + l2)) < 64 then
       (if l4 < (gD S3 32 0 ((aw o ((aw o (l6 * 8)) + l2)).toNat)) then
        run o K false mi_125 n 11 [(0, vr (some (31, 0))), (1, vi l1), (2, vi l2), (3, vi l3), (4, vi l4), (5, vi l5), (6, vi (aw o (l6 + 1)))] [] S3
       else
        (if (gD S3 32 0 ((aw o ((aw o (l6 * 8)) + l2)).toNat)) = l4 then
         (if l5 < 0 then
          run o K false mi_125 n 11 [(0, vr (some (31, 0))), (1, vi l1), (2, vi l2), (3, vi l3), (4, vi l4), (5, vi l5), (6, vi (aw o (l6 + 1)))] [] S3
         else
          run o K false mi_125 n 11 [(0, vr (some (31, 0))), (1, vi l1), (2, vi l2), (3, vi l3), (4, vi l4), (5, vi l5), (6, vi (aw o (l6 + 1)))] [] S3)
        else
         run o K false mi_125 n 11 [(0, vr (some (31, 0))), (1, vi l1), (2, vi l2), (3, vi l3), (4, vi l4), (5, vi l5), (6, vi (aw o (l6 + 1)))] [] S3))
      else none))))
   else
    (if 0 ≤ x2 ∧ x2 < 960 then
     (bI (K 189 [vi l2, vi 0, vi 7] S1) (fun x6 S5 =>
      (if x6 = 0 then
       (if l4 < 0 then
        (if 0 < (gD S1 34 0 (x2.toNat)) then
         run o K false mi_125 n 11 [(0, vr (some (31, 0))), (1, vi l1), (2, vi l2), (3, vi l3), (4, vi l4), (5, vi l5), (6, vi (aw o (l6 + 1)))] [] S5
        else
         run o K false mi_125 n 11 [(0, vr (some (31, 0))), (1, vi l1), (2, vi l2), (3, vi l3), (4, vi l4), (5, vi l5), (6, vi (aw o (l6 + 1)))] [] S5)
       else
        (if 0 = l4 then
         (if l5 < (gD S1 34 0 (x2.toNat)) then
          (if 0 < (gD S1 34 0 (x2.toNat)) then
           run o K false mi_125 n 11 [(0, vr (some (31, 0))), (1, vi l1), (2, vi l2), (3, vi l3), (4, vi l4), (5, vi l5), (6, vi (aw o (l6 + 1)))] [] S5
          else
           run o K false mi_125 n 11 [(0, vr (some (31, 0))), (1, vi l1), (2, vi l2), (3, vi l3), (4, vi l4), (5, vi l5), (6, vi (aw o (l6 + 1)))] [] S5)
         else
          (if 0 < (gD S1 34 0 (x2.toNat)) then
           run o K false mi_125 n 11 [(0, vr (some (31, 0))), (1, vi l1), (2, vi l2), (3, vi l3), (4, vi l4), (5, vi l5), (6, vi (aw o (l6 + 1)))] [] S5
          else
           run o K false mi_125 n 11 [(0, vr (some (31, 0))), (1, vi l1), (2, vi l2), (3, vi l3), (4, vi l4), (5, vi l5), (6, vi (aw o (l6 + 1)))] [] S5))
        else
         (if 0 < (gD S1 34 0 (x2.toNat)) then
          run o K false mi_125 n 11 [(0, vr (some (31, 0))), (1, vi l1), (2, vi l2), (3, vi l3), (4, vi l4), (5, vi l5), (6, vi (aw o (l6 + 1)))] [] S5
         else
          run o K false mi_125 n 11 [(0, vr (some (31, 0))), (1, vi l1), (2, vi l2), (3, vi l3), (4, vi l4), (5, vi l5), (6, vi (aw o (l6 + 1)))] [] S5)))
      else
       (if 0 ≤ (aw o ((aw o (l6 * 8)) + l2)) ∧ (aw o ((aw o (l6 * 8)) + l2)) < 64 then
        (if l4 < (gD S5 32 0 ((aw o ((aw o (l6 * 8)) + l2)).toNat)) then
         (if 0 < (gD S1 34 0 (x2.toNat)) then
          (if 0 < (gD S5 32 0 ((aw o ((aw o (l6 * 8)) + l2)).toNat)) then
           run o K false mi_125 n 11 [(0, vr (some (31, 0))), (1, vi l1), (2, vi l2), (3, vi l6), (4, vi (gD S5 32 0 ((aw o ((aw o (l6 * 8)) + l2)).toNat))), (5, vi (gD S1 34 0 (x2.toNat))), (6, vi (aw o (l6 + 1)))] [] S5
          else
           run o K false mi_125 n 11 [(0, vr (some (31, 0))), (1, vi l1), (2, vi l2), (3, vi l3), (4, vi l4), (5, vi l5), (6, vi (aw o (l6 + 1)))] [] S5)
         else
          run o K false mi_125 n 11 [(0, vr (some (31, 0))), (1, vi l1), (2, vi l2), (3, vi l3), (4, vi l4), (5, vi l5), (6, vi (aw o (l6 + 1)))] [] S5)
        else
         (if (gD S5 32 0 ((aw o ((aw o (l6 * 8)) + l2)).toNat)) = l4 then
          (if l5 < (gD S1 34 0 (x2.toNat)) then
           (if 0 < (gD S1 34 0 (x2.toNat)) then
            (if 0 < (gD S5 32 0 ((aw o ((aw o (l6 * 8)) + l2)).toNat)) then
             run o K false mi_125 n 11 [(0, vr (some (31, 0))), (1, vi l1), (2, vi l2), (3, vi l6), (4, vi (gD S5 32 0 ((aw o ((aw o (l6 * 8)) + l2)).toNat))), (5, vi (gD S1 34 0 (x2.toNat))), (6, vi (aw o (l6 + 1)))] [] S5
            else
             run o K false mi_125 n 11 [(0, vr (some (31, 0))), (1, vi l1), (2, vi l2), (3, vi l3), (4, vi l4), (5, vi l5), (6, vi (aw o (l6 + 1)))] [] S5)
           else
            run o K false mi_125 n 11 [(0, vr (some (31, 0))), (1, vi l1), (2, vi l2), (3, vi l3), (4, vi l4), (5, vi l5), (6, vi (aw o (l6 + 1)))] [] S5)
          else
           (if 0 < (gD S1 34 0 (x2.toNat)) then
            (if 0 < (gD S5 32 0 ((aw o ((aw o (l6 * 8)) + l2)).toNat)) then
             run o K false mi_125 n 11 [(0, vr (some (31, 0))), (1, vi l1), (2, vi l2), (3, vi l3), (4, vi l4), (5, vi l5), (6, vi (aw o (l6 + 1)))] [] S5
            else
             run o K false mi_125 n 11 [(0, vr (some (31, 0))), (1, vi l1), (2, vi l2), (3, vi l3), (4, vi l4), (5, vi l5), (6, vi (aw o (l6 + 1)))] [] S5)
           else
            run o K false mi_125 n 11 [(0, vr (some (31, 0))), (1, vi l1), (2, vi l2), (3, vi l3), (4, vi l4), (5, vi l5), (6, vi (aw o (l6 + 1)))] [] S5))
         else
          (if 0 < (gD S1 34 0 (x2.toNat)) then
           (if 0 < (gD S5 32 0 ((aw o ((aw o (l6 * 8)) + l2)).toNat)) then
            run o K false mi_125 n 11 [(0, vr (some (31, 0))), (1, vi l1), (2, vi l2), (3, vi l3), (4, vi l4), (5, vi l5), (6, vi (aw o (l6 + 1)))] [] S5
           else
            run o K false mi_125 n 11 [(0, vr (some (31, 0))), (1, vi l1), (2, vi l2), (3, vi l3), (4, vi l4), (5, vi l5), (6, vi (aw o (l6 + 1)))] [] S5)
          else
           run o K false mi_125 n 11 [(0, vr (some (31, 0))), (1, vi l1), (2, vi l2), (3, vi l3), (4, vi l4), (5, vi l5), (6, vi (aw o (l6 + 1)))] [] S5)))
       else none))))
    else none))))
 else
  some (vi l3, S)) := rfl
