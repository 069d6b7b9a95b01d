set_option maxRecDepth 100000 in
theorem b23_0 (o : AR) (K : KT) (n : Nat) (S : SD) (a0 : Int) : run o K false mi_23 (n + 1) 0 [(0, vi a0)] [] S =
 (bI (K 189 [vi a0, vi 0, vi 7] S) (fun x2 S1 =>
  (if x2 = 0 ∨ x2 = 1 then some (vi x2, S1) else none))) := rfl
set_option maxRecDepth 100000 in
theorem b24_0 (o : AR) (K : KT) (n : Nat) (S : SD) (a1 : Int) (a2 : Int) : run o K false mi_24 (n + 1) 0 [(0, vr (some (75, 0))), (1, vi a1), (2, vi a2)] [] S =
 (bI (K 189 [vi a2, vi 0, vi 40] S) (fun x2 S1 =>
  (if x2 = 0 then
   some (vl 0, S1)
  else
   (bI (K 189 [vi a1, vi 0, vi a2] S1) (fun x4 S3 =>
    (if x4 = 0 then
     some (vl 0, S3)
    else
     (if 0 ≤ (aw o ((aw o (a2 * 41)) + a1)) ∧ (aw o ((aw o (a2 * 41)) + a1)) < 1681 then
      some (vl (gD S3 84 0 ((aw o ((aw o (a2 * 41)) + a1)).toNat)), S3)
     else none))))))) := rfl
set_option maxRecDepth 100000 in
theorem b25_0 (o : AR) (K : KT) (n : Nat) (S : SD) (a1 : Int) (a2 : Int) : run o K false mi_25 (n + 1) 0 [(0, vr (some (75, 0))), (1, vi a1), (2, vi a2)] [] S =
 (bI (K 23 [vi a2] S) (fun x2 S1 =>
  (if x2 = 0 then
   some (vi 0, S1)
  else
   (bI (K 189 [vi a1, vi 0, vi 39] S1) (fun x4 S3 =>
    (if x4 = 0 then
     some (vi 0, S3)
    else
     (if 0 ≤ a1 ∧ a1 < 40 then
      (if (gD S3 76 0 (a1.toNat)) = (-1) then
       (if 0 ≤ a2 ∧ a2 < 8 then
        (if (gD S3 80 0 (a2.toNat)) = 0 then
         (if 0 ≤ a1 ∧ a1 < 40 then
          some (vi 1, wD S3 76 0 ((a1).toNat) a2)
         else none)
        else
         some (vi 0, S3))
       else none)
      else
       some (vi 0, S3))
     else none))))))) := rfl
set_option maxRecDepth 100000 in
theorem b26_0 (o : AR) (K : KT) (n : Nat) (S : SD) (a1 : Int) (a2 : Int) (a3 : Int) : run o K false mi_26 (n + 1) 0 [(0, vr (some (75, 0))), (1, vi a1), (2, vi a2), (3, vi a3)] [] S =
 (bI (K 23 [vi a1] S) (fun x2 S1 =>
  (if x2 = 0 then
   some (vi 0, S1)
  else
   (bI (K 189 [vi a3, vi 1, vi 1000] S1) (fun x4 S3 =>
    (if x4 = 0 then
     some (vi 0, S3)
    else
     (bI (K 189 [vi a2, vi 0, vi a3] S3) (fun x6 S5 =>
      (if x6 = 0 then
       some (vi 0, S5)
      else
       (if 0 ≤ a1 ∧ a1 < 8 then
        (if 0 ≤ a1 ∧ a1 < 8 then
         some (vi 1, wD (wD S5 82 0 ((a1).toNat) a2) 83 0 ((a1).toNat) a3)
        else none)
       else none)))))))))) := rfl
set_option maxRecDepth 100000 in
theorem b27_0 (o : AR) (K : KT) (n : Nat) (S : SD) (a1 : Int) : run o K false mi_27 (n + 1) 0 [(0, vr (some (75, 0))), (1, vi a1)] [] S =
 run o K false mi_27 n 2 [(0, vr (some (75, 0))), (1, vi a1), (2, vi 0)] [] S := rfl
set_option maxRecDepth 100000 in
theorem b27_2 (o : AR) (K : KT) (n : Nat) (S : SD) (l1 : Int) (l2 : Int) : run o K false mi_27 (n + 1) 2 [(0, vr (some (75, 0))), (1, vi l1), (2, vi l2)] [] S =
 (if l2 < 40 then
  (if 0 ≤ l2 ∧ l2 < 40 then
   (if (gD S 76 0 (l2.toNat)) = l1 then
    some (vi 1, S)
   else
    run o K false mi_27 n 2 [(0, vr (some (75, 0))), (1, vi l1), (2, vi (aw o (l2 + 1)))] [] S)
  else none)
 else
  some (vi 0, S)) := rfl
set_option maxRecDepth 100000 in
theorem b28_0 (o : AR) (K : KT) (n : Nat) (S : SD) (a1 : Int) (a2 : Int) : run o K false mi_28 (n + 1) 0 [(0, vr (some (75, 0))), (1, vi a1), (2, vi a2)] [] S =
 (bI (K 23 [vi a1] S) (fun x2 S1 =>
  (if x2 = 0 then
   some (vi 0, S1)
  else
   (bI (K 189 [vi a2, vi 1, vi 999] S1) (fun x4 S3 =>
    (if x4 = 0 then
     some (vi 0, S3)
    else
     (if 0 ≤ a1 ∧ a1 < 8 then
      (if (gD S3 80 0 (a1.toNat)) = 0 then
       (if 0 ≤ a1 ∧ a1 < 8 then
        (if (gD S3 81 0 (a1.toNat)) = 0 then
         (bI (K 27 [vr (some (75, 0)), vi a1] S3) (fun x6 S5 =>
          (if x6 = 0 then
           some (vi 0, S5)
          else
           run o K false mi_28 n 48 [(0, vr (some (75, 0))), (1, vi a1), (2, vi a2), (3, vi 0)] [] S5)))
        else
         some (vi 0, S3))
       else none)
      else
       some (vi 0, S3))
     else none))))))) := rfl
set_option maxRecDepth 100000 in
theorem b28_48 (o : AR) (K : KT) (n : Nat) (S : SD) (l1 : Int) (l2 : Int) (l3 : Int) : run o K false mi_28 (n + 1) 48 [(0, vr (some (75, 0))), (1, vi l1), (2, vi l2), (3, vi l3)] [] S =
 (if l3 < l1 then
  (bI (K 27 [vr (some (75, 0)), vi l3] S) (fun x2 S1 =>
   (if x2 = 0 then
    run o K false mi_28 n 48 [(0, vr (some (75, 0))), (1, vi l1), (2, vi l2), (3, vi (aw o (l3 + 1)))] [] S1
   else
    (if 0 ≤ l3 ∧ l3 < 8 then
     (if (gD S1 80 0 (l3.toNat)) = 0 then
      some (vi 0, S1)
     else
      (if 0 ≤ l3 ∧ l3 < 8 then
       (if (gD S1 81 0 (l3.toNat)) = 0 then
        (bI (K 31 [vr (some (75, 0)), vi l3] S1) (fun x4 S3 =>
         (if x4 = 0 then
          run o K false mi_28 n 48 [(0, vr (some (75, 0))), (1, vi l1), (2, vi l2), (3, vi (aw o (l3 + 1)))] [] S3
         else
          some (vi 0, S3))))
       else
        some (vi 0, S1))
      else none))
    else none))))
 else
  (if 0 ≤ l1 ∧ l1 < 8 then
   some (vi 1, wD S 80 0 ((l1).toNat) l2)
  else none)) := rfl
set_option maxRecDepth 100000 in
theorem b29_0 (o : AR) (K : KT) (n : Nat) (S : SD) (a1 : Int) (a2 : Int) : run o K false mi_29 (n + 1) 0 [(0, vr (some (75, 0))), (1, vi a1), (2, vi a2)] [] S =
 (bI (K 189 [vi a1, vi 0, vi 39] S) (fun x2 S1 =>
  (if x2 = 0 then
   (bI (K 23 [vi (-1)] S1) (fun x4 S3 =>
    (if x4 = 0 then
     some (vi 0, S3)
    else
     none)))
  else
   (if 0 ≤ a1 ∧ a1 < 40 then
    (bI (K 23 [vi (gD S1 76 0 (a1.toNat))] S1) (fun x6 S5 =>
     (if x6 = 0 then
      some (vi 0, S5)
     else
      (if 0 ≤ (gD S1 76 0 (a1.toNat)) ∧ (gD S1 76 0 (a1.toNat)) < 8 then
       (if (gD S5 80 0 ((gD S1 76 0 (a1.toNat)).toNat)) = 0 then
        some (vi 0, S5)
       else
        (if 0 ≤ a1 ∧ a1 < 40 then
         (if (gD S5 79 0 (a1.toNat)) = (-1) then
          (if a2 = 0 then
           (if 0 ≤ a1 ∧ a1 < 40 then
            (if a2 = 0 then
             some (vi 1, wD S5 79 0 ((a1).toNat) 0)
            else
             (if 0 ≤ a1 ∧ a1 < 40 then
              (if 0 ≤ a1 ∧ a1 < 40 then
               (if 0 ≤ (gD S1 76 0 (a1.toNat)) ∧ (gD S1 76 0 (a1.toNat)) < 8 then
                (if 0 ≤ a1 ∧ a1 < 40 then
                 some (vi 1, wD (wD (wD S5 79 0 ((a1).toNat) 0) 78 0 ((a1).toNat) (gD (wD S5 79 0 ((a1).toNat) 0) 77 0 (a1.toNat))) 77 0 ((a1).toNat) (gD (wD (wD S5 79 0 ((a1).toNat) 0) 78 0 ((a1).toNat) (gD (wD S5 79 0 ((a1).toNat) 0) 77 0 (a1.toNat))) 80 0 ((gD S1 76 0 (a1.toNat)).toNat)))
                else none)
               else none)
              else none)
             else none))
           else none)
          else
           (if 0 ≤ a1 ∧ a1 < 40 then
            (if a2 = 0 then
             some (vi 1, wD S5 79 0 ((a1).toNat) 1)
            else
             (if 0 ≤ a1 ∧ a1 < 40 then
              (if 0 ≤ a1 ∧ a1 < 40 then
               (if 0 ≤ (gD S1 76 0 (a1.toNat)) ∧ (gD S1 76 0 (a1.toNat)) < 8 then
                (if 0 ≤ a1 ∧ a1 < 40 then
                 some (vi 1, wD (wD (wD S5 79 0 ((a1).toNat) 1) 78 0 ((a1).toNat) (gD (wD S5 79 0 ((a1).toNat) 1) 77 0 (a1.toNat))) 77 0 ((a1).toNat) (gD (wD (wD S5 79 0 ((a1).toNat) 1) 78 0 ((a1).toNat) (gD (wD S5 79 0 ((a1).toNat) 1) 77 0 (a1.toNat))) 80 0 ((gD S1 76 0 (a1.toNat)).toNat)))
                else none)
               else none)
              else none)
             else none))
           else none))
         else
          some (vi 0, S5))
        else none))
      else none))))
   else none)))) := rfl
set_option maxRecDepth 100000 in
theorem b30_0 (o : AR) (K : KT) (n : Nat) (S : SD) (a1 : Int) (a2 : Int) : run o K false mi_30 (n + 1) 0 [(0, vr (some (75, 0))), (1, vi a1), (2, vi a2)] [] S =
 run o K false mi_30 n 5 [(0, vr (some (75, 0))), (1, vi a1), (2, vi a2), (3, vi 0), (4, vi 0)] [] S := rfl
set_option maxRecDepth 100000 in
theorem b30_5 (o : AR) (K : KT) (n : Nat) (S : SD) (l1 : Int) (l2 : Int) (l3 : Int) (l4 : Int) : run o K false mi_30 (n + 1) 5 [(0, vr (some (75, 0))), (1, vi l1), (2, vi l2), (3, vi l3), (4, vi l4)] [] S =
 (if l4 < 40 then
  (if l1 = (-1) then
   (if l2 = 0 then
    (if 0 ≤ l4 ∧ l4 < 40 then
     (if (gD S 79 0 (l4.toNat)) = (-1) then
      run o K false mi_30 n 5 [(0, vr (some (75, 0))), (1, vi l1), (2, vi l2), (3, vi (aw o (l3 + 0))), (4, vi (aw o (l4 + 1)))] [] S
     else
      run o K false mi_30 n 5 [(0, vr (some (75, 0))), (1, vi l1), (2, vi l2), (3, vi (aw o (l3 + 1))), (4, vi (aw o (l4 + 1)))] [] S)
    else none)
   else
    (if 0 ≤ l4 ∧ l4 < 40 then
     (if (gD S 79 0 (l4.toNat)) = 0 then
      run o K false mi_30 n 5 [(0, vr (some (75, 0))), (1, vi l1), (2, vi l2), (3, vi (aw o (l3 + 1))), (4, vi (aw o (l4 + 1)))] [] S
     else
      run o K false mi_30 n 5 [(0, vr (some (75, 0))), (1, vi l1), (2, vi l2), (3, vi (aw o (l3 + 0))), (4, vi (aw o (l4 + 1)))] [] S)
    else none))
  else
   (if 0 ≤ l4 ∧ l4 < 40 then
    (if (gD S 76 0 (l4.toNat)) = l1 then
     (if l2 = 0 then
      (if 0 ≤ l4 ∧ l4 < 40 then
       (if (gD S 79 0 (l4.toNat)) = (-1) then
        run o K false mi_30 n 5 [(0, vr (some (75, 0))), (1, vi l1), (2, vi l2), (3, vi (aw o (l3 + 0))), (4, vi (aw o (l4 + 1)))] [] S
       else
        run o K false mi_30 n 5 [(0, vr (some (75, 0))), (1, vi l1), (2, vi l2), (3, vi (aw o (l3 + 1))), (4, vi (aw o (l4 + 1)))] [] S)
      else none)
     else
      (if 0 ≤ l4 ∧ l4 < 40 then
       (if (gD S 79 0 (l4.toNat)) = 0 then
        run o K false mi_30 n 5 [(0, vr (some (75, 0))), (1, vi l1), (2, vi l2), (3, vi (aw o (l3 + 1))), (4, vi (aw o (l4 + 1)))] [] S
       else
        run o K false mi_30 n 5 [(0, vr (some (75, 0))), (1, vi l1), (2, vi l2), (3, vi (aw o (l3 + 0))), (4, vi (aw o (l4 + 1)))] [] S)
      else none))
    else
     (if l2 = 0 then
      (if 0 ≤ l4 ∧ l4 < 40 then
       (if (gD S 79 0 (l4.toNat)) = (-1) then
        run o K false mi_30 n 5 [(0, vr (some (75, 0))), (1, vi l1), (2, vi l2), (3, vi (aw o (l3 + 0))), (4, vi (aw o (l4 + 1)))] [] S
       else
        run o K false mi_30 n 5 [(0, vr (some (75, 0))), (1, vi l1), (2, vi l2), (3, vi (aw o (l3 + 0))), (4, vi (aw o (l4 + 1)))] [] S)
      else none)
     else
      (if 0 ≤ l4 ∧ l4 < 40 then
       (if (gD S 79 0 (l4.toNat)) = 0 then
        run o K false mi_30 n 5 [(0, vr (some (75, 0))), (1, vi l1), (2, vi l2), (3, vi (aw o (l3 + 0))), (4, vi (aw o (l4 + 1)))] [] S
       else
        run o K false mi_30 n 5 [(0, vr (some (75, 0))), (1, vi l1), (2, vi l2), (3, vi (aw o (l3 + 0))), (4, vi (aw o (l4 + 1)))] [] S)
      else none)))
   else none))
 else
  some (vi l3, S)) := rfl
set_option maxRecDepth 100000 in
theorem b31_0 (o : AR) (K : KT) (n : Nat) (S : SD) (a1 : Int) : run o K false mi_31 (n + 1) 0 [(0, vr (some (75, 0))), (1, vi a1)] [] S =
 (bI (K 30 [vr (some (75, 0)), vi a1, vi 0] S) (fun x2 S1 =>
  (bI (K 23 [vi a1] S1) (fun x4 S3 =>
   (if x4 = 0 then
    some (vi 0, S3)
   else
    (if x2 = 0 then
     some (vi 0, S3)
    else
     (bI (K 30 [vr (some (75, 0)), vi (-1), vi 0] S3) (fun x6 S5 =>
      (bI (K 30 [vr (some (75, 0)), vi (-1), vi 1] S5) (fun x8 S7 =>
       (bI (K 30 [vr (some (75, 0)), vi a1, vi 1] S7) (fun x10 S9 =>
        run o K false mi_31 n 46 [(0, vr (some (75, 0))), (1, vi a1), (2, vi x2), (3, vi x6), (4, vi x8), (5, vl 0), (7, vi x10)] [] S9)))))))))))) := rfl
set_option maxRecDepth 100000 in
theorem b31_46 (o : AR) (K : KT) (n : Nat) (S : SD) (l1 : Int) (l2 : Int) (l3 : Int) (l4 : Int) (l5 : Int) (l7 : Int) : run o K false mi_31 (n + 1) 46 [(0, vr (some (75, 0))), (1, vi l1), (2, vi l2), (3, vi l3), (4, vi l4), (5, vl l5), (7, vi l7)] [] S =
 (if l2 < l7 then
  (if 0 ≤ l1 ∧ l1 < 8 then
   (if 0 ≤ l1 ∧ l1 < 8 then
    (bL (K 24 [vr (some (75, 0)), vi l2, vi l3] S) (fun x2 S1 =>
     (if (ab o 9 (al o (l5 * (gD S 83 0 (l1.toNat)))) (al o ((gD S 82 0 (l1.toNat)) * x2))) < 0 then
      some (vi 1, S1)
     else
      some (vi 0, S1))))
   else none)
  else none)
 else
  (bL (K 24 [vr (some (75, 0)), vi l7, vi l4] S) (fun x4 S3 =>
   (bL (K 24 [vr (some (75, 0)), vi (aw o (l2 - l7)), vi (aw o (l3 - l4))] S3) (fun x6 S5 =>
    run o K false mi_31 n 46 [(0, vr (some (75, 0))), (1, vi l1), (2, vi l2), (3, vi l3), (4, vi l4), (5, vl (al o (l5 + (al o (x4 * x6))))), (7, vi (aw o (l7 + 1)))] [] S5))))) := rfl
set_option maxRecDepth 100000 in
theorem b32_0 (o : AR) (K : KT) (n : Nat) (S : SD) (a1 : Int) : run o K false mi_32 (n + 1) 0 [(0, vr (some (75, 0))), (1, vi a1)] [] S =
 (bI (K 23 [vi a1] S) (fun x2 S1 =>
  (if x2 = 0 then
   some (vi (-1), S1)
  else
   run o K false mi_32 n 13 [(0, vr (some (75, 0))), (2, vi 0), (3, vi a1)] [] S1))) := rfl
set_option maxRecDepth 100000 in
theorem b32_13 (o : AR) (K : KT) (n : Nat) (S : SD) (l2 : Int) (l3 : Int) : run o K false mi_32 (n + 1) 13 [(0, vr (some (75, 0))), (2, vi l2), (3, vi l3)] [] S =
 (if l3 < 8 then
  (if 0 ≤ l3 ∧ l3 < 8 then
   (if (gD S 81 0 (l3.toNat)) = 0 then
    (if 0 ≤ l3 ∧ l3 < 8 then
     run o K false mi_32 n 13 [(0, vr (some (75, 0))), (2, vi (aw o (l2 + 1))), (3, vi (aw o (l3 + 1)))] [] (wD S 81 0 ((l3).toNat) 1)
    else none)
   else
    (if 0 ≤ l3 ∧ l3 < 8 then
     run o K false mi_32 n 13 [(0, vr (some (75, 0))), (2, vi (aw o (l2 + 0))), (3, vi (aw o (l3 + 1)))] [] (wD S 81 0 ((l3).toNat) 1)
    else none))
  else none)
 else
  some (vi l2, S)) := rfl
set_option maxRecDepth 100000 in
theorem b33_0 (o : AR) (K : KT) (n : Nat) (S : SD) (a1 : Int) : run o K false mi_33 (n + 1) 0 [(0, vr (some (75, 0))), (1, vi a1)] [] S =
 (bI (K 23 [vi a1] S) (fun x2 S1 =>
  (if x2 = 0 then
   some (vi (-1), S1)
  else
   (if 0 ≤ a1 ∧ a1 < 8 then
    (if (gD S1 80 0 (a1.toNat)) = 0 then
     some (vi (-1), S1)
    else
     run o K false mi_33 n 22 [(0, vr (some (75, 0))), (1, vi a1), (2, vi 0), (3, vi 0)] [] S1)
   else none)))) := rfl
set_option maxRecDepth 100000 in
theorem b33_22 (o : AR) (K : KT) (n : Nat) (S : SD) (l1 : Int) (l2 : Int) (l3 : Int) : run o K false mi_33 (n + 1) 22 [(0, vr (some (75, 0))), (1, vi l1), (2, vi l2), (3, vi l3)] [] S =
 (if l3 < 40 then
  (if 0 ≤ l3 ∧ l3 < 40 then
   (if (gD S 76 0 (l3.toNat)) = l1 then
    (if 0 ≤ l3 ∧ l3 < 40 then
     (if (gD S 79 0 (l3.toNat)) = 1 then
      (if 0 ≤ l3 ∧ l3 < 40 then
       (if 0 ≤ l3 ∧ l3 < 40 then
        (if 0 ≤ l3 ∧ l3 < 40 then
         run o K false mi_33 n 22 [(0, vr (some (75, 0))), (1, vi l1), (2, vi (aw o (l2 + 1))), (3, vi (aw o (l3 + 1)))] [] (wD (wD S 77 0 ((l3).toNat) (gD S 78 0 (l3.toNat))) 79 0 ((l3).toNat) (-1))
        else none)
       else none)
      else none)
     else
      (if 0 ≤ l3 ∧ l3 < 40 then
       run o K false mi_33 n 22 [(0, vr (some (75, 0))), (1, vi l1), (2, vi l2), (3, vi (aw o (l3 + 1)))] [] (wD S 79 0 ((l3).toNat) (-1))
      else none))
    else none)
   else
    run o K false mi_33 n 22 [(0, vr (some (75, 0))), (1, vi l1), (2, vi l2), (3, vi (aw o (l3 + 1)))] [] S)
  else none)
 else
  (if 0 ≤ l1 ∧ l1 < 8 then
   some (vi l2, wD S 80 0 ((l1).toNat) 0)
  else none)) := rfl
