set_option maxRecDepth 100000 in
theorem b127_0 (o : AR) (K : KT) (n : Nat) (S : SD) (a1 : Int) : run o K false mi_127 (n + 1) 0 [(0, vr (some (13, 0))), (1, vi a1)] [] S =
 (if a1 < 0 then
  some (vi 0, S)
 else
  (if a1 < (gD S 13 0 16) then
   some (vi 1, S)
  else
   some (vi 0, S))) := rfl
set_option maxRecDepth 100000 in
theorem b128_0 (o : AR) (K : KT) (n : Nat) (S : SD) (a1 : Int) (a2 : Int) (a3 : Int) (a4 : Int) (a5 : Int) (a6 : Int) (a7 : Int) : run o K false mi_128 (n + 1) 0 [(0, vr (some (13, 0))), (1, vi a1), (2, vi a2), (3, vi a3), (4, vi a4), (5, vi a5), (6, vi a6), (7, vi a7)] [] S =
 (if (gD S 13 0 16) < 400 then
  (bI (K 96 [vr (some (3, 0)), vi a1] S) (fun x2 S1 =>
   (if x2 = 0 then
    some (vi (-1), S1)
   else
    (bI (K 189 [vi a2, vi 1, vi 200] S1) (fun x4 S3 =>
     (if x4 = 0 then
      some (vi (-1), S3)
     else
      (bI (K 190 [vi a3] S3) (fun x6 S5 =>
       (if x6 = 0 then
        some (vi (-1), S5)
       else
        (bI (K 129 [vi a4] S5) (fun x8 S7 =>
         (if x8 = 0 then
          some (vi (-1), S7)
         else
          (bI (K 129 [vi a5] S7) (fun x10 S9 =>
           (if x10 = 0 then
            some (vi (-1), S9)
           else
            (bI (K 129 [vi a6] S9) (fun x12 S11 =>
             (if x12 = 0 then
              some (vi (-1), S11)
             else
              (if 0 ≤ (aw o ((aw o (a1 * 201)) + a2)) ∧ (aw o ((aw o (a1 * 201)) + a2)) < 8040 then
               (if (gD S11 28 0 ((aw o ((aw o (a1 * 201)) + a2)).toNat)) = 1 then
                some (vi (-2), S11)
               else
                (if 0 ≤ (aw o ((aw o (a1 * 201)) + a2)) ∧ (aw o ((aw o (a1 * 201)) + a2)) < 8040 then
                 (if 0 ≤ (gD S11 13 0 16) ∧ (gD S11 13 0 16) < 400 then
                  (if 0 ≤ (gD S11 13 0 16) ∧ (gD S11 13 0 16) < 400 then
                   (if 0 ≤ (gD S11 13 0 16) ∧ (gD S11 13 0 16) < 400 then
                    (if 0 ≤ (gD S11 13 0 16) ∧ (gD S11 13 0 16) < 400 then
                     (if 0 ≤ (aw o ((gD S11 13 0 16) * 3)) ∧ (aw o ((gD S11 13 0 16) * 3)) < 1200 then
                      (if 0 ≤ (aw o ((aw o ((gD S11 13 0 16) * 3)) + 1)) ∧ (aw o ((aw o ((gD S11 13 0 16) * 3)) + 1)) < 1200 then
                       (if 0 ≤ (aw o ((aw o ((gD S11 13 0 16) * 3)) + 2)) ∧ (aw o ((aw o ((gD S11 13 0 16) * 3)) + 2)) < 1200 then
                        (bV (K 130 [vr (some (13, 0)), vi (gD S11 13 0 16), vi a1, vi a3, vi a7] (wD (wD (wD (wD (wD (wD (wD (wD (wD S11 13 0 16 (aw o ((gD S11 13 0 16) + 1))) 28 0 (((aw o ((aw o (a1 * 201)) + a2))).toNat) 1) 14 0 (((gD S11 13 0 16)).toNat) a1) 15 0 (((gD S11 13 0 16)).toNat) a2) 16 0 (((gD S11 13 0 16)).toNat) a3) 17 0 (((gD S11 13 0 16)).toNat) a7) 23 0 (((aw o ((gD S11 13 0 16) * 3))).toNat) a4) 23 0 (((aw o ((aw o ((gD S11 13 0 16) * 3)) + 1))).toNat) a5) 23 0 (((aw o ((aw o ((gD S11 13 0 16) * 3)) + 2))).toNat) a6)) (fun S13 =>
                         (bV (K 131 [vr (some (13, 0)), vi (gD S11 13 0 16), vi a1, vi a2] S13) (fun S14 =>
                          (bI (K 132 [vr (some (13, 0)), vi (gD S11 13 0 16)] S14) (fun x16 S15 =>
                           (if 0 ≤ (gD S11 13 0 16) ∧ (gD S11 13 0 16) < 400 then
                            some (vi (gD S11 13 0 16), wD S15 20 0 (((gD S11 13 0 16)).toNat) x16)
                           else none)))))))
                       else none)
                      else none)
                     else none)
                    else none)
                   else none)
                  else none)
                 else none)
                else none))
              else none)))))))))))))))))))
 else
  some (vi (-1), S)) := rfl
set_option maxRecDepth 100000 in
theorem b129_0 (o : AR) (K : KT) (n : Nat) (S : SD) (a0 : Int) : run o K false mi_129 (n + 1) 0 [(0, vi a0)] [] S =
 (if a0 = (-1000000) then
  some (vi 1, S)
 else
  (bI (K 189 [vi a0, vi (-100000), vi 100000] S) (fun x2 S1 =>
   (if x2 = 0 then
    some (vi 0, S1)
   else
    some (vi 1, S1))))) := rfl
set_option maxRecDepth 100000 in
theorem b130_0 (o : AR) (K : KT) (n : Nat) (S : SD) (a1 : Int) (a2 : Int) (a3 : Int) (a4 : Int) : run o K false mi_130 (n + 1) 0 [(0, vr (some (13, 0))), (1, vi a1), (2, vi a2), (3, vi a3), (4, vi a4)] [] S =
 (bI (K 106 [vr (some (3, 0)), vi a2, vi a3] S) (fun x2 S1 =>
  (bI (K 99 [vr (some (3, 0)), vi a2] S1) (fun x4 S3 =>
   (if 0 ≤ a1 ∧ a1 < 400 then
    (if 0 ≤ a1 ∧ a1 < 400 then
     some (vi 0, wD (wD S3 18 0 ((a1).toNat) (ab o 11 (ab o 10 (aw o (a3 - (aw o (ab o 12 (aw o ((aw o ((aw o (a3 - x2)) * x4)) + 999)) 1000)))) x2) a4)) 19 0 ((a1).toNat) (ab o 11 (aw o (a3 + (aw o (ab o 12 (aw o ((aw o ((aw o (a3 - x2)) * x4)) + 999)) 1000)))) a4))
    else none)
   else none))))) := rfl
set_option maxRecDepth 100000 in
theorem b131_0 (o : AR) (K : KT) (n : Nat) (S : SD) (a1 : Int) (a2 : Int) (a3 : Int) : run o K false mi_131 (n + 1) 0 [(0, vr (some (13, 0))), (1, vi a1), (2, vi a2), (3, vi a3)] [] S =
 (if 0 ≤ a2 ∧ a2 < 40 then
  (bI (K 127 [vr (some (13, 0)), vi (gD S 26 0 (a2.toNat))] S) (fun x2 S1 =>
   (if x2 = 0 then
    (if 0 ≤ a1 ∧ a1 < 400 then
     (if 0 ≤ a2 ∧ a2 < 40 then
      (if 0 ≤ a1 ∧ a1 < 400 then
       (if 0 ≤ a2 ∧ a2 < 40 then
        (if 0 ≤ a1 ∧ a1 < 400 then
         (if (gD (wD (wD (wD S1 21 0 ((a1).toNat) 0) 25 0 ((a1).toNat) (gD (wD S1 21 0 ((a1).toNat) 0) 27 0 (a2.toNat))) 27 0 ((a2).toNat) a1) 21 0 (a1.toNat)) = 0 then
          (if 0 ≤ a2 ∧ a2 < 40 then
           (if 0 ≤ a1 ∧ a1 < 400 then
            (if 0 ≤ a2 ∧ a2 < 40 then
             some (vi 0, wD (wD (wD (wD (wD S1 21 0 ((a1).toNat) 0) 25 0 ((a1).toNat) (gD (wD S1 21 0 ((a1).toNat) 0) 27 0 (a2.toNat))) 27 0 ((a2).toNat) a1) 24 0 ((a1).toNat) (gD (wD (wD (wD S1 21 0 ((a1).toNat) 0) 25 0 ((a1).toNat) (gD (wD S1 21 0 ((a1).toNat) 0) 27 0 (a2.toNat))) 27 0 ((a2).toNat) a1) 26 0 (a2.toNat))) 26 0 ((a2).toNat) a1)
            else none)
           else none)
          else none)
         else
          (if 0 ≤ a2 ∧ a2 < 40 then
           run o K false mi_131 n 98 [(0, vr (some (13, 0))), (1, vi a1), (3, vi a3), (4, vi (gD (wD (wD (wD S1 21 0 ((a1).toNat) 0) 25 0 ((a1).toNat) (gD (wD S1 21 0 ((a1).toNat) 0) 27 0 (a2.toNat))) 27 0 ((a2).toNat) a1) 26 0 (a2.toNat))), (5, vi 0)] [] (wD (wD (wD S1 21 0 ((a1).toNat) 0) 25 0 ((a1).toNat) (gD (wD S1 21 0 ((a1).toNat) 0) 27 0 (a2.toNat))) 27 0 ((a2).toNat) a1)
          else none))
        else none)
       else none)
      else none)
     else none)
    else none)
   else
    (if 0 ≤ a2 ∧ a2 < 40 then
     (if 0 ≤ (gD S1 26 0 (a2.toNat)) ∧ (gD S1 26 0 (a2.toNat)) < 400 then
      (if a3 < (gD S1 15 0 ((gD S1 26 0 (a2.toNat)).toNat)) then
       (if 0 ≤ a1 ∧ a1 < 400 then
        (if 0 ≤ a2 ∧ a2 < 40 then
         (if 0 ≤ a1 ∧ a1 < 400 then
          (if 0 ≤ a2 ∧ a2 < 40 then
           (if 0 ≤ a1 ∧ a1 < 400 then
            (if (gD (wD (wD (wD S1 21 0 ((a1).toNat) 1) 25 0 ((a1).toNat) (gD (wD S1 21 0 ((a1).toNat) 1) 27 0 (a2.toNat))) 27 0 ((a2).toNat) a1) 21 0 (a1.toNat)) = 0 then
             (if 0 ≤ a2 ∧ a2 < 40 then
              (if 0 ≤ a1 ∧ a1 < 400 then
               (if 0 ≤ a2 ∧ a2 < 40 then
                some (vi 0, wD (wD (wD (wD (wD S1 21 0 ((a1).toNat) 1) 25 0 ((a1).toNat) (gD (wD S1 21 0 ((a1).toNat) 1) 27 0 (a2.toNat))) 27 0 ((a2).toNat) a1) 24 0 ((a1).toNat) (gD (wD (wD (wD S1 21 0 ((a1).toNat) 1) 25 0 ((a1).toNat) (gD (wD S1 21 0 ((a1).toNat) 1) 27 0 (a2.toNat))) 27 0 ((a2).toNat) a1) 26 0 (a2.toNat))) 26 0 ((a2).toNat) a1)
               else none)
              else none)
             else none)
            else
             (if 0 ≤ a2 ∧ a2 < 40 then
              run o K false mi_131 n 98 [(0, vr (some (13, 0))), (1, vi a1), (3, vi a3), (4, vi (gD (wD (wD (wD S1 21 0 ((a1).toNat) 1) 25 0 ((a1).toNat) (gD (wD S1 21 0 ((a1).toNat) 1) 27 0 (a2.toNat))) 27 0 ((a2).toNat) a1) 26 0 (a2.toNat))), (5, vi 0)] [] (wD (wD (wD S1 21 0 ((a1).toNat) 1) 25 0 ((a1).toNat) (gD (wD S1 21 0 ((a1).toNat) 1) 27 0 (a2.toNat))) 27 0 ((a2).toNat) a1)
             else none))
           else none)
          else none)
         else none)
        else none)
       else none)
      else
       (if 0 ≤ a1 ∧ a1 < 400 then
        (if 0 ≤ a2 ∧ a2 < 40 then
         (if 0 ≤ a1 ∧ a1 < 400 then
          (if 0 ≤ a2 ∧ a2 < 40 then
           (if 0 ≤ a1 ∧ a1 < 400 then
            (if (gD (wD (wD (wD S1 21 0 ((a1).toNat) 0) 25 0 ((a1).toNat) (gD (wD S1 21 0 ((a1).toNat) 0) 27 0 (a2.toNat))) 27 0 ((a2).toNat) a1) 21 0 (a1.toNat)) = 0 then
             (if 0 ≤ a2 ∧ a2 < 40 then
              (if 0 ≤ a1 ∧ a1 < 400 then
               (if 0 ≤ a2 ∧ a2 < 40 then
                some (vi 0, wD (wD (wD (wD (wD S1 21 0 ((a1).toNat) 0) 25 0 ((a1).toNat) (gD (wD S1 21 0 ((a1).toNat) 0) 27 0 (a2.toNat))) 27 0 ((a2).toNat) a1) 24 0 ((a1).toNat) (gD (wD (wD (wD S1 21 0 ((a1).toNat) 0) 25 0 ((a1).toNat) (gD (wD S1 21 0 ((a1).toNat) 0) 27 0 (a2.toNat))) 27 0 ((a2).toNat) a1) 26 0 (a2.toNat))) 26 0 ((a2).toNat) a1)
               else none)
              else none)
             else none)
            else
             (if 0 ≤ a2 ∧ a2 < 40 then
              run o K false mi_131 n 98 [(0, vr (some (13, 0))), (1, vi a1), (3, vi a3), (4, vi (gD (wD (wD (wD S1 21 0 ((a1).toNat) 0) 25 0 ((a1).toNat) (gD (wD S1 21 0 ((a1).toNat) 0) 27 0 (a2.toNat))) 27 0 ((a2).toNat) a1) 26 0 (a2.toNat))), (5, vi 0)] [] (wD (wD (wD S1 21 0 ((a1).toNat) 0) 25 0 ((a1).toNat) (gD (wD S1 21 0 ((a1).toNat) 0) 27 0 (a2.toNat))) 27 0 ((a2).toNat) a1)
             else none))
           else none)
          else none)
         else none)
        else none)
       else none))
     else none)
    else none))))
 else none) := rfl
set_option maxRecDepth 100000 in
theorem b131_98 (o : AR) (K : KT) (n : Nat) (S : SD) (l1 : Int) (l3 : Int) (l4 : Int) (l5 : Int) : run o K false mi_131 (n + 1) 98 [(0, vr (some (13, 0))), (1, vi l1), (3, vi l3), (4, vi l4), (5, vi l5)] [] S =
 (if l5 < (gD S 13 0 16) then
  (if 0 ≤ l4 ∧ l4 < 400 then
   (bI (K 127 [vr (some (13, 0)), vi (gD S 24 0 (l4.toNat))] S) (fun x2 S1 =>
    (if x2 = 0 then
     (if 0 ≤ l4 ∧ l4 < 400 then
      (if 0 ≤ l1 ∧ l1 < 400 then
       (if 0 ≤ l4 ∧ l4 < 400 then
        some (vi 0, wD (wD S1 24 0 ((l1).toNat) (gD S1 24 0 (l4.toNat))) 24 0 ((l4).toNat) l1)
       else none)
      else none)
     else none)
    else
     (if 0 ≤ l4 ∧ l4 < 400 then
      (if 0 ≤ (gD S1 24 0 (l4.toNat)) ∧ (gD S1 24 0 (l4.toNat)) < 400 then
       (if l3 < (gD S1 15 0 ((gD S1 24 0 (l4.toNat)).toNat)) then
        (if 0 ≤ l4 ∧ l4 < 400 then
         run o K false mi_131 n 98 [(0, vr (some (13, 0))), (1, vi l1), (3, vi l3), (4, vi (gD S1 24 0 (l4.toNat))), (5, vi (aw o (l5 + 1)))] [] S1
        else none)
       else
        (if 0 ≤ l4 ∧ l4 < 400 then
         (if 0 ≤ l1 ∧ l1 < 400 then
          (if 0 ≤ l4 ∧ l4 < 400 then
           some (vi 0, wD (wD S1 24 0 ((l1).toNat) (gD S1 24 0 (l4.toNat))) 24 0 ((l4).toNat) l1)
          else none)
         else none)
        else none))
      else none)
     else none))))
  else none)
 else
  (if 0 ≤ l4 ∧ l4 < 400 then
   (if 0 ≤ l1 ∧ l1 < 400 then
    (if 0 ≤ l4 ∧ l4 < 400 then
     some (vi 0, wD (wD S 24 0 ((l1).toNat) (gD S 24 0 (l4.toNat))) 24 0 ((l4).toNat) l1)
    else none)
   else none)
  else none)) := rfl
set_option maxRecDepth 100000 in
theorem b132_0 (o : AR) (K : KT) (n : Nat) (S : SD) (a1 : Int) : run o K false mi_132 (n + 1) 0 [(0, vr (some (13, 0))), (1, vi a1)] [] S =
 run o K false mi_132 n 4 [(0, vr (some (13, 0))), (1, vi a1), (2, vi 0), (3, vi 0)] [] S := rfl
set_option maxRecDepth 100000 in
theorem b132_4 (o : AR) (K : KT) (n : Nat) (S : SD) (l1 : Int) (l2 : Int) (l3 : Int) : run o K false mi_132 (n + 1) 4 [(0, vr (some (13, 0))), (1, vi l1), (2, vi l2), (3, vi l3)] [] S =
 (if l3 < 3 then
  (bI (K 133 [vr (some (13, 0)), vi l1, vi l3] S) (fun x2 S1 =>
   (if x2 = 0 then
    run o K false mi_132 n 4 [(0, vr (some (13, 0))), (1, vi l1), (2, vi l2), (3, vi (aw o (l3 + 1)))] [] S1
   else
    run o K false mi_132 n 4 [(0, vr (some (13, 0))), (1, vi l1), (2, vi (ab o 1 l2 (ab o 3 1 l3))), (3, vi (aw o (l3 + 1)))] [] S1)))
 else
  some (vi l2, S)) := rfl
set_option maxRecDepth 100000 in
theorem b133_0 (o : AR) (K : KT) (n : Nat) (S : SD) (a1 : Int) (a2 : Int) : run o K false mi_133 (n + 1) 0 [(0, vr (some (13, 0))), (1, vi a1), (2, vi a2)] [] S =
 (bI (K 135 [vr (some (13, 0)), vi a1, vi a2] S) (fun x2 S1 =>
  (if 0 ≤ a1 ∧ a1 < 400 then
   run o K false mi_133 n 18 [(0, vr (some (13, 0))), (1, vi a1), (2, vi a2), (3, vi x2), (4, vi (gD S1 24 0 (a1.toNat))), (5, vi 0)] [] S1
  else none))) := rfl
set_option maxRecDepth 100000 in
theorem b133_18 (o : AR) (K : KT) (n : Nat) (S : SD) (l1 : Int) (l2 : Int) (l3 : Int) (l4 : Int) (l5 : Int) : run o K false mi_133 (n + 1) 18 [(0, vr (some (13, 0))), (1, vi l1), (2, vi l2), (3, vi l3), (4, vi l4), (5, vi l5)] [] S =
 (if l5 < (gD S 13 0 16) then
  (bI (K 127 [vr (some (13, 0)), vi l4] S) (fun x2 S1 =>
   (if x2 = 0 then
    (if l3 = (-1000000) then
     some (vi 0, S1)
    else
     (bI (K 127 [vr (some (13, 0)), vi l4] S1) (fun x4 S3 =>
      (if x4 = 0 then
       some (vi 0, S3)
      else
       (if 0 ≤ l4 ∧ l4 < 400 then
        (if 0 ≤ l1 ∧ l1 < 400 then
         (if (gD S3 19 0 (l1.toNat)) < (gD S3 18 0 (l4.toNat)) then
          some (vi 0, S3)
         else
          (if 0 ≤ l1 ∧ l1 < 400 then
           (bI (K 143 [vr (some (13, 0)), vi l4, vi l2, vi (gD S3 19 0 (l1.toNat)), vi 0] S3) (fun x6 S5 =>
            (if l3 < x6 then
             some (vi 1, S5)
            else
             (if 0 ≤ l1 ∧ l1 < 400 then
              (bI (K 143 [vr (some (13, 0)), vi l4, vi l2, vi (gD S5 19 0 (l1.toNat)), vi 1] S5) (fun x8 S7 =>
               (if x8 < l3 then
                some (vi 1, S7)
               else
                some (vi 0, S7))))
             else none))))
          else none))
        else none)
       else none)))))
   else
    (bI (K 134 [vr (some (13, 0)), vi l4, vi l2] S1) (fun x10 S9 =>
     (if x10 = 0 then
      (if 0 ≤ l4 ∧ l4 < 400 then
       run o K false mi_133 n 18 [(0, vr (some (13, 0))), (1, vi l1), (2, vi l2), (3, vi l3), (4, vi (gD S9 24 0 (l4.toNat))), (5, vi (aw o (l5 + 1)))] [] S9
      else none)
     else
      (if l3 = (-1000000) then
       some (vi 0, S9)
      else
       (bI (K 127 [vr (some (13, 0)), vi l4] S9) (fun x12 S11 =>
        (if x12 = 0 then
         some (vi 0, S11)
        else
         (if 0 ≤ l4 ∧ l4 < 400 then
          (if 0 ≤ l1 ∧ l1 < 400 then
           (if (gD S11 19 0 (l1.toNat)) < (gD S11 18 0 (l4.toNat)) then
            some (vi 0, S11)
           else
            (if 0 ≤ l1 ∧ l1 < 400 then
             (bI (K 143 [vr (some (13, 0)), vi l4, vi l2, vi (gD S11 19 0 (l1.toNat)), vi 0] S11) (fun x14 S13 =>
              (if l3 < x14 then
               some (vi 1, S13)
              else
               (if 0 ≤ l1 ∧ l1 < 400 then
                (bI (K 143 [vr (some (13, 0)), vi l4, vi l2, vi (gD S13 19 0 (l1.toNat)), vi 1] S13) (fun x16 S15 =>
                 (if x16 < l3 then
                  some (vi 1, S15)
                 else
                  some (vi 0, S15))))
               else none))))
            else none))
          else none)
         else none)))))))))))
 else
  (if l3 = (-1000000) then
   some (vi 0, S)
  else
   (bI (K 127 [vr (some (13, 0)), vi l4] S) (fun x18 S17 =>
    (if x18 = 0 then
     some (vi 0, S17)
    else
     (if 0 ≤ l4 ∧ l4 < 400 then
      (if 0 ≤ l1 ∧ l1 < 400 then
       (if (gD S17 19 0 (l1.toNat)) < (gD S17 18 0 (l4.toNat)) then
        some (vi 0, S17)
       else
        (if 0 ≤ l1 ∧ l1 < 400 then
         (bI (K 143 [vr (some (13, 0)), vi l4, vi l2, vi (gD S17 19 0 (l1.toNat)), vi 0] S17) (fun x20 S19 =>
          (if l3 < x20 then
           some (vi 1, S19)
          else
           (if 0 ≤ l1 ∧ l1 < 400 then
            (bI (K 143 [vr (some (13, 0)), vi l4, vi l2, vi (gD S19 19 0 (l1.toNat)), vi 1] S19) (fun x22 S21 =>
             (if x22 < l3 then
              some (vi 1, S21)
             else
              some (vi 0, S21))))
           else none))))
        else none))
      else none)
     else none)))))) := rfl
set_option maxRecDepth 100000 in
theorem b134_0 (o : AR) (K : KT) (n : Nat) (S : SD) (a1 : Int) (a2 : Int) : run o K false mi_134 (n + 1) 0 [(0, vr (some (13, 0))), (1, vi a1), (2, vi a2)] [] S =
 (if 0 ≤ a1 ∧ a1 < 400 then
  (if (gD S 22 0 (a1.toNat)) = 0 then
   (if 0 ≤ (aw o ((aw o (a1 * 3)) + a2)) ∧ (aw o ((aw o (a1 * 3)) + a2)) < 1200 then
    (if (gD S 23 0 ((aw o ((aw o (a1 * 3)) + a2)).toNat)) = (-1000000) then
     some (vi 0, S)
    else
     some (vi 1, S))
   else none)
  else
   some (vi 0, S))
 else none) := rfl
set_option maxRecDepth 100000 in
theorem b135_0 (o : AR) (K : KT) (n : Nat) (S : SD) (a1 : Int) (a2 : Int) : run o K false mi_135 (n + 1) 0 [(0, vr (some (13, 0))), (1, vi a1), (2, vi a2)] [] S =
 (bI (K 127 [vr (some (13, 0)), vi a1] S) (fun x2 S1 =>
  (if x2 = 0 then
   some (vi (-1000000), S1)
  else
   (bI (K 189 [vi a2, vi 0, vi 2] S1) (fun x4 S3 =>
    (if x4 = 0 then
     some (vi (-1000000), S3)
    else
     (if 0 ≤ (aw o ((aw o (a1 * 3)) + a2)) ∧ (aw o ((aw o (a1 * 3)) + a2)) < 1200 then
      some (vi (gD S3 23 0 ((aw o ((aw o (a1 * 3)) + a2)).toNat)), S3)
     else none))))))) := rfl
set_option maxRecDepth 100000 in
theorem b136_0 (o : AR) (K : KT) (n : Nat) (S : SD) (a1 : Int) (a2 : Int) : run o K false mi_136 (n + 1) 0 [(0, vr (some (13, 0))), (1, vi a1), (2, vi a2)] [] S =
 (bI (K 127 [vr (some (13, 0)), vi a1] S) (fun x2 S1 =>
  (if x2 = 0 then
   some (vi (-1), S1)
  else
   (if a2 = 0 then
    (if 0 ≤ a1 ∧ a1 < 400 then
     some (vi (gD S1 14 0 (a1.toNat)), S1)
    else none)
   else (if a2 = 1 then
    (if 0 ≤ a1 ∧ a1 < 400 then
     some (vi (gD S1 15 0 (a1.toNat)), S1)
    else none)
   else (if a2 = 2 then
    (if 0 ≤ a1 ∧ a1 < 400 then
     some (vi (gD S1 16 0 (a1.toNat)), S1)
    else none)
   else (if a2 = 3 then
    (if 0 ≤ a1 ∧ a1 < 400 then
     some (vi (gD S1 17 0 (a1.toNat)), S1)
    else none)
   else (if a2 = 4 then
    (if 0 ≤ a1 ∧ a1 < 400 then
     (if (gD S1 21 0 (a1.toNat)) = 0 then
      some (vi 0, S1)
     else
      some (vi 1, S1))
    else none)
   else (if a2 = 5 then
    (if 0 ≤ a1 ∧ a1 < 400 then
     some (vi (gD S1 18 0 (a1.toNat)), S1)
    else none)
   else (if a2 = 6 then
    (if 0 ≤ a1 ∧ a1 < 400 then
     some (vi (gD S1 19 0 (a1.toNat)), S1)
    else none)
   else (if a2 = 7 then
    (if 0 ≤ a1 ∧ a1 < 400 then
     some (vi (gD S1 20 0 (a1.toNat)), S1)
    else none)
   else (if a2 = 8 then
    (if 0 ≤ a1 ∧ a1 < 400 then
     (if (gD S1 22 0 (a1.toNat)) = 0 then
      some (vi 0, S1)
     else
      some (vi 1, S1))
    else none)
   else 
    some (vi (-1), S1))))))))))))) := rfl
set_option maxRecDepth 100000 in
theorem b137_0 (o : AR) (K : KT) (n : Nat) (S : SD) (a1 : Int) : run o K false mi_137 (n + 1) 0 [(0, vr (some (13, 0))), (1, vi a1)] [] S =
 (bI (K 96 [vr (some (3, 0)), vi a1] S) (fun x2 S1 =>
  (if x2 = 0 then
   some (vi 0, S1)
  else
   (if 0 ≤ a1 ∧ a1 < 40 then
    (bI (K 127 [vr (some (13, 0)), vi (gD S1 26 0 (a1.toNat))] S1) (fun x4 S3 =>
     (if x4 = 0 then
      some (vi 0, S3)
     else
      (if 0 ≤ a1 ∧ a1 < 40 then
       (if 0 ≤ (gD S3 26 0 (a1.toNat)) ∧ (gD S3 26 0 (a1.toNat)) < 400 then
        some (vi (gD S3 15 0 ((gD S3 26 0 (a1.toNat)).toNat)), S3)
       else none)
      else none))))
   else none)))) := rfl
set_option maxRecDepth 100000 in
theorem b138_0 (o : AR) (K : KT) (n : Nat) (S : SD) (a1 : Int) : run o K false mi_138 (n + 1) 0 [(0, vr (some (13, 0))), (1, vi a1)] [] S =
 run o K false mi_138 n 4 [(0, vr (some (13, 0))), (1, vi a1), (2, vi 0), (3, vi 0)] [] S := rfl
set_option maxRecDepth 100000 in
theorem b138_4 (o : AR) (K : KT) (n : Nat) (S : SD) (l1 : Int) (l2 : Int) (l3 : Int) : run o K false mi_138 (n + 1) 4 [(0, vr (some (13, 0))), (1, vi l1), (2, vi l2), (3, vi l3)] [] S =
 (if l3 < (gD S 13 0 16) then
  (if 0 ≤ l3 ∧ l3 < 400 then
   (if (gD S 14 0 (l3.toNat)) = l1 then
    run o K false mi_138 n 4 [(0, vr (some (13, 0))), (1, vi l1), (2, vi (aw o (l2 + 1))), (3, vi (aw o (l3 + 1)))] [] S
   else
    run o K false mi_138 n 4 [(0, vr (some (13, 0))), (1, vi l1), (2, vi (aw o (l2 + 0))), (3, vi (aw o (l3 + 1)))] [] S)
  else none)
 else
  some (vi l2, S)) := rfl
set_option maxRecDepth 100000 in
theorem b139_0 (o : AR) (K : KT) (n : Nat) (S : SD) (a1 : Int) (a2 : Int) : run o K false mi_139 (n + 1) 0 [(0, vr (some (13, 0))), (1, vi a1), (2, vi a2)] [] S =
 (bI (K 96 [vr (some (3, 0)), vi a1] S) (fun x2 S1 =>
  (if x2 = 0 then
   some (vi (-1), S1)
  else
   (bI (K 137 [vr (some (13, 0)), vi a1] S1) (fun x4 S3 =>
    run o K false mi_139 n 25 [(0, vr (some (13, 0))), (1, vi a1), (2, vi a2), (3, vi 0), (4, vi x4), (5, vi 1)] [] S3))))) := rfl
set_option maxRecDepth 100000 in
theorem b139_25 (o : AR) (K : KT) (n : Nat) (S : SD) (l1 : Int) (l2 : Int) (l3 : Int) (l4 : Int) (l5 : Int) : run o K false mi_139 (n + 1) 25 [(0, vr (some (13, 0))), (1, vi l1), (2, vi l2), (3, vi l3), (4, vi l4), (5, vi l5)] [] S =
 (if l5 < l4 then
  (if 0 ≤ (aw o ((aw o (l1 * 201)) + l5)) ∧ (aw o ((aw o (l1 * 201)) + l5)) < 8040 then
   (if (gD S 28 0 ((aw o ((aw o (l1 * 201)) + l5)).toNat)) = 0 then
    (if l3 = l2 then
     some (vi l5, S)
    else
     run o K false mi_139 n 25 [(0, vr (some (13, 0))), (1, vi l1), (2, vi l2), (3, vi (aw o (l3 + 1))), (4, vi l4), (5, vi (aw o (l5 + 1)))] [] S)
   else
    run o K false mi_139 n 25 [(0, vr (some (13, 0))), (1, vi l1), (2, vi l2), (3, vi l3), (4, vi l4), (5, vi (aw o (l5 + 1)))] [] S)
  else none)
 else
  (if l2 = (-1) then
   some (vi l3, S)
  else
   some (vi (-1), S))) := rfl
set_option maxRecDepth 100000 in
theorem b140_0 (o : AR) (K : KT) (n : Nat) (S : SD) (a1 : Int) (a2 : Int) : run o K false mi_140 (n + 1) 0 [(0, vr (some (13, 0))), (1, vi a1), (2, vi a2)] [] S =
 (bI (K 96 [vr (some (3, 0)), vi a1] S) (fun x2 S1 =>
  (if x2 = 0 then
   some (vi 0, S1)
  else
   (if a2 < 1 then
    some (vi 0, S1)
   else
    (bI (K 137 [vr (some (13, 0)), vi a1] S1) (fun x4 S3 =>
     (if a2 < x4 then
      (if 0 ≤ (aw o ((aw o (a1 * 201)) + a2)) ∧ (aw o ((aw o (a1 * 201)) + a2)) < 8040 then
       (if (gD S3 28 0 ((aw o ((aw o (a1 * 201)) + a2)).toNat)) = 0 then
        (if 0 ≤ (aw o ((aw o (a1 * 201)) + a2)) ∧ (aw o ((aw o (a1 * 201)) + a2)) < 8040 then
         some (vi 1, wD S3 28 0 (((aw o ((aw o (a1 * 201)) + a2))).toNat) 2)
        else none)
       else
        some (vi 0, S3))
      else none)
     else
      some (vi 0, S3)))))))) := rfl
set_option maxRecDepth 100000 in
theorem b141_0 (o : AR) (K : KT) (n : Nat) (S : SD) (a1 : Int) : run o K false mi_141 (n + 1) 0 [(0, vr (some (13, 0))), (1, vi a1)] [] S =
 (bI (K 96 [vr (some (3, 0)), vi a1] S) (fun x2 S1 =>
  (if x2 = 0 then
   some (vi (-1), S1)
  else
   run o K false mi_141 n 17 [(0, vr (some (13, 0))), (1, vi a1), (2, vi 0), (3, vi 0)] [] S1))) := rfl
set_option maxRecDepth 100000 in
theorem b141_17 (o : AR) (K : KT) (n : Nat) (S : SD) (l1 : Int) (l2 : Int) (l3 : Int) : run o K false mi_141 (n + 1) 17 [(0, vr (some (13, 0))), (1, vi l1), (2, vi l2), (3, vi l3)] [] S =
 (if l3 < (gD S 13 0 16) then
  (if 0 ≤ l3 ∧ l3 < 400 then
   (if (gD S 14 0 (l3.toNat)) = l1 then
    (if 0 ≤ l3 ∧ l3 < 400 then
     (if (gD S 22 0 (l3.toNat)) = 0 then
      (if 0 ≤ l3 ∧ l3 < 400 then
       run o K false mi_141 n 17 [(0, vr (some (13, 0))), (1, vi l1), (2, vi (aw o (l2 + 1))), (3, vi (aw o (l3 + 1)))] [] (wD S 22 0 ((l3).toNat) 1)
      else none)
     else
      run o K false mi_141 n 17 [(0, vr (some (13, 0))), (1, vi l1), (2, vi l2), (3, vi (aw o (l3 + 1)))] [] S)
    else none)
   else
    run o K false mi_141 n 17 [(0, vr (some (13, 0))), (1, vi l1), (2, vi l2), (3, vi (aw o (l3 + 1)))] [] S)
  else none)
 else
  some (vi l2, S)) := rfl
set_option maxRecDepth 100000 in
theorem b142_0 (o : AR) (K : KT) (n : Nat) (S : SD) (a1 : Int) (a2 : Int) (a3 : Int) (a4 : Int) : run o K false mi_142 (n + 1) 0 [(0, vr (some (13, 0))), (1, vi a1), (2, vi a2), (3, vi a3), (4, vi a4)] [] S =
 (bI (K 96 [vr (some (3, 0)), vi a1] S) (fun x2 S1 =>
  (if x2 = 0 then
   some (vi (-1), S1)
  else
   (bI (K 189 [vi a2, vi 0, vi 2] S1) (fun x4 S3 =>
    (if x4 = 0 then
     some (vi (-1), S3)
    else
     (if 0 ≤ a1 ∧ a1 < 40 then
      run o K false mi_142 n 33 [(0, vr (some (13, 0))), (2, vi a2), (3, vi a3), (4, vi a4), (5, vi (gD S3 26 0 (a1.toNat))), (6, vi 0)] [] S3
     else none))))))) := rfl
set_option maxRecDepth 100000 in
theorem b142_33 (o : AR) (K : KT) (n : Nat) (S : SD) (l2 : Int) (l3 : Int) (l4 : Int) (l5 : Int) (l6 : Int) : run o K false mi_142 (n + 1) 33 [(0, vr (some (13, 0))), (2, vi l2), (3, vi l3), (4, vi l4), (5, vi l5), (6, vi l6)] [] S =
 (if l6 < (gD S 13 0 16) then
  (bI (K 127 [vr (some (13, 0)), vi l5] S) (fun x2 S1 =>
   (if x2 = 0 then
    some (vi (-1), S1)
   else
    (if 0 ≤ l5 ∧ l5 < 400 then
     (if l4 < (gD S1 17 0 (l5.toNat)) then
      (if 0 ≤ l5 ∧ l5 < 400 then
       run o K false mi_142 n 33 [(0, vr (some (13, 0))), (2, vi l2), (3, vi l3), (4, vi l4), (5, vi (gD S1 24 0 (l5.toNat))), (6, vi (aw o (l6 + 1)))] [] S1
      else none)
     else
      (if 0 ≤ l5 ∧ l5 < 400 then
       (if l3 < (gD S1 18 0 (l5.toNat)) then
        (if 0 ≤ l5 ∧ l5 < 400 then
         run o K false mi_142 n 33 [(0, vr (some (13, 0))), (2, vi l2), (3, vi l3), (4, vi l4), (5, vi (gD S1 24 0 (l5.toNat))), (6, vi (aw o (l6 + 1)))] [] S1
        else none)
       else
        (bI (K 134 [vr (some (13, 0)), vi l5, vi l2] S1) (fun x4 S3 =>
         (if x4 = 0 then
          (if 0 ≤ l5 ∧ l5 < 400 then
           run o K false mi_142 n 33 [(0, vr (some (13, 0))), (2, vi l2), (3, vi l3), (4, vi l4), (5, vi (gD S3 24 0 (l5.toNat))), (6, vi (aw o (l6 + 1)))] [] S3
          else none)
         else
          some (vi l5, S3)))))
      else none))
    else none))))
 else
  some (vi (-1), S)) := rfl
set_option maxRecDepth 100000 in
theorem b143_0 (o : AR) (K : KT) (n : Nat) (S : SD) (a1 : Int) (a2 : Int) (a3 : Int) (a4 : Int) : run o K false mi_143 (n + 1) 0 [(0, vr (some (13, 0))), (1, vi a1), (2, vi a2), (3, vi a3), (4, vi a4)] [] S =
 (bI (K 127 [vr (some (13, 0)), vi a1] S) (fun x2 S1 =>
  (if x2 = 0 then
   some (vi (-1000000), S1)
  else
   (bI (K 135 [vr (some (13, 0)), vi a1, vi a2] S1) (fun x4 S3 =>
    (if 0 ≤ a1 ∧ a1 < 400 then
     (bI (K 104 [vr (some (3, 0)), vi (gD S3 14 0 (a1.toNat)), vi a2] S3) (fun x6 S5 =>
      (if 0 ≤ a1 ∧ a1 < 400 then
       (if a4 = 0 then
        (bI (K 102 [vr (some (3, 0)), vi (gD S3 14 0 (a1.toNat)), vi a2] S5) (fun x8 S7 =>
         some (vi (ab o 10 (aw o (x4 - (aw o (x6 * (aw o (a3 - (gD S5 18 0 (a1.toNat)))))))) (ab o 11 x8 x4)), S7)))
       else
        (bI (K 103 [vr (some (3, 0)), vi (gD S3 14 0 (a1.toNat)), vi a2] S5) (fun x10 S9 =>
         some (vi (ab o 11 (aw o (x4 + (aw o (x6 * (aw o (a3 - (gD S5 18 0 (a1.toNat)))))))) (ab o 10 x10 x4)), S9))))
      else none)))
    else none)))))) := rfl
set_option maxRecDepth 100000 in
theorem b144_0 (o : AR) (K : KT) (n : Nat) (S : SD) (a1 : Int) (a2 : Int) (a3 : Int) (a4 : Int) (a5 : Int) (a6 : Int) : run o K false mi_144 (n + 1) 0 [(0, vr (some (13, 0))), (1, vi a1), (2, vi a2), (3, vi a3), (4, vi a4), (5, vi a5), (6, vi a6)] [] S =
 (bI (K 96 [vr (some (3, 0)), vi a1] S) (fun x2 S1 =>
  (if x2 = 0 then
   run o K false mi_144 n 39 [(0, vr (some (13, 0))), (2, vi a2), (3, vi a3), (4, vi a4), (5, vi a5), (6, vi a6), (7, vi (-1000000)), (8, vi (-1)), (9, vi 0)] [] S1
  else
   (bI (K 189 [vi a2, vi 0, vi 2] S1) (fun x4 S3 =>
    (if x4 = 0 then
     run o K false mi_144 n 39 [(0, vr (some (13, 0))), (2, vi a2), (3, vi a3), (4, vi a4), (5, vi a5), (6, vi a6), (7, vi (-1000000)), (8, vi (-1)), (9, vi 0)] [] S3
    else
     (if 0 ≤ a1 ∧ a1 < 40 then
      run o K false mi_144 n 39 [(0, vr (some (13, 0))), (2, vi a2), (3, vi a3), (4, vi a4), (5, vi a5), (6, vi a6), (7, vi (-1000000)), (8, vi (gD S3 27 0 (a1.toNat))), (9, vi 0)] [] S3
     else none))))))) := rfl
set_option maxRecDepth 100000 in
theorem b144_39 (o : AR) (K : KT) (n : Nat) (S : SD) (l2 : Int) (l3 : Int) (l4 : Int) (l5 : Int) (l6 : Int) (l7 : Int) (l8 : Int) (l9 : Int) : run o K false mi_144 (n + 1) 39 [(0, vr (some (13, 0))), (2, vi l2), (3, vi l3), (4, vi l4), (5, vi l5), (6, vi l6), (7, vi l7), (8, vi l8), (9, vi l9)] [] S =
 (if l9 < (gD S 13 0 16) then
  (bI (K 127 [vr (some (13, 0)), vi l8] S) (fun x2 S1 =>
   (if x2 = 0 then
    some (vi l7, S1)
   else
    (if 0 ≤ l8 ∧ l8 < 400 then
     (if l5 < (gD S1 17 0 (l8.toNat)) then
      (if 0 ≤ l8 ∧ l8 < 400 then
       run o K false mi_144 n 39 [(0, vr (some (13, 0))), (2, vi l2), (3, vi l3), (4, vi l4), (5, vi l5), (6, vi l6), (7, vi l7), (8, vi (gD S1 25 0 (l8.toNat))), (9, vi (aw o (l9 + 1)))] [] S1
      else none)
     else
      (bI (K 134 [vr (some (13, 0)), vi l8, vi l2] S1) (fun x4 S3 =>
       (if x4 = 0 then
        (if 0 ≤ l8 ∧ l8 < 400 then
         run o K false mi_144 n 39 [(0, vr (some (13, 0))), (2, vi l2), (3, vi l3), (4, vi l4), (5, vi l5), (6, vi l6), (7, vi l7), (8, vi (gD S3 25 0 (l8.toNat))), (9, vi (aw o (l9 + 1)))] [] S3
        else none)
       else
        (if 0 ≤ l8 ∧ l8 < 400 then
         (if l4 < (gD S3 18 0 (l8.toNat)) then
          (if 0 ≤ l8 ∧ l8 < 400 then
           run o K false mi_144 n 39 [(0, vr (some (13, 0))), (2, vi l2), (3, vi l3), (4, vi l4), (5, vi l5), (6, vi l6), (7, vi l7), (8, vi (gD S3 25 0 (l8.toNat))), (9, vi (aw o (l9 + 1)))] [] S3
          else none)
         else
          (if 0 ≤ l8 ∧ l8 < 400 then
           (if (aw o (l4 - l3)) < (gD S3 19 0 (l8.toNat)) then
            (if 0 ≤ (aw o ((aw o (l8 * 3)) + l2)) ∧ (aw o ((aw o (l8 * 3)) + l2)) < 1200 then
             (if l7 = (-1000000) then
              (if 0 ≤ l8 ∧ l8 < 400 then
               run o K false mi_144 n 39 [(0, vr (some (13, 0))), (2, vi l2), (3, vi l3), (4, vi l4), (5, vi l5), (6, vi l6), (7, vi (gD S3 23 0 ((aw o ((aw o (l8 * 3)) + l2)).toNat))), (8, vi (gD S3 25 0 (l8.toNat))), (9, vi (aw o (l9 + 1)))] [] S3
              else none)
             else
              (if l6 = 0 then
               (if l6 = 0 then
                (if (gD S3 23 0 ((aw o ((aw o (l8 * 3)) + l2)).toNat)) < l7 then
                 (if 0 ≤ l8 ∧ l8 < 400 then
                  run o K false mi_144 n 39 [(0, vr (some (13, 0))), (2, vi l2), (3, vi l3), (4, vi l4), (5, vi l5), (6, vi l6), (7, vi (gD S3 23 0 ((aw o ((aw o (l8 * 3)) + l2)).toNat))), (8, vi (gD S3 25 0 (l8.toNat))), (9, vi (aw o (l9 + 1)))] [] S3
                 else none)
                else
                 (if 0 ≤ l8 ∧ l8 < 400 then
                  run o K false mi_144 n 39 [(0, vr (some (13, 0))), (2, vi l2), (3, vi l3), (4, vi l4), (5, vi l5), (6, vi l6), (7, vi l7), (8, vi (gD S3 25 0 (l8.toNat))), (9, vi (aw o (l9 + 1)))] [] S3
                 else none))
               else
                (if 0 ≤ l8 ∧ l8 < 400 then
                 run o K false mi_144 n 39 [(0, vr (some (13, 0))), (2, vi l2), (3, vi l3), (4, vi l4), (5, vi l5), (6, vi l6), (7, vi l7), (8, vi (gD S3 25 0 (l8.toNat))), (9, vi (aw o (l9 + 1)))] [] S3
                else none))
              else
               (if l7 < (gD S3 23 0 ((aw o ((aw o (l8 * 3)) + l2)).toNat)) then
                (if 0 ≤ l8 ∧ l8 < 400 then
                 run o K false mi_144 n 39 [(0, vr (some (13, 0))), (2, vi l2), (3, vi l3), (4, vi l4), (5, vi l5), (6, vi l6), (7, vi (gD S3 23 0 ((aw o ((aw o (l8 * 3)) + l2)).toNat))), (8, vi (gD S3 25 0 (l8.toNat))), (9, vi (aw o (l9 + 1)))] [] S3
                else none)
               else
                (if l6 = 0 then
                 (if (gD S3 23 0 ((aw o ((aw o (l8 * 3)) + l2)).toNat)) < l7 then
                  (if 0 ≤ l8 ∧ l8 < 400 then
                   run o K false mi_144 n 39 [(0, vr (some (13, 0))), (2, vi l2), (3, vi l3), (4, vi l4), (5, vi l5), (6, vi l6), (7, vi (gD S3 23 0 ((aw o ((aw o (l8 * 3)) + l2)).toNat))), (8, vi (gD S3 25 0 (l8.toNat))), (9, vi (aw o (l9 + 1)))] [] S3
                  else none)
                 else
                  (if 0 ≤ l8 ∧ l8 < 400 then
                   run o K false mi_144 n 39 [(0, vr (some (13, 0))), (2, vi l2), (3, vi l3), (4, vi l4), (5, vi l5), (6, vi l6), (7, vi l7), (8, vi (gD S3 25 0 (l8.toNat))), (9, vi (aw o (l9 + 1)))] [] S3
                  else none))
                else
                 (if 0 ≤ l8 ∧ l8 < 400 then
                  run o K false mi_144 n 39 [(0, vr (some (13, 0))), (2, vi l2), (3, vi l3), (4, vi l4), (5, vi l5), (6, vi l6), (7, vi l7), (8, vi (gD S3 25 0 (l8.toNat))), (9, vi (aw o (l9 + 1)))] [] S3
                 else none)))))
            else none)
           else
            (if 0 ≤ l8 ∧ l8 < 400 then
             run o K false mi_144 n 39 [(0, vr (some (13, 0))), (2, vi l2), (3, vi l3), (4, vi l4), (5, vi l5), (6, vi l6), (7, vi l7), (8, vi (gD S3 25 0 (l8.toNat))), (9, vi (aw o (l9 + 1)))] [] S3
            else none))
          else none))
        else none)))))
    else none))))
 else
  some (vi l7, S)) := rfl
set_option maxRecDepth 100000 in
theorem b145_0 (o : AR) (K : KT) (n : Nat) (S : SD) (a1 : Int) (a2 : Int) (a3 : Int) : run o K false mi_145 (n + 1) 0 [(0, vr (some (13, 0))), (1, vi a1), (2, vi a2), (3, vi a3)] [] S =
 (bI (K 96 [vr (some (3, 0)), vi a1] S) (fun x2 S1 =>
  (if x2 = 0 then
   run o K false mi_145 n 26 [(0, vr (some (13, 0))), (2, vi a2), (3, vi a3), (4, vi (-1)), (5, vi 0)] [] S1
  else
   (if 0 ≤ a1 ∧ a1 < 40 then
    run o K false mi_145 n 26 [(0, vr (some (13, 0))), (2, vi a2), (3, vi a3), (4, vi (gD S1 27 0 (a1.toNat))), (5, vi 0)] [] S1
   else none)))) := rfl
set_option maxRecDepth 100000 in
theorem b145_26 (o : AR) (K : KT) (n : Nat) (S : SD) (l2 : Int) (l3 : Int) (l4 : Int) (l5 : Int) : run o K false mi_145 (n + 1) 26 [(0, vr (some (13, 0))), (2, vi l2), (3, vi l3), (4, vi l4), (5, vi l5)] [] S =
 (if l5 < (gD S 13 0 16) then
  (bI (K 127 [vr (some (13, 0)), vi l4] S) (fun x2 S1 =>
   (if x2 = 0 then
    some (vi (-1000000), S1)
   else
    (if 0 ≤ l4 ∧ l4 < 400 then
     (if l2 < (gD S1 17 0 (l4.toNat)) then
      (if 0 ≤ l4 ∧ l4 < 400 then
       run o K false mi_145 n 26 [(0, vr (some (13, 0))), (2, vi l2), (3, vi l3), (4, vi (gD S1 25 0 (l4.toNat))), (5, vi (aw o (l5 + 1)))] [] S1
      else none)
     else
      (if 0 ≤ l4 ∧ l4 < 400 then
       (if l3 < (gD S1 17 0 (l4.toNat)) then
        (if 0 ≤ l4 ∧ l4 < 400 then
         run o K false mi_145 n 26 [(0, vr (some (13, 0))), (2, vi l2), (3, vi l3), (4, vi (gD S1 25 0 (l4.toNat))), (5, vi (aw o (l5 + 1)))] [] S1
        else none)
       else
        (if 0 ≤ l4 ∧ l4 < 400 then
         some (vi (aw o (l2 - (gD S1 17 0 (l4.toNat)))), S1)
        else none))
      else none))
    else none))))
 else
  some (vi (-1000000), S)) := rfl
set_option maxRecDepth 100000 in
theorem b146_0 (o : AR) (K : KT) (n : Nat) (S : SD) (a1 : Int) : run o K false mi_146 (n + 1) 0 [(0, vr (some (13, 0))), (1, vi a1)] [] S =
 (bI (K 96 [vr (some (3, 0)), vi a1] S) (fun x2 S1 =>
  (if x2 = 0 then
   some (vi (-1), S1)
  else
   (if 0 ≤ a1 ∧ a1 < 40 then
    some (vi (gD S1 27 0 (a1.toNat)), S1)
   else none)))) := rfl
