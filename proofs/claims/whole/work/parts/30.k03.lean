set_option maxRecDepth 100000 in
theorem b35_0 (o : AR) (K : KT) (n : Nat) (S : SD) (a1 : Int) (a2 : Int) (a4 : Int) : run o K false mi_35 (n + 1) 0 [(0, vr (some (68, 0))), (1, vi a1), (2, vl a2), (4, vi a4)] [] S =
 (if (gD S 68 0 9) < 8 then
  (bI (K 189 [vi a1, vi 0, vi 2] S) (fun x2 S1 =>
   (if x2 = 0 then
    some (vi (-1), S1)
   else
    (bI (K 189 [vi a4, vi 0, vi 1000000000] S1) (fun x4 S3 =>
     (if x4 = 0 then
      some (vi (-1), S3)
     else
      (if 0 < (ab o 9 a2 0) then
       (if (ab o 9 (ab o 8 a2 (gD S3 3 0 10)) 0) = 0 then
        (if 0 ≤ (gD S3 68 0 9) ∧ (gD S3 68 0 9) < 8 then
         (if 0 ≤ (gD (wD S3 69 0 (((gD S3 68 0 9)).toNat) a1) 68 0 9) ∧ (gD (wD S3 69 0 (((gD S3 68 0 9)).toNat) a1) 68 0 9) < 8 then
          (if 0 ≤ (gD (wD (wD S3 69 0 (((gD S3 68 0 9)).toNat) a1) 70 0 (((gD (wD S3 69 0 (((gD S3 68 0 9)).toNat) a1) 68 0 9)).toNat) a2) 68 0 9) ∧ (gD (wD (wD S3 69 0 (((gD S3 68 0 9)).toNat) a1) 70 0 (((gD (wD S3 69 0 (((gD S3 68 0 9)).toNat) a1) 68 0 9)).toNat) a2) 68 0 9) < 8 then
           some (vi (aw o ((gD (wD (wD (wD (wD S3 69 0 (((gD S3 68 0 9)).toNat) a1) 70 0 (((gD (wD S3 69 0 (((gD S3 68 0 9)).toNat) a1) 68 0 9)).toNat) a2) 71 0 (((gD (wD (wD S3 69 0 (((gD S3 68 0 9)).toNat) a1) 70 0 (((gD (wD S3 69 0 (((gD S3 68 0 9)).toNat) a1) 68 0 9)).toNat) a2) 68 0 9)).toNat) a4) 68 0 9 (aw o ((gD (wD (wD (wD S3 69 0 (((gD S3 68 0 9)).toNat) a1) 70 0 (((gD (wD S3 69 0 (((gD S3 68 0 9)).toNat) a1) 68 0 9)).toNat) a2) 71 0 (((gD (wD (wD S3 69 0 (((gD S3 68 0 9)).toNat) a1) 70 0 (((gD (wD S3 69 0 (((gD S3 68 0 9)).toNat) a1) 68 0 9)).toNat) a2) 68 0 9)).toNat) a4) 68 0 9) + 1))) 68 0 9) - 1)), wD (wD (wD (wD S3 69 0 (((gD S3 68 0 9)).toNat) a1) 70 0 (((gD (wD S3 69 0 (((gD S3 68 0 9)).toNat) a1) 68 0 9)).toNat) a2) 71 0 (((gD (wD (wD S3 69 0 (((gD S3 68 0 9)).toNat) a1) 70 0 (((gD (wD S3 69 0 (((gD S3 68 0 9)).toNat) a1) 68 0 9)).toNat) a2) 68 0 9)).toNat) a4) 68 0 9 (aw o ((gD (wD (wD (wD S3 69 0 (((gD S3 68 0 9)).toNat) a1) 70 0 (((gD (wD S3 69 0 (((gD S3 68 0 9)).toNat) a1) 68 0 9)).toNat) a2) 71 0 (((gD (wD (wD S3 69 0 (((gD S3 68 0 9)).toNat) a1) 70 0 (((gD (wD S3 69 0 (((gD S3 68 0 9)).toNat) a1) 68 0 9)).toNat) a2) 68 0 9)).toNat) a4) 68 0 9) + 1)))
          else none)
         else none)
        else none)
       else
        some (vi (-1), S3))
      else
       some (vi (-1), S3))))))))
 else
  some (vi (-1), S)) := rfl
set_option maxRecDepth 100000 in
theorem b36_0 (o : AR) (K : KT) (n : Nat) (S : SD) (a1 : Int) (a2 : Int) : run o K false mi_36 (n + 1) 0 [(0, vr (some (68, 0))), (1, vi a1), (2, vi a2)] [] S =
 (if 0 ≤ a1 ∧ a1 < 8 then
  (if (ab o 9 (ab o 5 (ab o 8 (gD S 70 0 (a1.toNat)) a2) 1) 1) = 0 then
   some (vi 1, S)
  else
   some (vi 0, S))
 else none) := rfl
set_option maxRecDepth 100000 in
theorem b37_0 (o : AR) (K : KT) (n : Nat) (S : SD) (a1 : Int) (a2 : Int) (a3 : Int) (a4 : Int) : run o K false mi_37 (n + 1) 0 [(0, vr (some (68, 0))), (1, vi a1), (2, vi a2), (3, vi a3), (4, vi a4)] [] S =
 (bI (K 142 [vr (some (13, 0)), vi a1, vi a2, vi a3, vi a4] S) (fun x2 S1 =>
  (if x2 = (-1) then
   (bI (K 103 [vr (some (3, 0)), vi a1, vi a2] S1) (fun x4 S3 =>
    (bI (K 102 [vr (some (3, 0)), vi a1, vi a2] S3) (fun x6 S5 =>
     some (vi (aw o (x4 - x6)), S5)))))
  else
   (bI (K 143 [vr (some (13, 0)), vi x2, vi a2, vi a3, vi 1] S1) (fun x8 S7 =>
    (bI (K 143 [vr (some (13, 0)), vi x2, vi a2, vi a3, vi 0] S7) (fun x10 S9 =>
     some (vi (aw o (x8 - x10)), S9)))))))) := rfl
set_option maxRecDepth 100000 in
theorem b38_0 (o : AR) (K : KT) (n : Nat) (S : SD) (a1 : Int) (a2 : Int) (a3 : Int) (a4 : Int) : run o K false mi_38 (n + 1) 0 [(0, vr (some (68, 0))), (1, vi a1), (2, vi a2), (3, vi a3), (4, vi a4)] [] S =
 (bI (K 104 [vr (some (3, 0)), vi a1, vi a2] S) (fun x2 S1 =>
  (bI (K 103 [vr (some (3, 0)), vi a1, vi a2] S1) (fun x4 S3 =>
   (bI (K 102 [vr (some (3, 0)), vi a1, vi a2] S3) (fun x6 S5 =>
    (bI (K 37 [vr (some (68, 0)), vi a1, vi a2, vi a3, vi a4] S5) (fun x8 S7 =>
     some (vi (ab o 11 (ab o 11 (aw o ((aw o (2 * x2)) * (aw o (a3 - a4)))) (aw o (x4 - x6))) x8), S7))))))))) := rfl
set_option maxRecDepth 100000 in
theorem b39_0 (o : AR) (K : KT) (n : Nat) (S : SD) (a1 : Int) (a2 : Int) (a3 : Int) : run o K false mi_39 (n + 1) 0 [(0, vr (some (68, 0))), (1, vi a1), (2, vi a2), (3, vi a3)] [] S =
 (if a1 < 0 then
  some (vi (-1), S)
 else
  (if a1 < (gD S 68 0 9) then
   (if a1 < 8 then
    run o K false mi_39 n 26 [(0, vr (some (68, 0))), (1, vi a1), (2, vi a2), (3, vi a3), (4, vi 0), (5, vi 0)] [] S
   else
    some (vi (-1), S))
  else
   some (vi (-1), S))) := rfl
set_option maxRecDepth 100000 in
theorem b39_26 (o : AR) (K : KT) (n : Nat) (S : SD) (l1 : Int) (l2 : Int) (l3 : Int) (l4 : Int) (l5 : Int) : run o K false mi_39 (n + 1) 26 [(0, vr (some (68, 0))), (1, vi l1), (2, vi l2), (3, vi l3), (4, vi l4), (5, vi l5)] [] S =
 (if l5 < 40 then
  (bI (K 36 [vr (some (68, 0)), vi l1, vi l5] S) (fun x2 S1 =>
   (if x2 = 0 then
    run o K false mi_39 n 26 [(0, vr (some (68, 0))), (1, vi l1), (2, vi l2), (3, vi l3), (4, vi l4), (5, vi (aw o (l5 + 1)))] [] S1
   else
    (if 0 ≤ l1 ∧ l1 < 8 then
     (bI (K 37 [vr (some (68, 0)), vi l5, vi (gD S1 69 0 (l1.toNat)), vi l2, vi l3] S1) (fun x4 S3 =>
      run o K false mi_39 n 26 [(0, vr (some (68, 0))), (1, vi l1), (2, vi l2), (3, vi l3), (4, vi (aw o (l4 + x4))), (5, vi (aw o (l5 + 1)))] [] S3))
    else none))))
 else
  some (vi l4, S)) := rfl
set_option maxRecDepth 100000 in
theorem b40_0 (o : AR) (K : KT) (n : Nat) (S : SD) (a1 : Int) (a2 : Int) : run o K false mi_40 (n + 1) 0 [(0, vr (some (68, 0))), (1, vi a1), (2, vi a2)] [] S =
 (if (gD S 68 0 9) = 0 then
  some (vi (-1), S)
 else
  (bI (K 41 [vr (some (68, 0))] S) (fun x2 S1 =>
   (if x2 = 0 then
    some (vi (-2), S1)
   else
    (bV (K 42 [vr (some (68, 0)), vi a1, vi a2] S1) (fun S3 =>
     run o K false mi_40 n 33 [(0, vr (some (68, 0))), (3, vi (-1)), (4, vi 0), (5, vi 0)] [] S3)))))) := rfl
set_option maxRecDepth 100000 in
theorem b40_33 (o : AR) (K : KT) (n : Nat) (S : SD) (l3 : Int) (l4 : Int) (l5 : Int) : run o K false mi_40 (n + 1) 33 [(0, vr (some (68, 0))), (3, vi l3), (4, vi l4), (5, vi l5)] [] S =
 (if l5 < (ab o 3 1 (gD S 68 0 8)) then
  (bI (K 43 [vr (some (68, 0)), vi l5] S) (fun x2 S1 =>
   (if l3 = (-1) then
    (bI (K 44 [vr (some (68, 0)), vi l5] S1) (fun x4 S3 =>
     (if x4 = 0 then
      run o K false mi_40 n 33 [(0, vr (some (68, 0))), (3, vi l3), (4, vi l4), (5, vi (aw o (l5 + 1)))] [] S3
     else
      run o K false mi_40 n 33 [(0, vr (some (68, 0))), (3, vi l5), (4, vi x2), (5, vi (aw o (l5 + 1)))] [] S3)))
   else
    (if x2 < l4 then
     (bI (K 44 [vr (some (68, 0)), vi l5] S1) (fun x6 S5 =>
      (if x6 = 0 then
       run o K false mi_40 n 33 [(0, vr (some (68, 0))), (3, vi l3), (4, vi l4), (5, vi (aw o (l5 + 1)))] [] S5
      else
       run o K false mi_40 n 33 [(0, vr (some (68, 0))), (3, vi l5), (4, vi x2), (5, vi (aw o (l5 + 1)))] [] S5)))
    else
     run o K false mi_40 n 33 [(0, vr (some (68, 0))), (3, vi l3), (4, vi l4), (5, vi (aw o (l5 + 1)))] [] S1))))
 else
  (if l3 = (-1) then
   some (vi (-3), S)
  else
   (bL (K 45 [vr (some (68, 0)), vi l3] S) (fun x8 S7 =>
    some (vi l4, wD S7 68 0 10 x8))))) := rfl
set_option maxRecDepth 100000 in
theorem b41_0 (o : AR) (K : KT) (n : Nat) (S : SD) : run o K false mi_41 (n + 1) 0 [(0, vr (some (68, 0)))] [] S =
 run o K false mi_41 n 4 [(0, vr (some (68, 0))), (1, vl 0), (3, vi 0)] [] S := rfl
set_option maxRecDepth 100000 in
theorem b41_4 (o : AR) (K : KT) (n : Nat) (S : SD) (l1 : Int) (l3 : Int) : run o K false mi_41 (n + 1) 4 [(0, vr (some (68, 0))), (1, vl l1), (3, vi l3)] [] S =
 (if l3 < (gD S 68 0 9) then
  (if l3 < 8 then
   (if 0 ≤ l3 ∧ l3 < 8 then
    run o K false mi_41 n 4 [(0, vr (some (68, 0))), (1, vl (ab o 6 l1 (gD S 70 0 (l3.toNat)))), (3, vi (aw o (l3 + 1)))] [] S
   else none)
  else
   run o K false mi_41 n 40 [(0, vr (some (68, 0))), (1, vl l1), (3, vi 0)] [] (wD S 68 0 8 0))
 else
  run o K false mi_41 n 40 [(0, vr (some (68, 0))), (1, vl l1), (3, vi 0)] [] (wD S 68 0 8 0)) := rfl
set_option maxRecDepth 100000 in
theorem b41_40 (o : AR) (K : KT) (n : Nat) (S : SD) (l1 : Int) (l3 : Int) : run o K false mi_41 (n + 1) 40 [(0, vr (some (68, 0))), (1, vl l1), (3, vi l3)] [] S =
 (if l3 < 40 then
  (if (ab o 9 (ab o 5 (ab o 8 l1 l3) 1) 1) = 0 then
   (if (gD S 68 0 8) < 12 then
    (if 0 ≤ (gD S 68 0 8) ∧ (gD S 68 0 8) < 12 then
     run o K false mi_41 n 40 [(0, vr (some (68, 0))), (1, vl l1), (3, vi (aw o (l3 + 1)))] [] (wD (wD S 72 0 (((gD S 68 0 8)).toNat) l3) 68 0 8 (aw o ((gD (wD S 72 0 (((gD S 68 0 8)).toNat) l3) 68 0 8) + 1)))
    else none)
   else
    some (vi 0, S))
  else
   run o K false mi_41 n 40 [(0, vr (some (68, 0))), (1, vl l1), (3, vi (aw o (l3 + 1)))] [] S)
 else
  some (vi 1, S)) := rfl
set_option maxRecDepth 100000 in
theorem b42_0 (o : AR) (K : KT) (n : Nat) (S : SD) (a1 : Int) (a2 : Int) : run o K false mi_42 (n + 1) 0 [(0, vr (some (68, 0))), (1, vi a1), (2, vi a2)] [] S =
 run o K false mi_42 n 2 [(0, vr (some (68, 0))), (1, vi a1), (2, vi a2), (3, vi 0)] [] S := rfl
set_option maxRecDepth 100000 in
theorem b42_2 (o : AR) (K : KT) (n : Nat) (S : SD) (l1 : Int) (l2 : Int) (l3 : Int) : run o K false mi_42 (n + 1) 2 [(0, vr (some (68, 0))), (1, vi l1), (2, vi l2), (3, vi l3)] [] S =
 (if l3 < (gD S 68 0 9) then
  (if l3 < 8 then
   (bI (K 39 [vr (some (68, 0)), vi l3, vi l1, vi l2] S) (fun x2 S1 =>
    (if 0 ≤ l3 ∧ l3 < 8 then
     (if 0 ≤ l3 ∧ l3 < 8 then
      run o K false mi_42 n 39 [(0, vr (some (68, 0))), (1, vi l1), (2, vi l2), (3, vi l3), (4, vi 0)] [] (wD S1 73 0 ((l3).toNat) (aw o (x2 - (gD S1 71 0 (l3.toNat)))))
     else none)
    else none)))
  else
   some (vi 0, S))
 else
  some (vi 0, S)) := rfl
set_option maxRecDepth 100000 in
theorem b42_39 (o : AR) (K : KT) (n : Nat) (S : SD) (l1 : Int) (l2 : Int) (l3 : Int) (l4 : Int) : run o K false mi_42 (n + 1) 39 [(0, vr (some (68, 0))), (1, vi l1), (2, vi l2), (3, vi l3), (4, vi l4)] [] S =
 (if l4 < (gD S 68 0 8) then
  (if l4 < 12 then
   (if 0 ≤ l4 ∧ l4 < 12 then
    (if 0 ≤ l3 ∧ l3 < 8 then
     (bI (K 36 [vr (some (68, 0)), vi l3, vi (gD S 72 0 (l4.toNat))] S) (fun x2 S1 =>
      (if x2 = 0 then
       (if 0 ≤ (aw o ((aw o (l3 * 12)) + l4)) ∧ (aw o ((aw o (l3 * 12)) + l4)) < 96 then
        run o K false mi_42 n 39 [(0, vr (some (68, 0))), (1, vi l1), (2, vi l2), (3, vi l3), (4, vi (aw o (l4 + 1)))] [] (wD S1 74 0 (((aw o ((aw o (l3 * 12)) + l4))).toNat) 0)
       else none)
      else
       (bI (K 37 [vr (some (68, 0)), vi (gD S 72 0 (l4.toNat)), vi (gD S 69 0 (l3.toNat)), vi l1, vi l2] S1) (fun x4 S3 =>
        (bI (K 38 [vr (some (68, 0)), vi (gD S 72 0 (l4.toNat)), vi (gD S 69 0 (l3.toNat)), vi l1, vi l2] S3) (fun x6 S5 =>
         (if 0 ≤ (aw o ((aw o (l3 * 12)) + l4)) ∧ (aw o ((aw o (l3 * 12)) + l4)) < 96 then
          run o K false mi_42 n 39 [(0, vr (some (68, 0))), (1, vi l1), (2, vi l2), (3, vi l3), (4, vi (aw o (l4 + 1)))] [] (wD S5 74 0 (((aw o ((aw o (l3 * 12)) + l4))).toNat) (aw o (x4 - x6)))
         else none))))))))
    else none)
   else none)
  else
   run o K false mi_42 n 2 [(0, vr (some (68, 0))), (1, vi l1), (2, vi l2), (3, vi (aw o (l3 + 1)))] [] S)
 else
  run o K false mi_42 n 2 [(0, vr (some (68, 0))), (1, vi l1), (2, vi l2), (3, vi (aw o (l3 + 1)))] [] S) := rfl
set_option maxRecDepth 100000 in
theorem b43_0 (o : AR) (K : KT) (n : Nat) (S : SD) (a1 : Int) : run o K false mi_43 (n + 1) 0 [(0, vr (some (68, 0))), (1, vi a1)] [] S =
 run o K false mi_43 n 4 [(0, vr (some (68, 0))), (1, vi a1), (2, vi 0), (3, vi 0)] [] S := rfl
set_option maxRecDepth 100000 in
theorem b43_4 (o : AR) (K : KT) (n : Nat) (S : SD) (l1 : Int) (l2 : Int) (l3 : Int) : run o K false mi_43 (n + 1) 4 [(0, vr (some (68, 0))), (1, vi l1), (2, vi l2), (3, vi l3)] [] S =
 (if l3 < (gD S 68 0 8) then
  (if l3 < 12 then
   (if (ab o 0 (ab o 4 l1 l3) 1) = 1 then
    (if 0 ≤ l3 ∧ l3 < 12 then
     (bI (K 100 [vr (some (3, 0)), vi (gD S 72 0 (l3.toNat))] S) (fun x2 S1 =>
      run o K false mi_43 n 4 [(0, vr (some (68, 0))), (1, vi l1), (2, vi (aw o (l2 + x2))), (3, vi (aw o (l3 + 1)))] [] S1))
    else none)
   else
    run o K false mi_43 n 4 [(0, vr (some (68, 0))), (1, vi l1), (2, vi l2), (3, vi (aw o (l3 + 1)))] [] S)
  else
   some (vi l2, S))
 else
  some (vi l2, S)) := rfl
set_option maxRecDepth 100000 in
theorem b44_0 (o : AR) (K : KT) (n : Nat) (S : SD) (a1 : Int) : run o K false mi_44 (n + 1) 0 [(0, vr (some (68, 0))), (1, vi a1)] [] S =
 run o K false mi_44 n 2 [(0, vr (some (68, 0))), (1, vi a1), (2, vi 0)] [] S := rfl
set_option maxRecDepth 100000 in
theorem b44_2 (o : AR) (K : KT) (n : Nat) (S : SD) (l1 : Int) (l2 : Int) : run o K false mi_44 (n + 1) 2 [(0, vr (some (68, 0))), (1, vi l1), (2, vi l2)] [] S =
 (if l2 < (gD S 68 0 9) then
  (if l2 < 8 then
   (if 0 ≤ l2 ∧ l2 < 8 then
    run o K false mi_44 n 26 [(0, vr (some (68, 0))), (1, vi l1), (2, vi l2), (3, vi (gD S 73 0 (l2.toNat))), (4, vi 0)] [] S
   else none)
  else
   some (vi 1, S))
 else
  some (vi 1, S)) := rfl
set_option maxRecDepth 100000 in
theorem b44_26 (o : AR) (K : KT) (n : Nat) (S : SD) (l1 : Int) (l2 : Int) (l3 : Int) (l4 : Int) : run o K false mi_44 (n + 1) 26 [(0, vr (some (68, 0))), (1, vi l1), (2, vi l2), (3, vi l3), (4, vi l4)] [] S =
 (if l4 < (gD S 68 0 8) then
  (if l4 < 12 then
   (if (ab o 0 (ab o 4 l1 l4) 1) = 1 then
    (if 0 ≤ (aw o ((aw o (l2 * 12)) + l4)) ∧ (aw o ((aw o (l2 * 12)) + l4)) < 96 then
     run o K false mi_44 n 26 [(0, vr (some (68, 0))), (1, vi l1), (2, vi l2), (3, vi (aw o (l3 - (gD S 74 0 ((aw o ((aw o (l2 * 12)) + l4)).toNat))))), (4, vi (aw o (l4 + 1)))] [] S
    else none)
   else
    run o K false mi_44 n 26 [(0, vr (some (68, 0))), (1, vi l1), (2, vi l2), (3, vi (aw o (l3 - 0))), (4, vi (aw o (l4 + 1)))] [] S)
  else
   (if 0 < l3 then
    some (vi 0, S)
   else
    run o K false mi_44 n 2 [(0, vr (some (68, 0))), (1, vi l1), (2, vi (aw o (l2 + 1)))] [] S))
 else
  (if 0 < l3 then
   some (vi 0, S)
  else
   run o K false mi_44 n 2 [(0, vr (some (68, 0))), (1, vi l1), (2, vi (aw o (l2 + 1)))] [] S)) := rfl
set_option maxRecDepth 100000 in
theorem b45_0 (o : AR) (K : KT) (n : Nat) (S : SD) (a1 : Int) : run o K false mi_45 (n + 1) 0 [(0, vr (some (68, 0))), (1, vi a1)] [] S =
 run o K false mi_45 n 5 [(0, vr (some (68, 0))), (1, vi a1), (2, vl 0), (4, vi 0)] [] S := rfl
set_option maxRecDepth 100000 in
theorem b45_5 (o : AR) (K : KT) (n : Nat) (S : SD) (l1 : Int) (l2 : Int) (l4 : Int) : run o K false mi_45 (n + 1) 5 [(0, vr (some (68, 0))), (1, vi l1), (2, vl l2), (4, vi l4)] [] S =
 (if l4 < (gD S 68 0 8) then
  (if l4 < 12 then
   (if (ab o 0 (ab o 4 l1 l4) 1) = 1 then
    (if 0 ≤ l4 ∧ l4 < 12 then
     run o K false mi_45 n 5 [(0, vr (some (68, 0))), (1, vi l1), (2, vl (ab o 6 l2 (ab o 7 1 (gD S 72 0 (l4.toNat))))), (4, vi (aw o (l4 + 1)))] [] S
    else none)
   else
    run o K false mi_45 n 5 [(0, vr (some (68, 0))), (1, vi l1), (2, vl l2), (4, vi (aw o (l4 + 1)))] [] S)
  else
   some (vl l2, S))
 else
  some (vl l2, S)) := rfl
