set_option maxRecDepth 100000 in
theorem b85_0 (o : AR) (K : KT) (n : Nat) (S : SD) (a1 : Int) : run o K false mi_85 (n + 1) 0 [(0, vr (some (62, 0))), (1, vi a1)] [] S =
 (bI (K 86 [vr (some (62, 0)), vi a1] S) (fun x2 S1 =>
  (if x2 = 0 then
   some (vi (-2), S1)
  else
   run o K false mi_85 n 15 [(0, vr (some (62, 0))), (1, vi a1), (2, vi 1), (3, vi 0)] [] S1))) := rfl
set_option maxRecDepth 100000 in
theorem b85_15 (o : AR) (K : KT) (n : Nat) (S : SD) (l1 : Int) (l2 : Int) (l3 : Int) : run o K false mi_85 (n + 1) 15 [(0, vr (some (62, 0))), (1, vi l1), (2, vi l2), (3, vi l3)] [] S =
 (if l3 < (gD S 62 0 7) then
  (if 0 ≤ l3 ∧ l3 < 13 then
   (if 0 ≤ (aw o (l3 + 1)) ∧ (aw o (l3 + 1)) < 13 then
    (bV (K 87 [vr (some (62, 0)), vi l3, vi l1] (wD S 66 0 (((aw o (l3 + 1))).toNat) (gD S 66 0 (l3.toNat)))) (fun S1 =>
     (if 0 ≤ l3 ∧ l3 < 12 then
      (if 0 ≤ (aw o (l3 + 1)) ∧ (aw o (l3 + 1)) < 13 then
       (if 0 ≤ l3 ∧ l3 < 13 then
        (if 20000 < (aw o (l2 * (aw o ((gD (wD S1 67 0 ((l3).toNat) 0) 66 0 ((aw o (l3 + 1)).toNat)) - (gD (wD S1 67 0 ((l3).toNat) 0) 66 0 (l3.toNat)))))) then
         some (vi (-2), wD S1 67 0 ((l3).toNat) 0)
        else
         run o K false mi_85 n 15 [(0, vr (some (62, 0))), (1, vi l1), (2, vi (aw o (l2 * (aw o ((gD (wD S1 67 0 ((l3).toNat) 0) 66 0 ((aw o (l3 + 1)).toNat)) - (gD (wD S1 67 0 ((l3).toNat) 0) 66 0 (l3.toNat))))))), (3, vi (aw o (l3 + 1)))] [] (wD S1 67 0 ((l3).toNat) 0))
       else none)
      else none)
     else none)))
   else none)
  else none)
 else
  some (vi l2, S)) := rfl
set_option maxRecDepth 100000 in
theorem b86_0 (o : AR) (K : KT) (n : Nat) (S : SD) (a1 : Int) : run o K false mi_86 (n + 1) 0 [(0, vr (some (62, 0))), (1, vi a1)] [] S =
 run o K false mi_86 n 2 [(0, vr (some (62, 0))), (1, vi a1), (2, vi 0)] [] S := rfl
set_option maxRecDepth 100000 in
theorem b86_2 (o : AR) (K : KT) (n : Nat) (S : SD) (l1 : Int) (l2 : Int) : run o K false mi_86 (n + 1) 2 [(0, vr (some (62, 0))), (1, vi l1), (2, vi l2)] [] S =
 (if l2 < 120 then
  (if 0 ≤ l2 ∧ l2 < 120 then
   run o K false mi_86 n 2 [(0, vr (some (62, 0))), (1, vi l1), (2, vi (aw o (l2 + 1)))] [] (wD S 64 0 ((l2).toNat) (-1))
  else none)
 else
  run o K false mi_86 n 23 [(0, vr (some (62, 0))), (1, vi l1), (2, vi 0)] [] S) := rfl
set_option maxRecDepth 100000 in
theorem b86_23 (o : AR) (K : KT) (n : Nat) (S : SD) (l1 : Int) (l2 : Int) : run o K false mi_86 (n + 1) 23 [(0, vr (some (62, 0))), (1, vi l1), (2, vi l2)] [] S =
 (if l2 < 20 then
  (if (ab o 0 (ab o 4 l1 l2) 1) = 1 then
   (bR (K 110 [vr (some (41, 0)), vi l2] S) 47 (fun S1 =>
    run o K false mi_86 n 54 [(0, vr (some (62, 0))), (1, vi l1), (2, vi l2), (3, vr none), (4, vi 0)] [] S1)
   (fun j2 S1 =>
    run o K false mi_86 n 54 [(0, vr (some (62, 0))), (1, vi l1), (2, vi l2), (3, vr (some (47, j2))), (4, vi 0)] [] S1))
  else
   run o K false mi_86 n 54 [(0, vr (some (62, 0))), (1, vi l1), (2, vi l2), (3, vr none), (4, vi 0)] [] S)
 else
  run o K false mi_86 n 114 [(0, vr (some (62, 0))), (2, vi 0)] [] (wD S 62 0 7 0)) := rfl
set_option maxRecDepth 100000 in
theorem b86_54 (o : AR) (K : KT) (n : Nat) (S : SD) (l1 : Int) (l2 : Int) (l4 : Int) : run o K false mi_86 (n + 1) 54 [(0, vr (some (62, 0))), (1, vi l1), (2, vi l2), (3, vr none), (4, vi l4)] [] S =
 run o K false mi_86 n 23 [(0, vr (some (62, 0))), (1, vi l1), (2, vi (aw o (l2 + 1)))] [] S := rfl
set_option maxRecDepth 100000 in
theorem b86_54a (o : AR) (K : KT) (n : Nat) (S : SD) (l1 : Int) (l2 : Int) (j3 : Nat) (l4 : Int) : run o K false mi_86 (n + 1) 54 [(0, vr (some (62, 0))), (1, vi l1), (2, vi l2), (3, vr (some (47, j3))), (4, vi l4)] [] S =
 (if l4 < (gD S 47 j3 7) then
  (bI (K 50 [vr (some (47, j3)), vi l4] S) (fun x2 S1 =>
   (if x2 < 0 then
    run o K false mi_86 n 54 [(0, vr (some (62, 0))), (1, vi l1), (2, vi l2), (3, vr (some (47, j3))), (4, vi (aw o (l4 + 1)))] [] S1
   else
    (if x2 < 120 then
     (if 0 ≤ x2 ∧ x2 < 120 then
      run o K false mi_86 n 54 [(0, vr (some (62, 0))), (1, vi l1), (2, vi l2), (3, vr (some (47, j3))), (4, vi (aw o (l4 + 1)))] [] (wD S1 64 0 ((x2).toNat) 0)
     else none)
    else
     run o K false mi_86 n 54 [(0, vr (some (62, 0))), (1, vi l1), (2, vi l2), (3, vr (some (47, j3))), (4, vi (aw o (l4 + 1)))] [] S1))))
 else
  run o K false mi_86 n 23 [(0, vr (some (62, 0))), (1, vi l1), (2, vi (aw o (l2 + 1)))] [] S) := rfl
set_option maxRecDepth 100000 in
theorem b86_114 (o : AR) (K : KT) (n : Nat) (S : SD) (l2 : Int) : run o K false mi_86 (n + 1) 114 [(0, vr (some (62, 0))), (2, vi l2)] [] S =
 (if l2 < 120 then
  (if 0 ≤ l2 ∧ l2 < 120 then
   (if (gD S 64 0 (l2.toNat)) = (-1) then
    run o K false mi_86 n 114 [(0, vr (some (62, 0))), (2, vi (aw o (l2 + 1)))] [] S
   else
    (if (gD S 62 0 7) < 12 then
     (if 0 ≤ (gD S 62 0 7) ∧ (gD S 62 0 7) < 12 then
      (if 0 ≤ l2 ∧ l2 < 120 then
       run o K false mi_86 n 114 [(0, vr (some (62, 0))), (2, vi (aw o (l2 + 1)))] [] (wD (wD (wD S 63 0 (((gD S 62 0 7)).toNat) l2) 64 0 ((l2).toNat) (gD (wD S 63 0 (((gD S 62 0 7)).toNat) l2) 62 0 7)) 62 0 7 (aw o ((gD (wD (wD S 63 0 (((gD S 62 0 7)).toNat) l2) 64 0 ((l2).toNat) (gD (wD S 63 0 (((gD S 62 0 7)).toNat) l2) 62 0 7)) 62 0 7) + 1)))
      else none)
     else none)
    else
     some (vi 0, S)))
  else none)
 else
  some (vi 1, S)) := rfl
set_option maxRecDepth 100000 in
theorem b87_0 (o : AR) (K : KT) (n : Nat) (S : SD) (a1 : Int) (a2 : Int) : run o K false mi_87 (n + 1) 0 [(0, vr (some (62, 0))), (1, vi a1), (2, vi a2)] [] S =
 (if 0 ≤ a1 ∧ a1 < 12 then
  (bI (K 102 [vr (some (3, 0)), vi (aw o (ab o 12 (gD S 63 0 (a1.toNat)) 3)), vi (aw o ((gD S 63 0 (a1.toNat)) - ab o 12 (gD S 63 0 (a1.toNat)) 3 * 3))] S) (fun x2 S1 =>
   (bI (K 103 [vr (some (3, 0)), vi (aw o (ab o 12 (gD S 63 0 (a1.toNat)) 3)), vi (aw o ((gD S 63 0 (a1.toNat)) - ab o 12 (gD S 63 0 (a1.toNat)) 3 * 3))] S1) (fun x4 S3 =>
    (bV (K 89 [vr (some (62, 0)), vi a1, vi x2] S3) (fun S5 =>
     (bV (K 89 [vr (some (62, 0)), vi a1, vi x4] S5) (fun S6 =>
      run o K false mi_87 n 54 [(0, vr (some (62, 0))), (1, vi a1), (2, vi a2), (3, vi (gD S 63 0 (a1.toNat))), (4, vi x2), (5, vi x4), (6, vi 0)] [] S6))))))))
 else none) := rfl
set_option maxRecDepth 100000 in
theorem b87_54 (o : AR) (K : KT) (n : Nat) (S : SD) (l1 : Int) (l2 : Int) (l3 : Int) (l4 : Int) (l5 : Int) (l6 : Int) : run o K false mi_87 (n + 1) 54 [(0, vr (some (62, 0))), (1, vi l1), (2, vi l2), (3, vi l3), (4, vi l4), (5, vi l5), (6, vi l6)] [] S =
 (if l6 < 20 then
  (if (ab o 0 (ab o 4 l2 l6) 1) = 1 then
   (bR (K 110 [vr (some (41, 0)), vi l6] S) 47 (fun S1 =>
    run o K false mi_87 n 89 [(0, vr (some (62, 0))), (1, vi l1), (2, vi l2), (3, vi l3), (4, vi l4), (5, vi l5), (6, vi l6), (7, vr none), (8, vi 0)] [] S1)
   (fun j2 S1 =>
    run o K false mi_87 n 89 [(0, vr (some (62, 0))), (1, vi l1), (2, vi l2), (3, vi l3), (4, vi l4), (5, vi l5), (6, vi l6), (7, vr (some (47, j2))), (8, vi 0)] [] S1))
  else
   run o K false mi_87 n 89 [(0, vr (some (62, 0))), (1, vi l1), (2, vi l2), (3, vi l3), (4, vi l4), (5, vi l5), (6, vi l6), (7, vr none), (8, vi 0)] [] S)
 else
  some (vi 0, S)) := rfl
set_option maxRecDepth 100000 in
theorem b87_89 (o : AR) (K : KT) (n : Nat) (S : SD) (l1 : Int) (l2 : Int) (l3 : Int) (l4 : Int) (l5 : Int) (l6 : Int) (l8 : Int) : run o K false mi_87 (n + 1) 89 [(0, vr (some (62, 0))), (1, vi l1), (2, vi l2), (3, vi l3), (4, vi l4), (5, vi l5), (6, vi l6), (7, vr none), (8, vi l8)] [] S =
 run o K false mi_87 n 54 [(0, vr (some (62, 0))), (1, vi l1), (2, vi l2), (3, vi l3), (4, vi l4), (5, vi l5), (6, vi (aw o (l6 + 1)))] [] S := rfl
set_option maxRecDepth 100000 in
theorem b87_89a (o : AR) (K : KT) (n : Nat) (S : SD) (l1 : Int) (l2 : Int) (l3 : Int) (l4 : Int) (l5 : Int) (l6 : Int) (j7 : Nat) (l8 : Int) : run o K false mi_87 (n + 1) 89 [(0, vr (some (62, 0))), (1, vi l1), (2, vi l2), (3, vi l3), (4, vi l4), (5, vi l5), (6, vi l6), (7, vr (some (47, j7))), (8, vi l8)] [] S =
 (if l8 < (gD S 47 j7 7) then
  (bI (K 50 [vr (some (47, j7)), vi l8] S) (fun x2 S1 =>
   (if x2 = l3 then
    (bI (K 49 [vr (some (47, j7)), vi l8] S1) (fun x4 S3 =>
     (if x4 = 0 then
      run o K false mi_87 n 89 [(0, vr (some (62, 0))), (1, vi l1), (2, vi l2), (3, vi l3), (4, vi l4), (5, vi l5), (6, vi l6), (7, vr (some (47, j7))), (8, vi (aw o (l8 + 1)))] [] S3
     else
      (if 0 ≤ l8 ∧ l8 < 16 then
       (bV (K 88 [vr (some (62, 0)), vi l1, vi (gD S3 53 j7 (l8.toNat)), vi l4, vi l5] S3) (fun S5 =>
        run o K false mi_87 n 89 [(0, vr (some (62, 0))), (1, vi l1), (2, vi l2), (3, vi l3), (4, vi l4), (5, vi l5), (6, vi l6), (7, vr (some (47, j7))), (8, vi (aw o (l8 + 1)))] [] S5))
      else none))))
   else
    run o K false mi_87 n 89 [(0, vr (some (62, 0))), (1, vi l1), (2, vi l2), (3, vi l3), (4, vi l4), (5, vi l5), (6, vi l6), (7, vr (some (47, j7))), (8, vi (aw o (l8 + 1)))] [] S1)))
 else
  run o K false mi_87 n 54 [(0, vr (some (62, 0))), (1, vi l1), (2, vi l2), (3, vi l3), (4, vi l4), (5, vi l5), (6, vi (aw o (l6 + 1)))] [] S) := rfl
set_option maxRecDepth 100000 in
theorem b88_0 (o : AR) (K : KT) (n : Nat) (S : SD) (a1 : Int) (a2 : Int) (a3 : Int) (a4 : Int) : run o K false mi_88 (n + 1) 0 [(0, vr (some (62, 0))), (1, vi a1), (2, vi a2), (3, vi a3), (4, vi a4)] [] S =
 run o K false mi_88 n 5 [(0, vr (some (62, 0))), (1, vi a1), (2, vi a2), (3, vi a3), (4, vi a4), (5, vi (aw o (a2 - 1)))] [] S := rfl
set_option maxRecDepth 100000 in
theorem b88_5 (o : AR) (K : KT) (n : Nat) (S : SD) (l1 : Int) (l2 : Int) (l3 : Int) (l4 : Int) (l5 : Int) : run o K false mi_88 (n + 1) 5 [(0, vr (some (62, 0))), (1, vi l1), (2, vi l2), (3, vi l3), (4, vi l4), (5, vi l5)] [] S =
 (if (aw o (l2 + 1)) < l5 then
  some (vi 0, S)
 else
  (bI (K 189 [vi l5, vi l3, vi l4] S) (fun x2 S1 =>
   (if x2 = 0 then
    run o K false mi_88 n 5 [(0, vr (some (62, 0))), (1, vi l1), (2, vi l2), (3, vi l3), (4, vi l4), (5, vi (aw o (l5 + 1)))] [] S1
   else
    (bV (K 89 [vr (some (62, 0)), vi l1, vi l5] S1) (fun S3 =>
     run o K false mi_88 n 5 [(0, vr (some (62, 0))), (1, vi l1), (2, vi l2), (3, vi l3), (4, vi l4), (5, vi (aw o (l5 + 1)))] [] S3)))))) := rfl
set_option maxRecDepth 100000 in
theorem b89_0 (o : AR) (K : KT) (n : Nat) (S : SD) (a1 : Int) (a2 : Int) : run o K false mi_89 (n + 1) 0 [(0, vr (some (62, 0))), (1, vi a1), (2, vi a2)] [] S =
 (if 0 ≤ a1 ∧ a1 < 13 then
  (if 0 ≤ (aw o (a1 + 1)) ∧ (aw o (a1 + 1)) < 13 then
   run o K false mi_89 n 17 [(0, vr (some (62, 0))), (1, vi a1), (2, vi a2), (3, vi (gD S 66 0 (a1.toNat))), (4, vi (gD S 66 0 ((aw o (a1 + 1)).toNat)))] [] S
  else none)
 else none) := rfl
set_option maxRecDepth 100000 in
theorem b89_17 (o : AR) (K : KT) (n : Nat) (S : SD) (l1 : Int) (l2 : Int) (l3 : Int) (l4 : Int) : run o K false mi_89 (n + 1) 17 [(0, vr (some (62, 0))), (1, vi l1), (2, vi l2), (3, vi l3), (4, vi l4)] [] S =
 (if l3 < l4 then
  (if 0 ≤ l3 ∧ l3 < 1024 then
   (if (gD S 65 0 (l3.toNat)) < l2 then
    run o K false mi_89 n 17 [(0, vr (some (62, 0))), (1, vi l1), (2, vi l2), (3, vi (aw o (l3 + 1))), (4, vi l4)] [] S
   else
    (if l4 < 1024 then
     (if l3 < l4 then
      (if 0 ≤ l3 ∧ l3 < 1024 then
       (if (gD S 65 0 (l3.toNat)) = l2 then
        some (vi 0, S)
       else
        run o K false mi_89 n 68 [(0, vr (some (62, 0))), (1, vi l1), (2, vi l2), (3, vi l3), (4, vi l4), (5, vi l4)] [] S)
      else none)
     else
      run o K false mi_89 n 68 [(0, vr (some (62, 0))), (1, vi l1), (2, vi l2), (3, vi l3), (4, vi l4), (5, vi l4)] [] S)
    else
     some (vi 0, S)))
  else none)
 else
  (if l4 < 1024 then
   (if l3 < l4 then
    (if 0 ≤ l3 ∧ l3 < 1024 then
     (if (gD S 65 0 (l3.toNat)) = l2 then
      some (vi 0, S)
     else
      run o K false mi_89 n 68 [(0, vr (some (62, 0))), (1, vi l1), (2, vi l2), (3, vi l3), (4, vi l4), (5, vi l4)] [] S)
    else none)
   else
    run o K false mi_89 n 68 [(0, vr (some (62, 0))), (1, vi l1), (2, vi l2), (3, vi l3), (4, vi l4), (5, vi l4)] [] S)
  else
   some (vi 0, S))) := rfl
set_option maxRecDepth 100000 in
theorem b89_68 (o : AR) (K : KT) (n : Nat) (S : SD) (l1 : Int) (l2 : Int) (l3 : Int) (l4 : Int) (l5 : Int) : run o K false mi_89 (n + 1) 68 [(0, vr (some (62, 0))), (1, vi l1), (2, vi l2), (3, vi l3), (4, vi l4), (5, vi l5)] [] S =
 (if l3 < l5 then
  (if 0 ≤ (aw o (l5 - 1)) ∧ (aw o (l5 - 1)) < 1024 then
   (if 0 ≤ l5 ∧ l5 < 1024 then
    run o K false mi_89 n 68 [(0, vr (some (62, 0))), (1, vi l1), (2, vi l2), (3, vi l3), (4, vi l4), (5, vi (aw o (l5 + (-1))))] [] (wD S 65 0 ((l5).toNat) (gD S 65 0 ((aw o (l5 - 1)).toNat)))
   else none)
  else none)
 else
  (if 0 ≤ l3 ∧ l3 < 1024 then
   (if 0 ≤ (aw o (l1 + 1)) ∧ (aw o (l1 + 1)) < 13 then
    some (vi 0, wD (wD S 65 0 ((l3).toNat) l2) 66 0 (((aw o (l1 + 1))).toNat) (aw o (l4 + 1)))
   else none)
  else none)) := rfl
set_option maxRecDepth 100000 in
theorem b90_0 (o : AR) (K : KT) (n : Nat) (S : SD) (a1 : Int) : run o K false mi_90 (n + 1) 0 [(0, vr (some (62, 0))), (1, vi a1)] [] S =
 (if a1 < 0 then
  some (vi (-1000000), S)
 else
  (if a1 < (gD S 62 0 7) then
   (if a1 < 12 then
    (if 0 ≤ a1 ∧ a1 < 13 then
     (if 0 ≤ a1 ∧ a1 < 12 then
      (if (aw o ((gD S 66 0 (a1.toNat)) + (gD S 67 0 (a1.toNat)))) < 0 then
       some (vi (-1000000), S)
      else
       (if (aw o ((gD S 66 0 (a1.toNat)) + (gD S 67 0 (a1.toNat)))) < 1024 then
        (if 0 ≤ (aw o ((gD S 66 0 (a1.toNat)) + (gD S 67 0 (a1.toNat)))) ∧ (aw o ((gD S 66 0 (a1.toNat)) + (gD S 67 0 (a1.toNat)))) < 1024 then
         some (vi (gD S 65 0 ((aw o ((gD S 66 0 (a1.toNat)) + (gD S 67 0 (a1.toNat)))).toNat)), S)
        else none)
       else
        some (vi (-1000000), S)))
     else none)
    else none)
   else
    some (vi (-1000000), S))
  else
   some (vi (-1000000), S))) := rfl
set_option maxRecDepth 100000 in
theorem b91_0 (o : AR) (K : KT) (n : Nat) (S : SD) : run o K false mi_91 (n + 1) 0 [(0, vr (some (62, 0)))] [] S =
 run o K false mi_91 n 7 [(0, vr (some (62, 0))), (1, vi (aw o ((gD S 62 0 7) - 1)))] [] S := rfl
set_option maxRecDepth 100000 in
theorem b91_7 (o : AR) (K : KT) (n : Nat) (S : SD) (l1 : Int) : run o K false mi_91 (n + 1) 7 [(0, vr (some (62, 0))), (1, vi l1)] [] S =
 (if l1 < 0 then
  some (vi 0, S)
 else
  (if 0 ≤ l1 ∧ l1 < 12 then
   (if 0 ≤ l1 ∧ l1 < 12 then
    (if 0 ≤ l1 ∧ l1 < 12 then
     (if 0 ≤ (aw o (l1 + 1)) ∧ (aw o (l1 + 1)) < 13 then
      (if 0 ≤ l1 ∧ l1 < 13 then
       (if (gD (wD S 67 0 ((l1).toNat) (aw o ((gD S 67 0 (l1.toNat)) + 1))) 67 0 (l1.toNat)) < (aw o ((gD (wD S 67 0 ((l1).toNat) (aw o ((gD S 67 0 (l1.toNat)) + 1))) 66 0 ((aw o (l1 + 1)).toNat)) - (gD (wD S 67 0 ((l1).toNat) (aw o ((gD S 67 0 (l1.toNat)) + 1))) 66 0 (l1.toNat)))) then
        some (vi 0, wD S 67 0 ((l1).toNat) (aw o ((gD S 67 0 (l1.toNat)) + 1)))
       else
        (if 0 ≤ l1 ∧ l1 < 12 then
         run o K false mi_91 n 7 [(0, vr (some (62, 0))), (1, vi (aw o (l1 + (-1))))] [] (wD (wD S 67 0 ((l1).toNat) (aw o ((gD S 67 0 (l1.toNat)) + 1))) 67 0 ((l1).toNat) 0)
        else none))
      else none)
     else none)
    else none)
   else none)
  else none)) := rfl
