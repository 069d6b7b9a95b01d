set_option maxRecDepth 100000 in
theorem b108_0 (o : AR) (K : KT) (n : Nat) (S : SD) : run o K false mi_108 (n + 1) 0 [(0, vr (some (41, 0)))] [] S =
 (if (gD S 41 0 8) < 20 then
  (if 0 ≤ (gD S 41 0 8) ∧ (gD S 41 0 8) < 20 then
   some (vr (some (47, (gD S 41 0 8).toNat)), S)
  else none)
 else
  some (vr none, S)) := rfl
set_option maxRecDepth 100000 in
theorem b109_0 (o : AR) (K : KT) (n : Nat) (S : SD) (a1 : Int) (a2 : Int) : run o K false mi_109 (n + 1) 0 [(0, vr (some (41, 0))), (1, vi a1), (2, vi a2)] [] S =
 (bR (K 108 [vr (some (41, 0))] S) 47 (fun S1 =>
  some (vi (-1), S1))
 (fun j2 S1 =>
  some (vi (aw o ((gD (wD (wD (wD (wD (wD S1 47 j2 15 a1) 47 j2 16 a2) 47 j2 17 1) 47 j2 18 0) 41 0 8 (aw o ((gD (wD (wD (wD (wD S1 47 j2 15 a1) 47 j2 16 a2) 47 j2 17 1) 47 j2 18 0) 41 0 8) + 1))) 41 0 8) - 1)), wD (wD (wD (wD (wD S1 47 j2 15 a1) 47 j2 16 a2) 47 j2 17 1) 47 j2 18 0) 41 0 8 (aw o ((gD (wD (wD (wD (wD S1 47 j2 15 a1) 47 j2 16 a2) 47 j2 17 1) 47 j2 18 0) 41 0 8) + 1))))) := rfl
set_option maxRecDepth 100000 in
theorem b110_0 (o : AR) (K : KT) (n : Nat) (S : SD) (a1 : Int) : run o K false mi_110 (n + 1) 0 [(0, vr (some (41, 0))), (1, vi a1)] [] S =
 (if a1 < 0 then
  some (vr none, S)
 else
  (if a1 < (gD S 41 0 8) then
   (if a1 < 20 then
    (if 0 ≤ a1 ∧ a1 < 20 then
     some (vr (some (47, a1.toNat)), S)
    else none)
   else
    some (vr none, S))
  else
   some (vr none, S))) := rfl
set_option maxRecDepth 100000 in
theorem b111_0 (o : AR) (K : KT) (n : Nat) (S : SD) (a1 : Int) : run o K false mi_111 (n + 1) 0 [(0, vr (some (41, 0))), (1, vi a1)] [] S =
 run o K false mi_111 n 4 [(0, vr (some (41, 0))), (1, vi a1), (2, vi 0), (3, vi 0)] [] S := rfl
set_option maxRecDepth 100000 in
theorem b111_4 (o : AR) (K : KT) (n : Nat) (S : SD) (l1 : Int) (l2 : Int) (l3 : Int) : run o K false mi_111 (n + 1) 4 [(0, vr (some (41, 0))), (1, vi l1), (2, vi l2), (3, vi l3)] [] S =
 (if l3 < (gD S 41 0 8) then
  (bR (K 110 [vr (some (41, 0)), vi l3] S) 47 (fun S1 =>
   run o K false mi_111 n 4 [(0, vr (some (41, 0))), (1, vi l1), (2, vi l2), (3, vi (aw o (l3 + 1)))] [] S1)
  (fun j2 S1 =>
   (if (gD S1 47 j2 17) = 0 then
    run o K false mi_111 n 4 [(0, vr (some (41, 0))), (1, vi l1), (2, vi l2), (3, vi (aw o (l3 + 1)))] [] (wD S1 47 j2 18 0)
   else
    (bI (K 114 [vr (some (41, 0)), vr (some (47, j2)), vi l1, vi l1] S1) (fun x4 S3 =>
     (if x4 = 0 then
      run o K false mi_111 n 4 [(0, vr (some (41, 0))), (1, vi l1), (2, vi l2), (3, vi (aw o (l3 + 1)))] [] (wD S3 47 j2 18 0)
     else
      (if (gD S3 47 j2 18) = 0 then
       (bV (K 112 [vr (some (41, 0)), vi l3, vr (some (47, j2)), vi l1] S3) (fun S5 =>
        run o K false mi_111 n 4 [(0, vr (some (41, 0))), (1, vi l1), (2, vi (aw o (l2 + 1))), (3, vi (aw o (l3 + 1)))] [] (wD S5 47 j2 18 1)))
      else
       run o K false mi_111 n 4 [(0, vr (some (41, 0))), (1, vi l1), (2, vi l2), (3, vi (aw o (l3 + 1)))] [] (wD S3 47 j2 18 1))))))))
 else
  some (vi l2, S)) := rfl
set_option maxRecDepth 100000 in
theorem b112_0 (o : AR) (K : KT) (n : Nat) (S : SD) (a1 : Int) (j2 : Nat) (a3 : Int) : run o K false mi_112 (n + 1) 0 [(0, vr (some (41, 0))), (1, vi a1), (2, vr (some (47, j2))), (3, vi a3)] [] S =
 (if (gD S 41 0 9) < 300 then
  (if (gD S 47 j2 13) = (-1) then
   (bI (K 16 [vr (some (35, 0)), vi (gD S 47 j2 12), vi (gD S 47 j2 14), vi (ab o 11 (aw o (a3 + 50)) 3999)] S) (fun x2 S1 =>
    (if x2 = (-1) then
     some (vi 0, S1)
    else
     (if 0 ≤ (gD S1 41 0 9) ∧ (gD S1 41 0 9) < 300 then
      (if 0 ≤ (gD (wD S1 43 0 (((gD S1 41 0 9)).toNat) a1) 41 0 9) ∧ (gD (wD S1 43 0 (((gD S1 41 0 9)).toNat) a1) 41 0 9) < 300 then
       (bI (K 113 [vr (some (41, 0)), vr (some (47, j2))] (wD (wD S1 43 0 (((gD S1 41 0 9)).toNat) a1) 44 0 (((gD (wD S1 43 0 (((gD S1 41 0 9)).toNat) a1) 41 0 9)).toNat) a3)) (fun x4 S3 =>
        (if 0 ≤ (gD (wD (wD S1 43 0 (((gD S1 41 0 9)).toNat) a1) 44 0 (((gD (wD S1 43 0 (((gD S1 41 0 9)).toNat) a1) 41 0 9)).toNat) a3) 41 0 9) ∧ (gD (wD (wD S1 43 0 (((gD S1 41 0 9)).toNat) a1) 44 0 (((gD (wD S1 43 0 (((gD S1 41 0 9)).toNat) a1) 41 0 9)).toNat) a3) 41 0 9) < 300 then
         (if 0 ≤ (gD (wD S3 45 0 (((gD (wD (wD S1 43 0 (((gD S1 41 0 9)).toNat) a1) 44 0 (((gD (wD S1 43 0 (((gD S1 41 0 9)).toNat) a1) 41 0 9)).toNat) a3) 41 0 9)).toNat) x4) 41 0 9) ∧ (gD (wD S3 45 0 (((gD (wD (wD S1 43 0 (((gD S1 41 0 9)).toNat) a1) 44 0 (((gD (wD S1 43 0 (((gD S1 41 0 9)).toNat) a1) 41 0 9)).toNat) a3) 41 0 9)).toNat) x4) 41 0 9) < 300 then
          some (vi 0, wD (wD (wD S3 45 0 (((gD (wD (wD S1 43 0 (((gD S1 41 0 9)).toNat) a1) 44 0 (((gD (wD S1 43 0 (((gD S1 41 0 9)).toNat) a1) 41 0 9)).toNat) a3) 41 0 9)).toNat) x4) 46 0 (((gD (wD S3 45 0 (((gD (wD (wD S1 43 0 (((gD S1 41 0 9)).toNat) a1) 44 0 (((gD (wD S1 43 0 (((gD S1 41 0 9)).toNat) a1) 41 0 9)).toNat) a3) 41 0 9)).toNat) x4) 41 0 9)).toNat) x2) 41 0 9 (aw o ((gD (wD (wD S3 45 0 (((gD (wD (wD S1 43 0 (((gD S1 41 0 9)).toNat) a1) 44 0 (((gD (wD S1 43 0 (((gD S1 41 0 9)).toNat) a1) 41 0 9)).toNat) a3) 41 0 9)).toNat) x4) 46 0 (((gD (wD S3 45 0 (((gD (wD (wD S1 43 0 (((gD S1 41 0 9)).toNat) a1) 44 0 (((gD (wD S1 43 0 (((gD S1 41 0 9)).toNat) a1) 41 0 9)).toNat) a3) 41 0 9)).toNat) x4) 41 0 9)).toNat) x2) 41 0 9) + 1)))
         else none)
        else none)))
      else none)
     else none))))
  else
   (bI (K 51 [vr (some (47, j2))] S) (fun x6 S5 =>
    (bV (K 122 [vr (some (31, 0)), vi (gD S 47 j2 15), vi x6, vi (gD S5 47 j2 14)] S5) (fun S7 =>
     (if 0 ≤ (gD S7 41 0 9) ∧ (gD S7 41 0 9) < 300 then
      (if 0 ≤ (gD (wD S7 43 0 (((gD S7 41 0 9)).toNat) a1) 41 0 9) ∧ (gD (wD S7 43 0 (((gD S7 41 0 9)).toNat) a1) 41 0 9) < 300 then
       (bI (K 113 [vr (some (41, 0)), vr (some (47, j2))] (wD (wD S7 43 0 (((gD S7 41 0 9)).toNat) a1) 44 0 (((gD (wD S7 43 0 (((gD S7 41 0 9)).toNat) a1) 41 0 9)).toNat) a3)) (fun x9 S8 =>
        (if 0 ≤ (gD (wD (wD S7 43 0 (((gD S7 41 0 9)).toNat) a1) 44 0 (((gD (wD S7 43 0 (((gD S7 41 0 9)).toNat) a1) 41 0 9)).toNat) a3) 41 0 9) ∧ (gD (wD (wD S7 43 0 (((gD S7 41 0 9)).toNat) a1) 44 0 (((gD (wD S7 43 0 (((gD S7 41 0 9)).toNat) a1) 41 0 9)).toNat) a3) 41 0 9) < 300 then
         (if 0 ≤ (gD (wD S8 45 0 (((gD (wD (wD S7 43 0 (((gD S7 41 0 9)).toNat) a1) 44 0 (((gD (wD S7 43 0 (((gD S7 41 0 9)).toNat) a1) 41 0 9)).toNat) a3) 41 0 9)).toNat) x9) 41 0 9) ∧ (gD (wD S8 45 0 (((gD (wD (wD S7 43 0 (((gD S7 41 0 9)).toNat) a1) 44 0 (((gD (wD S7 43 0 (((gD S7 41 0 9)).toNat) a1) 41 0 9)).toNat) a3) 41 0 9)).toNat) x9) 41 0 9) < 300 then
          some (vi 0, wD (wD (wD S8 45 0 (((gD (wD (wD S7 43 0 (((gD S7 41 0 9)).toNat) a1) 44 0 (((gD (wD S7 43 0 (((gD S7 41 0 9)).toNat) a1) 41 0 9)).toNat) a3) 41 0 9)).toNat) x9) 46 0 (((gD (wD S8 45 0 (((gD (wD (wD S7 43 0 (((gD S7 41 0 9)).toNat) a1) 44 0 (((gD (wD S7 43 0 (((gD S7 41 0 9)).toNat) a1) 41 0 9)).toNat) a3) 41 0 9)).toNat) x9) 41 0 9)).toNat) (-1)) 41 0 9 (aw o ((gD (wD (wD S8 45 0 (((gD (wD (wD S7 43 0 (((gD S7 41 0 9)).toNat) a1) 44 0 (((gD (wD S7 43 0 (((gD S7 41 0 9)).toNat) a1) 41 0 9)).toNat) a3) 41 0 9)).toNat) x9) 46 0 (((gD (wD S8 45 0 (((gD (wD (wD S7 43 0 (((gD S7 41 0 9)).toNat) a1) 44 0 (((gD (wD S7 43 0 (((gD S7 41 0 9)).toNat) a1) 41 0 9)).toNat) a3) 41 0 9)).toNat) x9) 41 0 9)).toNat) (-1)) 41 0 9) + 1)))
         else none)
        else none)))
      else none)
     else none))))))
 else
  some (vi 0, S)) := rfl
set_option maxRecDepth 100000 in
theorem b113_0 (o : AR) (K : KT) (n : Nat) (S : SD) (j1 : Nat) : run o K false mi_113 (n + 1) 0 [(0, vr (some (41, 0))), (1, vr (some (47, j1)))] [] S =
 run o K false mi_113 n 4 [(0, vr (some (41, 0))), (1, vr (some (47, j1))), (2, vi (-1)), (3, vi 0)] [] S := rfl
set_option maxRecDepth 100000 in
theorem b113_4 (o : AR) (K : KT) (n : Nat) (S : SD) (j1 : Nat) (l2 : Int) (l3 : Int) : run o K false mi_113 (n + 1) 4 [(0, vr (some (41, 0))), (1, vr (some (47, j1))), (2, vi l2), (3, vi l3)] [] S =
 (if l3 < (gD S 47 j1 8) then
  (if l3 < 16 then
   (if 0 ≤ l3 ∧ l3 < 16 then
    (bI (K 146 [vr (some (13, 0)), vi (gD S 49 j1 (l3.toNat))] S) (fun x2 S1 =>
     run o K false mi_113 n 4 [(0, vr (some (41, 0))), (1, vr (some (47, j1))), (2, vi (ab o 10 l2 x2)), (3, vi (aw o (l3 + 1)))] [] S1))
   else none)
  else
   some (vi l2, S))
 else
  some (vi l2, S)) := rfl
set_option maxRecDepth 100000 in
theorem b114_0 (o : AR) (K : KT) (n : Nat) (S : SD) (j1 : Nat) (a2 : Int) (a3 : Int) : run o K false mi_114 (n + 1) 0 [(0, vr (some (41, 0))), (1, vr (some (47, j1))), (2, vi a2), (3, vi a3)] [] S =
 (if (aw o ((aw o (a2 - (ab o 10 (gD S 47 j1 11) 1))) + 1)) < (gD S 47 j1 16) then
  some (vi 0, S)
 else
  run o K false mi_114 n 28 [(0, vr (some (41, 0))), (1, vr (some (47, j1))), (2, vi a2), (3, vi a3), (4, vi (aw o ((aw o (a2 - (ab o 10 (gD S 47 j1 11) 1))) + 1))), (5, vi a2)] [] S) := rfl
set_option maxRecDepth 100000 in
theorem b114_28 (o : AR) (K : KT) (n : Nat) (S : SD) (j1 : Nat) (l2 : Int) (l3 : Int) (l4 : Int) (l5 : Int) : run o K false mi_114 (n + 1) 28 [(0, vr (some (41, 0))), (1, vr (some (47, j1))), (2, vi l2), (3, vi l3), (4, vi l4), (5, vi l5)] [] S =
 (if l5 < l4 then
  (bI (K 48 [vr (some (47, j1))] S) (fun x2 S1 =>
   (if x2 = 0 then
    some (vi 1, S1)
   else
    (bI (K 115 [vr (some (41, 0)), vr (some (47, j1)), vi 0, vi l2, vi l3] S1) (fun x4 S3 =>
     (if x4 = 0 then
      some (vi 1, S3)
     else
      some (vi 0, S3)))))))
 else
  (bI (K 115 [vr (some (41, 0)), vr (some (47, j1)), vi 1, vi l5, vi l3] S) (fun x6 S5 =>
   (if x6 = 0 then
    some (vi 0, S5)
   else
    run o K false mi_114 n 28 [(0, vr (some (41, 0))), (1, vr (some (47, j1))), (2, vi l2), (3, vi l3), (4, vi l4), (5, vi (aw o (l5 + (-1))))] [] S5)))) := rfl
set_option maxRecDepth 100000 in
theorem b115_0 (o : AR) (K : KT) (n : Nat) (S : SD) (j1 : Nat) (a2 : Int) (a3 : Int) (a4 : Int) : run o K false mi_115 (n + 1) 0 [(0, vr (some (41, 0))), (1, vr (some (47, j1))), (2, vi a2), (3, vi a3), (4, vi a4)] [] S =
 (if a2 = 0 then
  (if a2 = 0 then
   run o K false mi_115 n 39 [(0, vr (some (41, 0))), (1, vr (some (47, j1))), (2, vi a2), (3, vi a3), (4, vi a4), (5, vi 0), (6, vi (ab o 11 (gD S 47 j1 7) 16)), (7, vi (gD S 47 j1 8))] [] S
  else
   run o K false mi_115 n 39 [(0, vr (some (41, 0))), (1, vr (some (47, j1))), (2, vi a2), (3, vi a3), (4, vi a4), (5, vi 0), (6, vi (ab o 11 (gD S 47 j1 7) 16)), (7, vi 0)] [] S)
 else
  (if a2 = 0 then
   run o K false mi_115 n 39 [(0, vr (some (41, 0))), (1, vr (some (47, j1))), (2, vi a2), (3, vi a3), (4, vi a4), (5, vi 0), (6, vi (ab o 11 (gD S 47 j1 8) 16)), (7, vi (gD S 47 j1 8))] [] S
  else
   run o K false mi_115 n 39 [(0, vr (some (41, 0))), (1, vr (some (47, j1))), (2, vi a2), (3, vi a3), (4, vi a4), (5, vi 0), (6, vi (ab o 11 (gD S 47 j1 8) 16)), (7, vi 0)] [] S)) := rfl
set_option maxRecDepth 100000 in
theorem b115_39 (o : AR) (K : KT) (n : Nat) (S : SD) (j1 : Nat) (l2 : Int) (l3 : Int) (l4 : Int) (l5 : Int) (l6 : Int) (l7 : Int) : run o K false mi_115 (n + 1) 39 [(0, vr (some (41, 0))), (1, vr (some (47, j1))), (2, vi l2), (3, vi l3), (4, vi l4), (5, vi l5), (6, vi l6), (7, vi l7)] [] S =
 (if l7 < l6 then
  (bI (K 116 [vr (some (41, 0)), vr (some (47, j1)), vi l7, vi l3, vi l4] S) (fun x2 S1 =>
   (bI (K 54 [vr (some (47, j1)), vi l7, vi x2] S1) (fun x4 S3 =>
    (if x4 = 0 then
     run o K false mi_115 n 39 [(0, vr (some (41, 0))), (1, vr (some (47, j1))), (2, vi l2), (3, vi l3), (4, vi l4), (5, vi l5), (6, vi l6), (7, vi (aw o (l7 + 1)))] [] S3
    else
     run o K false mi_115 n 39 [(0, vr (some (41, 0))), (1, vr (some (47, j1))), (2, vi l2), (3, vi l3), (4, vi l4), (5, vi (ab o 1 l5 (ab o 3 1 l7))), (6, vi l6), (7, vi (aw o (l7 + 1)))] [] S3)))))
 else
  (bI (K 55 [vr (some (47, j1)), vi l2, vi l5] S) (fun x6 S5 =>
   (if x6 = 0 ∨ x6 = 1 then some (vi x6, S5) else none)))) := rfl
set_option maxRecDepth 100000 in
theorem b116_0 (o : AR) (K : KT) (n : Nat) (S : SD) (j1 : Nat) (a2 : Int) (a3 : Int) (a4 : Int) : run o K false mi_116 (n + 1) 0 [(0, vr (some (41, 0))), (1, vr (some (47, j1))), (2, vi a2), (3, vi a3), (4, vi a4)] [] S =
 (bI (K 49 [vr (some (47, j1)), vi a2] S) (fun x2 S1 =>
  (if x2 = 0 then
   some (vi (-1000000), S1)
  else
   (if 0 ≤ a2 ∧ a2 < 16 then
    (if 0 ≤ a2 ∧ a2 < 16 then
     (if 0 ≤ a2 ∧ a2 < 16 then
      (if (gD S1 48 j1 (a2.toNat)) = 1 then
       (if 0 ≤ a2 ∧ a2 < 16 then
        (bI (K 144 [vr (some (13, 0)), vi (gD S1 49 j1 (a2.toNat)), vi (gD S1 50 j1 (a2.toNat)), vi (gD S1 51 j1 (a2.toNat)), vi a3, vi a4, vi 1] S1) (fun x4 S3 =>
         some (vi x4, S3)))
       else none)
      else (if (gD S1 48 j1 (a2.toNat)) = 2 then
       (if 0 ≤ a2 ∧ a2 < 16 then
        (bI (K 144 [vr (some (13, 0)), vi (gD S1 49 j1 (a2.toNat)), vi (gD S1 50 j1 (a2.toNat)), vi (gD S1 51 j1 (a2.toNat)), vi a3, vi a4, vi 0] S1) (fun x6 S5 =>
         some (vi x6, S5)))
       else none)
      else (if (gD S1 48 j1 (a2.toNat)) = 3 then
       (bI (K 145 [vr (some (13, 0)), vi (gD S1 49 j1 (a2.toNat)), vi a3, vi a4] S1) (fun x8 S7 =>
        some (vi x8, S7)))
      else 
       (bI (K 142 [vr (some (13, 0)), vi (gD S1 49 j1 (a2.toNat)), vi (gD S1 50 j1 (a2.toNat)), vi a3, vi a4] S1) (fun x10 S9 =>
        (bI (K 135 [vr (some (13, 0)), vi x10, vi (gD S1 50 j1 (a2.toNat))] S9) (fun x12 S11 =>
         some (vi x12, S11))))))))
     else none)
    else none)
   else none)))) := rfl
set_option maxRecDepth 100000 in
theorem b117_0 (o : AR) (K : KT) (n : Nat) (S : SD) (a1 : Int) (a2 : Int) (a3 : Int) : run o K false mi_117 (n + 1) 0 [(0, vr (some (41, 0))), (1, vi a1), (2, vi a2), (3, vi a3)] [] S =
 (if a1 < 0 then
  some (vi (-2), S)
 else
  (if a1 < (gD S 41 0 9) then
   (if a1 < 300 then
    (if a2 = 0 then
     (if 0 ≤ a1 ∧ a1 < 300 then
      some (vi (gD S 43 0 (a1.toNat)), S)
     else none)
    else (if a2 = 1 then
     (if 0 ≤ a1 ∧ a1 < 300 then
      some (vi (gD S 44 0 (a1.toNat)), S)
     else none)
    else (if a2 = 2 then
     (if 0 ≤ a1 ∧ a1 < 300 then
      some (vi (gD S 45 0 (a1.toNat)), S)
     else none)
    else (if a2 = 3 then
     (bI (K 118 [vr (some (41, 0)), vi a1, vi a3] S) (fun x2 S1 =>
      (if x2 = 0 then
       some (vi 0, S1)
      else
       some (vi 1, S1))))
    else (if a2 = 4 then
     (if 0 ≤ a1 ∧ a1 < 300 then
      some (vi (gD S 46 0 (a1.toNat)), S)
     else none)
    else 
     some (vi (-2), S))))))
   else
    some (vi (-2), S))
  else
   some (vi (-2), S))) := rfl
set_option maxRecDepth 100000 in
theorem b118_0 (o : AR) (K : KT) (n : Nat) (S : SD) (a1 : Int) (a2 : Int) : run o K false mi_118 (n + 1) 0 [(0, vr (some (41, 0))), (1, vi a1), (2, vi a2)] [] S =
 (if 0 ≤ a1 ∧ a1 < 300 then
  (bR (K 110 [vr (some (41, 0)), vi (gD S 43 0 (a1.toNat))] S) 47 (fun S1 =>
   some (vi 0, S1))
  (fun j2 S1 =>
   (if 0 ≤ a1 ∧ a1 < 300 then
    (bI (K 114 [vr (some (41, 0)), vr (some (47, j2)), vi (gD S1 44 0 (a1.toNat)), vi a2] S1) (fun x4 S3 =>
     (if x4 = 0 then
      some (vi 0, S3)
     else
      some (vi 1, S3))))
   else none)))
 else none) := rfl
