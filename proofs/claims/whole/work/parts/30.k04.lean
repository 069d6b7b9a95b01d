set_option maxRecDepth 100000 in
theorem b47_0 (o : AR) (K : KT) (n : Nat) (S : SD) (j0 : Nat) : run o K false mi_47 (n + 1) 0 [(0, vr (some (47, j0)))] [] S =
 some (vi 0, wD (wD (wD (wD (wD (wD (wD (wD S 47 j0 7 0) 47 j0 8 0) 47 j0 9 0) 47 j0 10 0) 47 j0 11 0) 47 j0 12 (-1)) 47 j0 13 (-1)) 47 j0 14 0) := rfl
set_option maxRecDepth 100000 in
theorem b48_0 (o : AR) (K : KT) (n : Nat) (S : SD) (j0 : Nat) : run o K false mi_48 (n + 1) 0 [(0, vr (some (47, j0)))] [] S =
 (if (gD S 47 j0 10) < (gD S 47 j0 9) then
  some (vi 1, S)
 else
  some (vi 0, S)) := rfl
set_option maxRecDepth 100000 in
theorem b49_0 (o : AR) (K : KT) (n : Nat) (S : SD) (j0 : Nat) (a1 : Int) : run o K false mi_49 (n + 1) 0 [(0, vr (some (47, j0))), (1, vi a1)] [] S =
 (if a1 < 0 then
  some (vi 0, S)
 else
  (if a1 < (gD S 47 j0 7) then
   (if a1 < 16 then
    some (vi 1, S)
   else
    some (vi 0, S))
  else
   some (vi 0, S))) := rfl
set_option maxRecDepth 100000 in
theorem b50_0 (o : AR) (K : KT) (n : Nat) (S : SD) (j0 : Nat) (a1 : Int) : run o K false mi_50 (n + 1) 0 [(0, vr (some (47, j0))), (1, vi a1)] [] S =
 (bI (K 49 [vr (some (47, j0)), vi a1] S) (fun x2 S1 =>
  (if x2 = 0 then
   some (vi (-1), S1)
  else
   (if 0 ≤ a1 ∧ a1 < 16 then
    (if 0 ≤ a1 ∧ a1 < 16 then
     (bI (K 52 [vi (gD S1 49 j0 (a1.toNat)), vi (gD S1 50 j0 (a1.toNat))] S1) (fun x4 S3 =>
      some (vi x4, S3)))
    else none)
   else none)))) := rfl
set_option maxRecDepth 100000 in
theorem b51_0 (o : AR) (K : KT) (n : Nat) (S : SD) (j0 : Nat) : run o K false mi_51 (n + 1) 0 [(0, vr (some (47, j0)))] [] S =
 (bI (K 52 [vi (gD S 47 j0 12), vi (gD S 47 j0 13)] S) (fun x2 S1 =>
  some (vi x2, S1))) := rfl
set_option maxRecDepth 100000 in
theorem b52_0 (o : AR) (K : KT) (n : Nat) (S : SD) (a0 : Int) (a1 : Int) : run o K false mi_52 (n + 1) 0 [(0, vi a0), (1, vi a1)] [] S =
 (bI (K 189 [vi a0, vi 0, vi 39] S) (fun x2 S1 =>
  (if x2 = 0 then
   some (vi (-1), S1)
  else
   (bI (K 189 [vi a1, vi 0, vi 2] S1) (fun x4 S3 =>
    (if x4 = 0 then
     some (vi (-1), S3)
    else
     some (vi (aw o ((aw o (a0 * 3)) + a1)), S3))))))) := rfl
set_option maxRecDepth 100000 in
theorem b53_0 (o : AR) (K : KT) (n : Nat) (S : SD) (j0 : Nat) : run o K false mi_53 (n + 1) 0 [(0, vr (some (47, j0)))] [] S =
 (if (gD S 47 j0 13) = (-1) then
  some (vi 0, S)
 else
  (if (gD S 47 j0 11) = 0 then
   run o K false mi_53 n 19 [(0, vr (some (47, j0))), (1, vi 0)] [] S
  else
   some (vi 0, S))) := rfl
set_option maxRecDepth 100000 in
theorem b53_19 (o : AR) (K : KT) (n : Nat) (S : SD) (j0 : Nat) (l1 : Int) : run o K false mi_53 (n + 1) 19 [(0, vr (some (47, j0))), (1, vi l1)] [] S =
 (if l1 < (gD S 47 j0 7) then
  (if l1 < 16 then
   (if 0 ≤ l1 ∧ l1 < 16 then
    (if (gD S 48 j0 (l1.toNat)) = 0 then
     run o K false mi_53 n 19 [(0, vr (some (47, j0))), (1, vi (aw o (l1 + 1)))] [] S
    else
     some (vi 0, S))
   else none)
  else
   some (vi 1, S))
 else
  some (vi 1, S)) := rfl
set_option maxRecDepth 100000 in
theorem b54_0 (o : AR) (K : KT) (n : Nat) (S : SD) (j0 : Nat) (a1 : Int) (a2 : Int) : run o K false mi_54 (n + 1) 0 [(0, vr (some (47, j0))), (1, vi a1), (2, vi a2)] [] S =
 (if a2 = (-1000000) then
  some (vi 0, S)
 else
  (bI (K 49 [vr (some (47, j0)), vi a1] S) (fun x2 S1 =>
   (if x2 = 0 then
    some (vi 0, S1)
   else
    (if 0 ≤ a1 ∧ a1 < 16 then
     (if 0 ≤ a1 ∧ a1 < 16 then
      (if (gD S1 52 j0 (a1.toNat)) = 0 then
       (if a2 < (gD S1 53 j0 (a1.toNat)) then
        some (vi 1, S1)
       else
        some (vi 0, S1))
      else (if (gD S1 52 j0 (a1.toNat)) = 1 then
       (if (gD S1 53 j0 (a1.toNat)) < a2 then
        some (vi 0, S1)
       else
        some (vi 1, S1))
      else (if (gD S1 52 j0 (a1.toNat)) = 2 then
       (if a2 = (gD S1 53 j0 (a1.toNat)) then
        some (vi 1, S1)
       else
        some (vi 0, S1))
      else (if (gD S1 52 j0 (a1.toNat)) = 3 then
       (if a2 < (gD S1 53 j0 (a1.toNat)) then
        some (vi 0, S1)
       else
        some (vi 1, S1))
      else 
       (if (gD S1 53 j0 (a1.toNat)) < a2 then
        some (vi 1, S1)
       else
        some (vi 0, S1))))))
     else none)
    else none))))) := rfl
set_option maxRecDepth 100000 in
theorem b55_0 (o : AR) (K : KT) (n : Nat) (S : SD) (j0 : Nat) (a1 : Int) (a2 : Int) : run o K false mi_55 (n + 1) 0 [(0, vr (some (47, j0))), (1, vi a1), (2, vi a2)] [] S =
 (if a1 = 0 then
  (if a1 = 0 then
   run o K false mi_55 n 39 [(0, vr (some (47, j0))), (2, vi a2), (3, vi (ab o 11 (gD S 47 j0 9) 128)), (4, vi 0), (5, vi (gD S 47 j0 10))] [] S
  else
   run o K false mi_55 n 39 [(0, vr (some (47, j0))), (2, vi a2), (3, vi (ab o 11 (gD S 47 j0 9) 128)), (4, vi 0), (5, vi 0)] [] S)
 else
  (if a1 = 0 then
   run o K false mi_55 n 39 [(0, vr (some (47, j0))), (2, vi a2), (3, vi (ab o 11 (gD S 47 j0 10) 128)), (4, vi 0), (5, vi (gD S 47 j0 10))] [] S
  else
   run o K false mi_55 n 39 [(0, vr (some (47, j0))), (2, vi a2), (3, vi (ab o 11 (gD S 47 j0 10) 128)), (4, vi 0), (5, vi 0)] [] S)) := rfl
set_option maxRecDepth 100000 in
theorem b55_39 (o : AR) (K : KT) (n : Nat) (S : SD) (j0 : Nat) (l2 : Int) (l3 : Int) (l4 : Int) (l5 : Int) : run o K false mi_55 (n + 1) 39 [(0, vr (some (47, j0))), (2, vi l2), (3, vi l3), (4, vi l4), (5, vi l5)] [] S =
 (if l5 < l3 then
  (if 0 ≤ l5 ∧ l5 < 128 then
   (if (gD S 54 j0 (l5.toNat)) < 0 then
    (if (gD S 54 j0 (l5.toNat)) = (-1) then
     run o K false mi_55 n 39 [(0, vr (some (47, j0))), (2, vi l2), (3, vi l3), (4, vi (ab o 2 l4 1)), (5, vi (aw o (l5 + 1)))] [] S
    else
     (if (gD S 54 j0 (l5.toNat)) = (-2) then
      run o K false mi_55 n 39 [(0, vr (some (47, j0))), (2, vi l2), (3, vi l3), (4, vi (ab o 0 (ab o 4 l4 1) (ab o 1 l4 (-2)))), (5, vi (aw o (l5 + 1)))] [] S
     else
      run o K false mi_55 n 39 [(0, vr (some (47, j0))), (2, vi l2), (3, vi l3), (4, vi (ab o 1 (ab o 4 l4 1) (ab o 0 l4 1))), (5, vi (aw o (l5 + 1)))] [] S))
   else
    run o K false mi_55 n 39 [(0, vr (some (47, j0))), (2, vi l2), (3, vi l3), (4, vi (ab o 1 (ab o 3 l4 1) (ab o 0 (ab o 4 l2 (ab o 0 (gD S 54 j0 (l5.toNat)) 15)) 1))), (5, vi (aw o (l5 + 1)))] [] S)
  else none)
 else
  (if (ab o 0 l4 1) = 1 then
   some (vi 1, S)
  else
   some (vi 0, S))) := rfl
