set_option maxRecDepth 100000 in
theorem b93_0 (o : AR) (K : KT) (n : Nat) (S : SD) (a1 : Int) (a2 : Int) (a3 : Int) (a4 : Int) (a5 : Int) : run o K false mi_93 (n + 1) 0 [(0, vr (some (3, 0))), (1, vi a1), (2, vi a2), (3, vi a3), (4, vi a4), (5, vi a5)] [] S =
 (bI (K 189 [vi a1, vi 0, vi 7] S) (fun x2 S1 =>
  (if x2 = 0 then
   some (vi 0, S1)
  else
   (bI (K 189 [vi a2, vi 0, vi 2] S1) (fun x4 S3 =>
    (if x4 = 0 then
     some (vi 0, S3)
    else
     (bI (K 189 [vi a5, vi 0, vi 10000] S3) (fun x6 S5 =>
      (if x6 = 0 then
       some (vi 0, S5)
      else
       (if a3 < (-100000) then
        some (vi 0, S5)
       else
        (if 100000 < a4 then
         some (vi 0, S5)
        else
         (if a4 < a3 then
          some (vi 0, S5)
         else
          (if 0 ≤ (aw o ((aw o (a1 * 3)) + a2)) ∧ (aw o ((aw o (a1 * 3)) + a2)) < 24 then
           (if 0 ≤ (aw o ((aw o (a1 * 3)) + a2)) ∧ (aw o ((aw o (a1 * 3)) + a2)) < 24 then
            (if 0 ≤ (aw o ((aw o (a1 * 3)) + a2)) ∧ (aw o ((aw o (a1 * 3)) + a2)) < 24 then
             some (vi 1, wD (wD (wD S5 6 0 (((aw o ((aw o (a1 * 3)) + a2))).toNat) a3) 7 0 (((aw o ((aw o (a1 * 3)) + a2))).toNat) a4) 8 0 (((aw o ((aw o (a1 * 3)) + a2))).toNat) a5)
            else none)
           else none)
          else none))))))))))))) := rfl
set_option maxRecDepth 100000 in
theorem b94_0 (o : AR) (K : KT) (n : Nat) (S : SD) (a1 : Int) (a2 : Int) (a3 : Int) : run o K false mi_94 (n + 1) 0 [(0, vr (some (3, 0))), (1, vi a1), (2, vi a2), (3, vi a3)] [] S =
 (bI (K 189 [vi a1, vi 0, vi 7] S) (fun x2 S1 =>
  (if x2 = 0 then
   some (vi 0, S1)
  else
   (bI (K 189 [vi a2, vi 0, vi 500] S1) (fun x4 S3 =>
    (if x4 = 0 then
     some (vi 0, S3)
    else
     (bI (K 189 [vi a3, vi 0, vi 9999] S3) (fun x6 S5 =>
      (if x6 = 0 then
       some (vi 0, S5)
      else
       (if 0 ≤ a1 ∧ a1 < 8 then
        (if 0 ≤ a1 ∧ a1 < 8 then
         some (vi 1, wD (wD S5 4 0 ((a1).toNat) a2) 5 0 ((a1).toNat) a3)
        else none)
       else none)))))))))) := rfl
set_option maxRecDepth 100000 in
theorem b95_0 (o : AR) (K : KT) (n : Nat) (S : SD) (a1 : Int) (a2 : Int) : run o K false mi_95 (n + 1) 0 [(0, vr (some (3, 0))), (1, vi a1), (2, vi a2)] [] S =
 (if (gD S 3 0 10) < 40 then
  (bI (K 189 [vi a1, vi 0, vi 7] S) (fun x2 S1 =>
   (if x2 = 0 then
    some (vi (-1), S1)
   else
    (bI (K 189 [vi a2, vi 0, vi 7] S1) (fun x4 S3 =>
     (if x4 = 0 then
      some (vi (-1), S3)
     else
      (if 0 ≤ (gD S3 3 0 10) ∧ (gD S3 3 0 10) < 40 then
       (if 0 ≤ (gD (wD S3 9 0 (((gD S3 3 0 10)).toNat) a1) 3 0 10) ∧ (gD (wD S3 9 0 (((gD S3 3 0 10)).toNat) a1) 3 0 10) < 40 then
        some (vi (aw o ((gD (wD (wD (wD S3 9 0 (((gD S3 3 0 10)).toNat) a1) 10 0 (((gD (wD S3 9 0 (((gD S3 3 0 10)).toNat) a1) 3 0 10)).toNat) a2) 3 0 10 (aw o ((gD (wD (wD S3 9 0 (((gD S3 3 0 10)).toNat) a1) 10 0 (((gD (wD S3 9 0 (((gD S3 3 0 10)).toNat) a1) 3 0 10)).toNat) a2) 3 0 10) + 1))) 3 0 10) - 1)), wD (wD (wD S3 9 0 (((gD S3 3 0 10)).toNat) a1) 10 0 (((gD (wD S3 9 0 (((gD S3 3 0 10)).toNat) a1) 3 0 10)).toNat) a2) 3 0 10 (aw o ((gD (wD (wD S3 9 0 (((gD S3 3 0 10)).toNat) a1) 10 0 (((gD (wD S3 9 0 (((gD S3 3 0 10)).toNat) a1) 3 0 10)).toNat) a2) 3 0 10) + 1)))
       else none)
      else none)))))))
 else
  some (vi (-1), S)) := rfl
set_option maxRecDepth 100000 in
theorem b96_0 (o : AR) (K : KT) (n : Nat) (S : SD) (a1 : Int) : run o K false mi_96 (n + 1) 0 [(0, vr (some (3, 0))), (1, vi a1)] [] S =
 (if a1 < 0 then
  some (vi 0, S)
 else
  (if a1 < (gD S 3 0 10) then
   some (vi 1, S)
  else
   some (vi 0, S))) := rfl
set_option maxRecDepth 100000 in
theorem b97_0 (o : AR) (K : KT) (n : Nat) (S : SD) (a1 : Int) : run o K false mi_97 (n + 1) 0 [(0, vr (some (3, 0))), (1, vi a1)] [] S =
 (bI (K 96 [vr (some (3, 0)), vi a1] S) (fun x2 S1 =>
  (if x2 = 0 then
   some (vi 0, S1)
  else
   (if 0 ≤ a1 ∧ a1 < 40 then
    some (vi (gD S1 9 0 (a1.toNat)), S1)
   else none)))) := rfl
set_option maxRecDepth 100000 in
theorem b98_0 (o : AR) (K : KT) (n : Nat) (S : SD) (a1 : Int) : run o K false mi_98 (n + 1) 0 [(0, vr (some (3, 0))), (1, vi a1)] [] S =
 (bI (K 96 [vr (some (3, 0)), vi a1] S) (fun x2 S1 =>
  (if x2 = 0 then
   some (vi 0, S1)
  else
   (if 0 ≤ a1 ∧ a1 < 40 then
    some (vi (gD S1 10 0 (a1.toNat)), S1)
   else none)))) := rfl
set_option maxRecDepth 100000 in
theorem b99_0 (o : AR) (K : KT) (n : Nat) (S : SD) (a1 : Int) : run o K false mi_99 (n + 1) 0 [(0, vr (some (3, 0))), (1, vi a1)] [] S =
 (bI (K 97 [vr (some (3, 0)), vi a1] S) (fun x2 S1 =>
  (if 0 ≤ x2 ∧ x2 < 8 then
   some (vi (gD S1 4 0 (x2.toNat)), S1)
  else none))) := rfl
set_option maxRecDepth 100000 in
theorem b100_0 (o : AR) (K : KT) (n : Nat) (S : SD) (a1 : Int) : run o K false mi_100 (n + 1) 0 [(0, vr (some (3, 0))), (1, vi a1)] [] S =
 (bI (K 97 [vr (some (3, 0)), vi a1] S) (fun x2 S1 =>
  (if 0 ≤ x2 ∧ x2 < 8 then
   some (vi (gD S1 5 0 (x2.toNat)), S1)
  else none))) := rfl
set_option maxRecDepth 100000 in
theorem b101_0 (o : AR) (K : KT) (n : Nat) (S : SD) (a1 : Int) (a2 : Int) : run o K false mi_101 (n + 1) 0 [(0, vr (some (3, 0))), (1, vi a1), (2, vi a2)] [] S =
 (if a1 < 0 then
  some (vi 0, S)
 else
  (if a1 < (gD S 3 0 10) then
   (if a2 < 0 then
    some (vi 0, S)
   else
    (if a2 < 3 then
     (if 0 ≤ a1 ∧ a1 < 40 then
      some (vi (aw o ((aw o ((gD S 9 0 (a1.toNat)) * 3)) + a2)), S)
     else none)
    else
     some (vi 0, S)))
  else
   some (vi 0, S))) := rfl
set_option maxRecDepth 100000 in
theorem b102_0 (o : AR) (K : KT) (n : Nat) (S : SD) (a1 : Int) (a2 : Int) : run o K false mi_102 (n + 1) 0 [(0, vr (some (3, 0))), (1, vi a1), (2, vi a2)] [] S =
 (bI (K 101 [vr (some (3, 0)), vi a1, vi a2] S) (fun x2 S1 =>
  (if 0 ≤ x2 ∧ x2 < 24 then
   some (vi (gD S1 6 0 (x2.toNat)), S1)
  else none))) := rfl
set_option maxRecDepth 100000 in
theorem b103_0 (o : AR) (K : KT) (n : Nat) (S : SD) (a1 : Int) (a2 : Int) : run o K false mi_103 (n + 1) 0 [(0, vr (some (3, 0))), (1, vi a1), (2, vi a2)] [] S =
 (bI (K 101 [vr (some (3, 0)), vi a1, vi a2] S) (fun x2 S1 =>
  (if 0 ≤ x2 ∧ x2 < 24 then
   some (vi (gD S1 7 0 (x2.toNat)), S1)
  else none))) := rfl
set_option maxRecDepth 100000 in
theorem b104_0 (o : AR) (K : KT) (n : Nat) (S : SD) (a1 : Int) (a2 : Int) : run o K false mi_104 (n + 1) 0 [(0, vr (some (3, 0))), (1, vi a1), (2, vi a2)] [] S =
 (bI (K 101 [vr (some (3, 0)), vi a1, vi a2] S) (fun x2 S1 =>
  (if 0 ≤ x2 ∧ x2 < 24 then
   some (vi (gD S1 8 0 (x2.toNat)), S1)
  else none))) := rfl
set_option maxRecDepth 100000 in
theorem b105_0 (o : AR) (K : KT) (n : Nat) (S : SD) (a1 : Int) (a2 : Int) : run o K false mi_105 (n + 1) 0 [(0, vr (some (3, 0))), (1, vi a1), (2, vi a2)] [] S =
 (if (gD S 3 0 9) < 512 then
  (if 0 ≤ (gD S 3 0 9) ∧ (gD S 3 0 9) < 512 then
   (if 0 ≤ (gD (wD S 11 0 (((gD S 3 0 9)).toNat) a1) 3 0 9) ∧ (gD (wD S 11 0 (((gD S 3 0 9)).toNat) a1) 3 0 9) < 512 then
    some (vi 0, wD (wD (wD S 11 0 (((gD S 3 0 9)).toNat) a1) 12 0 (((gD (wD S 11 0 (((gD S 3 0 9)).toNat) a1) 3 0 9)).toNat) a2) 3 0 9 (aw o ((gD (wD (wD S 11 0 (((gD S 3 0 9)).toNat) a1) 12 0 (((gD (wD S 11 0 (((gD S 3 0 9)).toNat) a1) 3 0 9)).toNat) a2) 3 0 9) + 1)))
   else none)
  else none)
 else
  some (vi 0, S)) := rfl
set_option maxRecDepth 100000 in
theorem b106_0 (o : AR) (K : KT) (n : Nat) (S : SD) (a1 : Int) (a2 : Int) : run o K false mi_106 (n + 1) 0 [(0, vr (some (3, 0))), (1, vi a1), (2, vi a2)] [] S =
 run o K false mi_106 n 5 [(0, vr (some (3, 0))), (1, vi a1), (2, vi a2), (3, vi 0), (4, vi 0)] [] S := rfl
set_option maxRecDepth 100000 in
theorem b106_5 (o : AR) (K : KT) (n : Nat) (S : SD) (l1 : Int) (l2 : Int) (l3 : Int) (l4 : Int) : run o K false mi_106 (n + 1) 5 [(0, vr (some (3, 0))), (1, vi l1), (2, vi l2), (3, vi l3), (4, vi l4)] [] S =
 (if l4 < (gD S 3 0 9) then
  (if 0 ≤ l4 ∧ l4 < 512 then
   (if (gD S 11 0 (l4.toNat)) = l1 then
    (if 0 ≤ l4 ∧ l4 < 512 then
     (if l2 < (gD S 12 0 (l4.toNat)) then
      run o K false mi_106 n 5 [(0, vr (some (3, 0))), (1, vi l1), (2, vi l2), (3, vi l3), (4, vi (aw o (l4 + 1)))] [] S
     else
      (if 0 ≤ l4 ∧ l4 < 512 then
       run o K false mi_106 n 5 [(0, vr (some (3, 0))), (1, vi l1), (2, vi l2), (3, vi (ab o 10 l3 (gD S 12 0 (l4.toNat)))), (4, vi (aw o (l4 + 1)))] [] S
      else none))
    else none)
   else
    run o K false mi_106 n 5 [(0, vr (some (3, 0))), (1, vi l1), (2, vi l2), (3, vi l3), (4, vi (aw o (l4 + 1)))] [] S)
  else none)
 else
  some (vi l3, S)) := rfl
