set_option maxRecDepth 100000 in
theorem b16_0 (o : AR) (K : KT) (n : Nat) (S : SD) (a1 : Int) (a2 : Int) (a3 : Int) : run o K false mi_16 (n + 1) 0 [(0, vr (some (35, 0))), (1, vi a1), (2, vi a2), (3, vi a3)] [] S =
 (if (gD S 35 0 5) < 200 then
  (if 0 ≤ (gD S 35 0 5) ∧ (gD S 35 0 5) < 200 then
   (if 0 ≤ (gD (wD S 36 0 (((gD S 35 0 5)).toNat) a1) 35 0 5) ∧ (gD (wD S 36 0 (((gD S 35 0 5)).toNat) a1) 35 0 5) < 200 then
    (if 0 ≤ (gD (wD (wD S 36 0 (((gD S 35 0 5)).toNat) a1) 37 0 (((gD (wD S 36 0 (((gD S 35 0 5)).toNat) a1) 35 0 5)).toNat) a2) 35 0 5) ∧ (gD (wD (wD S 36 0 (((gD S 35 0 5)).toNat) a1) 37 0 (((gD (wD S 36 0 (((gD S 35 0 5)).toNat) a1) 35 0 5)).toNat) a2) 35 0 5) < 200 then
     some (vi (aw o ((gD (wD (wD (wD (wD S 36 0 (((gD S 35 0 5)).toNat) a1) 37 0 (((gD (wD S 36 0 (((gD S 35 0 5)).toNat) a1) 35 0 5)).toNat) a2) 38 0 (((gD (wD (wD S 36 0 (((gD S 35 0 5)).toNat) a1) 37 0 (((gD (wD S 36 0 (((gD S 35 0 5)).toNat) a1) 35 0 5)).toNat) a2) 35 0 5)).toNat) a3) 35 0 5 (aw o ((gD (wD (wD (wD S 36 0 (((gD S 35 0 5)).toNat) a1) 37 0 (((gD (wD S 36 0 (((gD S 35 0 5)).toNat) a1) 35 0 5)).toNat) a2) 38 0 (((gD (wD (wD S 36 0 (((gD S 35 0 5)).toNat) a1) 37 0 (((gD (wD S 36 0 (((gD S 35 0 5)).toNat) a1) 35 0 5)).toNat) a2) 35 0 5)).toNat) a3) 35 0 5) + 1))) 35 0 5) - 1)), wD (wD (wD (wD S 36 0 (((gD S 35 0 5)).toNat) a1) 37 0 (((gD (wD S 36 0 (((gD S 35 0 5)).toNat) a1) 35 0 5)).toNat) a2) 38 0 (((gD (wD (wD S 36 0 (((gD S 35 0 5)).toNat) a1) 37 0 (((gD (wD S 36 0 (((gD S 35 0 5)).toNat) a1) 35 0 5)).toNat) a2) 35 0 5)).toNat) a3) 35 0 5 (aw o ((gD (wD (wD (wD S 36 0 (((gD S 35 0 5)).toNat) a1) 37 0 (((gD (wD S 36 0 (((gD S 35 0 5)).toNat) a1) 35 0 5)).toNat) a2) 38 0 (((gD (wD (wD S 36 0 (((gD S 35 0 5)).toNat) a1) 37 0 (((gD (wD S 36 0 (((gD S 35 0 5)).toNat) a1) 35 0 5)).toNat) a2) 35 0 5)).toNat) a3) 35 0 5) + 1)))
    else none)
   else none)
  else none)
 else
  some (vi (-1), S)) := rfl
set_option maxRecDepth 100000 in
theorem b17_0 (o : AR) (K : KT) (n : Nat) (S : SD) (a1 : Int) : run o K false mi_17 (n + 1) 0 [(0, vr (some (35, 0))), (1, vi a1)] [] S =
 (if a1 < 0 then
  some (vi 0, S)
 else
  (if a1 < (gD S 35 0 5) then
   (if a1 < 200 then
    some (vi 1, S)
   else
    some (vi 0, S))
  else
   some (vi 0, S))) := rfl
set_option maxRecDepth 100000 in
theorem b18_0 (o : AR) (K : KT) (n : Nat) (S : SD) (a1 : Int) (a2 : Int) : run o K false mi_18 (n + 1) 0 [(0, vr (some (35, 0))), (1, vi a1), (2, vi a2)] [] S =
 (bI (K 17 [vr (some (35, 0)), vi a1] S) (fun x2 S1 =>
  (if x2 = 0 then
   some (vi (-1), S1)
  else
   (if 0 ≤ a1 ∧ a1 < 200 then
    (if 0 ≤ a1 ∧ a1 < 200 then
     (if (gD S1 38 0 (a1.toNat)) < a2 then
      (if (gD S1 39 0 (a1.toNat)) = 0 then
       some (vi 4, S1)
      else
       (if (gD S1 39 0 (a1.toNat)) = 1 then
        some (vi 5, S1)
       else
        some (vi (gD S1 39 0 (a1.toNat)), S1)))
     else
      some (vi (gD S1 39 0 (a1.toNat)), S1))
    else none)
   else none)))) := rfl
set_option maxRecDepth 100000 in
theorem b19_0 (o : AR) (K : KT) (n : Nat) (S : SD) (a1 : Int) (a2 : Int) : run o K false mi_19 (n + 1) 0 [(0, vr (some (35, 0))), (1, vi a1), (2, vi a2)] [] S =
 run o K false mi_19 n 5 [(0, vr (some (35, 0))), (1, vi a1), (2, vi a2), (3, vi 0), (4, vi 0)] [] S := rfl
set_option maxRecDepth 100000 in
theorem b19_5 (o : AR) (K : KT) (n : Nat) (S : SD) (l1 : Int) (l2 : Int) (l3 : Int) (l4 : Int) : run o K false mi_19 (n + 1) 5 [(0, vr (some (35, 0))), (1, vi l1), (2, vi l2), (3, vi l3), (4, vi l4)] [] S =
 (if l4 < (gD S 35 0 5) then
  (if l4 < 200 then
   (bI (K 18 [vr (some (35, 0)), vi l4, vi l2] S) (fun x2 S1 =>
    (if 0 ≤ l4 ∧ l4 < 200 then
     (if (gD S1 36 0 (l4.toNat)) = l1 then
      (if x2 = 0 then
       (if 0 ≤ l4 ∧ l4 < 200 then
        (if 0 ≤ l4 ∧ l4 < 200 then
         (if 0 ≤ l4 ∧ l4 < 200 then
          run o K false mi_19 n 5 [(0, vr (some (35, 0))), (1, vi l1), (2, vi l2), (3, vi (aw o (l3 + 1))), (4, vi (aw o (l4 + 1)))] [] (wD (wD S1 39 0 ((l4).toNat) 1) 40 0 ((l4).toNat) (aw o ((gD (wD S1 39 0 ((l4).toNat) 1) 40 0 (l4.toNat)) + 1)))
         else none)
        else none)
       else none)
      else
       (if x2 = 1 then
        (if 0 ≤ l4 ∧ l4 < 200 then
         (if 0 ≤ l4 ∧ l4 < 200 then
          (if 0 ≤ l4 ∧ l4 < 200 then
           run o K false mi_19 n 5 [(0, vr (some (35, 0))), (1, vi l1), (2, vi l2), (3, vi (aw o (l3 + 1))), (4, vi (aw o (l4 + 1)))] [] (wD (wD S1 39 0 ((l4).toNat) 1) 40 0 ((l4).toNat) (aw o ((gD (wD S1 39 0 ((l4).toNat) 1) 40 0 (l4.toNat)) + 1)))
          else none)
         else none)
        else none)
       else
        run o K false mi_19 n 5 [(0, vr (some (35, 0))), (1, vi l1), (2, vi l2), (3, vi l3), (4, vi (aw o (l4 + 1)))] [] S1))
     else
      run o K false mi_19 n 5 [(0, vr (some (35, 0))), (1, vi l1), (2, vi l2), (3, vi l3), (4, vi (aw o (l4 + 1)))] [] S1)
    else none)))
  else
   some (vi l3, S))
 else
  some (vi l3, S)) := rfl
set_option maxRecDepth 100000 in
theorem b20_0 (o : AR) (K : KT) (n : Nat) (S : SD) (a1 : Int) (a2 : Int) (a3 : Int) : run o K false mi_20 (n + 1) 0 [(0, vr (some (35, 0))), (1, vi a1), (2, vi a2), (3, vi a3)] [] S =
 (bI (K 18 [vr (some (35, 0)), vi a1, vi a3] S) (fun x2 S1 =>
  (if x2 = 1 then
   (bI (K 17 [vr (some (35, 0)), vi a1] S1) (fun x4 S3 =>
    (if x4 = 0 then
     some (vi 0, S3)
    else
     (if a2 = 0 then
      (if 0 ≤ a1 ∧ a1 < 200 then
       some (vi 1, wD S3 39 0 ((a1).toNat) 3)
      else none)
     else
      (if 0 ≤ a1 ∧ a1 < 200 then
       some (vi 1, wD S3 39 0 ((a1).toNat) 2)
      else none)))))
  else
   (if x2 = 5 then
    (bI (K 17 [vr (some (35, 0)), vi a1] S1) (fun x6 S5 =>
     (if x6 = 0 then
      some (vi 0, S5)
     else
      (if a2 = 0 then
       (if 0 ≤ a1 ∧ a1 < 200 then
        some (vi 1, wD S5 39 0 ((a1).toNat) 3)
       else none)
      else
       (if 0 ≤ a1 ∧ a1 < 200 then
        some (vi 1, wD S5 39 0 ((a1).toNat) 2)
       else none)))))
   else
    some (vi 0, S1))))) := rfl
set_option maxRecDepth 100000 in
theorem b21_0 (o : AR) (K : KT) (n : Nat) (S : SD) (a1 : Int) (a2 : Int) (a3 : Int) : run o K false mi_21 (n + 1) 0 [(0, vr (some (35, 0))), (1, vi a1), (2, vi a2), (3, vi a3)] [] S =
 (bI (K 17 [vr (some (35, 0)), vi a1] S) (fun x2 S1 =>
  (if x2 = 0 then
   some (vi (-1), S1)
  else
   (if a2 = 0 then
    (if 0 ≤ a1 ∧ a1 < 200 then
     some (vi (gD S1 36 0 (a1.toNat)), S1)
    else none)
   else (if a2 = 1 then
    (if 0 ≤ a1 ∧ a1 < 200 then
     some (vi (gD S1 37 0 (a1.toNat)), S1)
    else none)
   else (if a2 = 2 then
    (if 0 ≤ a1 ∧ a1 < 200 then
     some (vi (gD S1 38 0 (a1.toNat)), S1)
    else none)
   else (if a2 = 3 then
    (bI (K 18 [vr (some (35, 0)), vi a1, vi a3] S1) (fun x4 S3 =>
     some (vi x4, S3)))
   else (if a2 = 4 then
    (if 0 ≤ a1 ∧ a1 < 200 then
     some (vi (gD S1 40 0 (a1.toNat)), S1)
    else none)
   else 
    some (vi (-1), S1))))))))) := rfl
