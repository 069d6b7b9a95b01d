set_option maxRecDepth 100000 in
theorem b57_0 (o : AR) (K : KT) (n : Nat) (S : SD) : run o K false mi_57 (n + 1) 0 [(0, vr (some (29, 0)))] [] S =
 (if 180 < (gD S 29 0 2) then
  some (vi 0, S)
 else
  some (vi 1, S)) := rfl
set_option maxRecDepth 100000 in
theorem b58_0 (o : AR) (K : KT) (n : Nat) (S : SD) (a1 : Int) : run o K false mi_58 (n + 1) 0 [(0, vr (some (29, 0))), (1, vi a1)] [] S =
 run o K false mi_58 n 3 [(0, vr (some (29, 0))), (1, vi a1), (2, vi 24)] [] S := rfl
set_option maxRecDepth 100000 in
theorem b58_3 (o : AR) (K : KT) (n : Nat) (S : SD) (l1 : Int) (l2 : Int) : run o K false mi_58 (n + 1) 3 [(0, vr (some (29, 0))), (1, vi l1), (2, vi l2)] [] S =
 (if l2 < 0 then
  some (vi 0, S)
 else
  (if (gD S 29 0 2) < 200 then
   (if 0 ≤ (gD S 29 0 2) ∧ (gD S 29 0 2) < 200 then
    run o K false mi_58 n 3 [(0, vr (some (29, 0))), (1, vi l1), (2, vi (aw o (l2 + (-8))))] [] (wD (wD S 30 0 (((gD S 29 0 2)).toNat) (ab o 0 (ab o 4 l1 l2) 255)) 29 0 2 (aw o ((gD (wD S 30 0 (((gD S 29 0 2)).toNat) (ab o 0 (ab o 4 l1 l2) 255)) 29 0 2) + 1)))
   else none)
  else
   some (vi 0, S))) := rfl
set_option maxRecDepth 100000 in
theorem b59_0 (o : AR) (K : KT) (n : Nat) (S : SD) (a1 : Int) : run o K false mi_59 (n + 1) 0 [(0, vr (some (29, 0))), (1, vi a1)] [] S =
 (if a1 < 0 then
  some (vi (-1), S)
 else
  (if (gD S 29 0 2) < a1 then
   some (vi (-1), S)
  else
   some (vi a1, wD S 29 0 2 a1))) := rfl
set_option maxRecDepth 100000 in
theorem b60_0 (o : AR) (K : KT) (n : Nat) (S : SD) (j1 : Nat) : run o K false mi_60 (n + 1) 0 [(0, vr (some (29, 0))), (1, vr (some (47, j1)))] [] S =
 (rR (gR (wR S 29 0 3 (some (47, j1))) 29 0 3) 47
  none
  (fun i1 =>
  (bV (K 47 [vr (some (47, i1))] (wR S 29 0 3 (some (47, j1)))) (fun S2 =>
   (bI (K 66 [vr (some (29, 0)), vr (some (1, 0))] (wD (wD S2 29 0 4 0) 29 0 5 0)) (fun x4 S3 =>
    (if x4 = 0 then
     some (vi (gD (wD S3 29 0 2 0) 29 0 5), wD S3 29 0 2 0)
    else
     (bI (K 71 [vr (some (29, 0)), vi 0] S3) (fun x6 S5 =>
      (if x6 = 0 then
       some (vi (gD (wD S5 29 0 2 0) 29 0 5), wD S5 29 0 2 0)
      else
       (bI (K 81 [vr (some (29, 0))] S5) (fun x8 S7 =>
        (if x8 = 0 then
         some (vi (gD (wD S7 29 0 2 0) 29 0 5), wD S7 29 0 2 0)
        else
         (bI (K 82 [vr (some (29, 0))] S7) (fun x10 S9 =>
          (if x10 = 0 then
           (bI (K 68 [vr (some (29, 0)), vi 58] S9) (fun x12 S11 =>
            (if x12 = 0 then
             some (vi (gD (wD S11 29 0 2 0) 29 0 5), wD S11 29 0 2 0)
            else
             (bI (K 83 [vr (some (29, 0))] S11) (fun x14 S13 =>
              (if x14 = 0 then
               some (vi (gD (wD S13 29 0 2 0) 29 0 5), wD S13 29 0 2 0)
              else
               (bI (K 69 [vr (some (29, 0))] S13) (fun x16 S15 =>
                (if x16 = 0 then
                 some (vi (gD (wD S15 29 0 2 0) 29 0 5), wD S15 29 0 2 0)
                else
                 some (vi 0, wD S15 29 0 2 0))))))))))
          else
           (bI (K 71 [vr (some (29, 0)), vi 0] S9) (fun x18 S17 =>
            (if x18 = 0 then
             some (vi (gD (wD S17 29 0 2 0) 29 0 5), wD S17 29 0 2 0)
            else
             (bI (K 68 [vr (some (29, 0)), vi 58] S17) (fun x20 S19 =>
              (if x20 = 0 then
               some (vi (gD (wD S19 29 0 2 0) 29 0 5), wD S19 29 0 2 0)
              else
               (bI (K 83 [vr (some (29, 0))] S19) (fun x22 S21 =>
                (if x22 = 0 then
                 some (vi (gD (wD S21 29 0 2 0) 29 0 5), wD S21 29 0 2 0)
                else
                 (bI (K 69 [vr (some (29, 0))] S21) (fun x24 S23 =>
                  (if x24 = 0 then
                   some (vi (gD (wD S23 29 0 2 0) 29 0 5), wD S23 29 0 2 0)
                  else
                   some (vi 0, wD S23 29 0 2 0))))))))))))))))))))))))))))) := rfl
set_option maxRecDepth 100000 in
theorem b61_0 (o : AR) (K : KT) (n : Nat) (S : SD) (a1 : Int) (a2 : Int) : run o K false mi_61 (n + 1) 0 [(0, vr (some (29, 0))), (1, vi a1), (2, vi a2)] [] S =
 some (vi 0, wD S 29 0 5 (aw o ((aw o (1 + (aw o (8 * a1)))) + a2))) := rfl
set_option maxRecDepth 100000 in
theorem b62_0 (o : AR) (K : KT) (n : Nat) (S : SD) (a1 : Int) : run o K false mi_62 (n + 1) 0 [(0, vr (some (29, 0))), (1, vi a1)] [] S =
 (if a1 < 0 then
  some (vi (-1), S)
 else
  (if a1 < (gD S 29 0 2) then
   (if a1 < 200 then
    (if 0 ≤ a1 ∧ a1 < 200 then
     some (vi (gD S 30 0 (a1.toNat)), S)
    else none)
   else
    some (vi (-1), S))
  else
   some (vi (-1), S))) := rfl
set_option maxRecDepth 100000 in
theorem b63_0 (o : AR) (K : KT) (n : Nat) (S : SD) : run o K false mi_63 (n + 1) 0 [(0, vr (some (29, 0)))] [] S =
 (if (gD S 29 0 4) < (gD S 29 0 2) then
  (if (gD S 29 0 4) < 200 then
   (if 0 ≤ (gD S 29 0 4) ∧ (gD S 29 0 4) < 200 then
    (if (gD S 30 0 ((gD S 29 0 4).toNat)) = 32 then
     run o K false mi_63 n 0 [(0, vr (some (29, 0)))] [] (wD S 29 0 4 (aw o ((gD S 29 0 4) + 1)))
    else
     some (vi 0, S))
   else none)
  else
   some (vi 0, S))
 else
  some (vi 0, S)) := rfl
set_option maxRecDepth 100000 in
theorem b64_0 (o : AR) (K : KT) (n : Nat) (S : SD) (j1 : Nat) : run o K false mi_64 (n + 1) 0 [(0, vr (some (29, 0))), (1, vr (some (1, j1)))] [] S =
 (bV (K 63 [vr (some (29, 0))] S) (fun S1 =>
  run o K false mi_64 n 11 [(0, vr (some (29, 0))), (1, vr (some (1, j1))), (2, vi (strL j1)), (3, vi 0)] [] S1)) := rfl
set_option maxRecDepth 100000 in
theorem b64_11 (o : AR) (K : KT) (n : Nat) (S : SD) (j1 : Nat) (l2 : Int) (l3 : Int) : run o K false mi_64 (n + 1) 11 [(0, vr (some (29, 0))), (1, vr (some (1, j1))), (2, vi l2), (3, vi l3)] [] S =
 (if l3 < l2 then
  (bI (K 62 [vr (some (29, 0)), vi (aw o ((gD S 29 0 4) + l3))] S) (fun x2 S1 =>
   (if 0 ≤ l3 ∧ l3 < strL j1 then
    (if x2 = (strC j1 (l3).toNat) then
     run o K false mi_64 n 11 [(0, vr (some (29, 0))), (1, vr (some (1, j1))), (2, vi l2), (3, vi (aw o (l3 + 1)))] [] S1
    else
     some (vi 0, S1))
   else none)))
 else
  (bI (K 62 [vr (some (29, 0)), vi (aw o ((gD S 29 0 4) + l2))] S) (fun x4 S3 =>
   (bI (K 189 [vi x4, vi 97, vi 122] S3) (fun x6 S5 =>
    (if x6 = 0 then
     some (vi 1, S5)
    else
     some (vi 0, S5))))))) := rfl
set_option maxRecDepth 100000 in
theorem b65_0 (o : AR) (K : KT) (n : Nat) (S : SD) (j1 : Nat) : run o K false mi_65 (n + 1) 0 [(0, vr (some (29, 0))), (1, vr (some (1, j1)))] [] S =
 (bI (K 64 [vr (some (29, 0)), vr (some (1, j1))] S) (fun x2 S1 =>
  (if x2 = 0 then
   (if x2 = 0 ∨ x2 = 1 then some (vi x2, S1) else none)
  else
   (if x2 = 0 ∨ x2 = 1 then some (vi x2, wD S1 29 0 4 (aw o ((gD S1 29 0 4) + (strL j1)))) else none)))) := rfl
set_option maxRecDepth 100000 in
theorem b66_0 (o : AR) (K : KT) (n : Nat) (S : SD) (j1 : Nat) : run o K false mi_66 (n + 1) 0 [(0, vr (some (29, 0))), (1, vr (some (1, j1)))] [] S =
 (bI (K 65 [vr (some (29, 0)), vr (some (1, j1))] S) (fun x2 S1 =>
  (if x2 = 0 then
   (bI (K 61 [vr (some (29, 0)), vi (gD S1 29 0 4), vi 0] S1) (fun x4 S3 =>
    (if x4 = 0 then
     some (vi 0, S3)
    else
     some (vi 1, S3))))
  else
   some (vi 1, S1)))) := rfl
set_option maxRecDepth 100000 in
theorem b67_0 (o : AR) (K : KT) (n : Nat) (S : SD) (a1 : Int) : run o K false mi_67 (n + 1) 0 [(0, vr (some (29, 0))), (1, vi a1)] [] S =
 (bV (K 63 [vr (some (29, 0))] S) (fun S1 =>
  (bI (K 62 [vr (some (29, 0)), vi (gD S1 29 0 4)] S1) (fun x3 S2 =>
   (if x3 = a1 then
    some (vi 1, wD S2 29 0 4 (aw o ((gD S2 29 0 4) + 1)))
   else
    some (vi 0, S2)))))) := rfl
set_option maxRecDepth 100000 in
theorem b68_0 (o : AR) (K : KT) (n : Nat) (S : SD) (a1 : Int) : run o K false mi_68 (n + 1) 0 [(0, vr (some (29, 0))), (1, vi a1)] [] S =
 (bI (K 67 [vr (some (29, 0)), vi a1] S) (fun x2 S1 =>
  (if x2 = 0 then
   (bI (K 61 [vr (some (29, 0)), vi (gD S1 29 0 4), vi 0] S1) (fun x4 S3 =>
    (if x4 = 0 then
     some (vi 0, S3)
    else
     some (vi 1, S3))))
  else
   some (vi 1, S1)))) := rfl
set_option maxRecDepth 100000 in
theorem b69_0 (o : AR) (K : KT) (n : Nat) (S : SD) : run o K false mi_69 (n + 1) 0 [(0, vr (some (29, 0)))] [] S =
 (bV (K 63 [vr (some (29, 0))] S) (fun S1 =>
  (if (gD S1 29 0 4) < (gD S1 29 0 2) then
   (bI (K 61 [vr (some (29, 0)), vi (gD S1 29 0 4), vi 0] S1) (fun x3 S2 =>
    (if x3 = 0 then
     some (vi 0, S2)
    else
     some (vi 1, S2))))
  else
   some (vi 1, S1)))) := rfl
set_option maxRecDepth 100000 in
theorem b70_0 (o : AR) (K : KT) (n : Nat) (S : SD) (a1 : Int) : run o K false mi_70 (n + 1) 0 [(0, vr (some (29, 0))), (1, vi a1)] [] S =
 (rR (gR S 29 0 3) 47
  none
  (fun i1 =>
  (if (gD S 47 i1 9) < 128 then
   (rR (gR S 29 0 3) 47
    none
    (fun i2 =>
    (rR (gR S 29 0 3) 47
     none
     (fun i3 =>
     (if 0 ≤ (gD S 47 i3 9) ∧ (gD S 47 i3 9) < 128 then
      (rR (gR (wD S 54 i2 (((gD S 47 i3 9)).toNat) a1) 29 0 3) 47
       none
       (fun i4 =>
       some (vi 0, wD (wD S 54 i2 (((gD S 47 i3 9)).toNat) a1) 47 i4 9 (aw o ((gD (wD S 54 i2 (((gD S 47 i3 9)).toNat) a1) 47 i4 9) + 1)))))
     else none)))))
  else
   some (vi 0, S)))) := rfl
set_option maxRecDepth 100000 in
theorem b71_0 (o : AR) (K : KT) (n : Nat) (S : SD) (a1 : Int) : run o K false mi_71 (n + 1) 0 [(0, vr (some (29, 0))), (1, vi a1)] [] S =
 run o K false mi_71 n 7 [(0, vr (some (29, 0))), (1, vi a1), (2, vi 0), (3, vi 0), (4, vi 0)] [] S := rfl
set_option maxRecDepth 100000 in
theorem b71_7 (o : AR) (K : KT) (n : Nat) (S : SD) (l1 : Int) (l2 : Int) (l3 : Int) (l4 : Int) : run o K false mi_71 (n + 1) 7 [(0, vr (some (29, 0))), (1, vi l1), (2, vi l2), (3, vi l3), (4, vi l4)] [] S =
 (if l4 < 200 then
  (bI (K 72 [vr (some (29, 0)), vi l1] S) (fun x2 S1 =>
   (if x2 = 0 then
    some (vi 0, S1)
   else
    (if l2 = 0 then
     (bI (K 65 [vr (some (29, 0)), vr (some (1, 6))] S1) (fun x4 S3 =>
      (if x4 = 0 then
       (if l3 = 0 then
        (bI (K 65 [vr (some (29, 0)), vr (some (1, 7))] S3) (fun x6 S5 =>
         (if x6 = 0 then
          some (vi 1, S5)
         else
          run o K false mi_71 n 7 [(0, vr (some (29, 0))), (1, vi l1), (2, vi x4), (3, vi x6), (4, vi (aw o (l4 + 1)))] [] S5)))
       else
        (bV (K 70 [vr (some (29, 0)), vi (-3)] S3) (fun S7 =>
         (bI (K 65 [vr (some (29, 0)), vr (some (1, 7))] S7) (fun x9 S8 =>
          (if x9 = 0 then
           some (vi 1, S8)
          else
           run o K false mi_71 n 7 [(0, vr (some (29, 0))), (1, vi l1), (2, vi x4), (3, vi x9), (4, vi (aw o (l4 + 1)))] [] S8))))))
      else
       run o K false mi_71 n 7 [(0, vr (some (29, 0))), (1, vi l1), (2, vi x4), (3, vi l3), (4, vi (aw o (l4 + 1)))] [] S3)))
    else
     (bV (K 70 [vr (some (29, 0)), vi (-2)] S1) (fun S10 =>
      (bI (K 65 [vr (some (29, 0)), vr (some (1, 6))] S10) (fun x12 S11 =>
       (if x12 = 0 then
        (if l3 = 0 then
         (bI (K 65 [vr (some (29, 0)), vr (some (1, 7))] S11) (fun x14 S13 =>
          (if x14 = 0 then
           some (vi 1, S13)
          else
           run o K false mi_71 n 7 [(0, vr (some (29, 0))), (1, vi l1), (2, vi x12), (3, vi x14), (4, vi (aw o (l4 + 1)))] [] S13)))
        else
         (bV (K 70 [vr (some (29, 0)), vi (-3)] S11) (fun S15 =>
          (bI (K 65 [vr (some (29, 0)), vr (some (1, 7))] S15) (fun x17 S16 =>
           (if x17 = 0 then
            some (vi 1, S16)
           else
            run o K false mi_71 n 7 [(0, vr (some (29, 0))), (1, vi l1), (2, vi x12), (3, vi x17), (4, vi (aw o (l4 + 1)))] [] S16))))))
       else
        run o K false mi_71 n 7 [(0, vr (some (29, 0))), (1, vi l1), (2, vi x12), (3, vi l3), (4, vi (aw o (l4 + 1)))] [] S11)))))))))
 else
  (bI (K 61 [vr (some (29, 0)), vi (gD S 29 0 4), vi 0] S) (fun x19 S18 =>
   (if x19 = 0 ∨ x19 = 1 then some (vi x19, S18) else none)))) := rfl
set_option maxRecDepth 100000 in
theorem b72_0 (o : AR) (K : KT) (n : Nat) (S : SD) (a1 : Int) : run o K false mi_72 (n + 1) 0 [(0, vr (some (29, 0))), (1, vi a1)] [] S =
 (bI (K 64 [vr (some (29, 0)), vr (some (1, 1))] S) (fun x2 S1 =>
  (bI (K 62 [vr (some (29, 0)), vi (gD S1 29 0 4)] S1) (fun x4 S3 =>
   (if x4 = 91 then
    (if x2 = 0 then
     (if a1 < 5 then
      (bI (K 71 [vr (some (29, 0)), vi (aw o (a1 + 1))] (wD S3 29 0 4 (aw o ((gD S3 29 0 4) + 1)))) (fun x6 S5 =>
       (if x6 = 0 then
        some (vi 0, S5)
       else
        (bI (K 68 [vr (some (29, 0)), vi 93] S5) (fun x8 S7 =>
         (if x8 = 0 then
          some (vi 0, S7)
         else
          some (vi 1, S7)))))))
     else
      (bI (K 61 [vr (some (29, 0)), vi (gD S3 29 0 4), vi 2] S3) (fun x10 S9 =>
       (if x10 = 0 ∨ x10 = 1 then some (vi x10, S9) else none))))
    else
     (if a1 < 5 then
      (bI (K 71 [vr (some (29, 0)), vi (aw o (a1 + 1))] (wD S3 29 0 4 (aw o ((gD S3 29 0 4) + 1)))) (fun x12 S11 =>
       (if x12 = 0 then
        some (vi 0, S11)
       else
        (bI (K 68 [vr (some (29, 0)), vi 93] S11) (fun x14 S13 =>
         (if x14 = 0 then
          some (vi 0, S13)
         else
          some (vi 1, S13)))))))
     else
      (bI (K 61 [vr (some (29, 0)), vi (gD S3 29 0 4), vi 2] S3) (fun x16 S15 =>
       (if x16 = 0 ∨ x16 = 1 then some (vi x16, S15) else none)))))
   else
    (if x2 = 0 then
     (bI (K 74 [vr (some (29, 0))] S3) (fun x18 S17 =>
      (if x18 = 0 ∨ x18 = 1 then some (vi x18, S17) else none)))
    else
     (if a1 < 5 then
      (bI (K 72 [vr (some (29, 0)), vi (aw o (a1 + 1))] (wD S3 29 0 4 (aw o ((gD S3 29 0 4) + 3)))) (fun x20 S19 =>
       (if x20 = 0 then
        some (vi 0, S19)
       else
        (bV (K 70 [vr (some (29, 0)), vi (-1)] S19) (fun S21 =>
         some (vi 1, S21))))))
     else
      (bI (K 61 [vr (some (29, 0)), vi (gD S3 29 0 4), vi 2] S3) (fun x23 S22 =>
       (if x23 = 0 ∨ x23 = 1 then some (vi x23, S22) else none)))))))))) := rfl
set_option maxRecDepth 100000 in
theorem b73_0 (o : AR) (K : KT) (n : Nat) (S : SD) : run o K false mi_73 (n + 1) 0 [(0, vr (some (29, 0)))] [] S =
 (bI (K 64 [vr (some (29, 0)), vr (some (1, 2))] S) (fun x2 S1 =>
  (if x2 = 0 then
   (bI (K 64 [vr (some (29, 0)), vr (some (1, 3))] S1) (fun x4 S3 =>
    (if x4 = 0 then
     (bI (K 64 [vr (some (29, 0)), vr (some (1, 4))] S3) (fun x6 S5 =>
      (if x6 = 0 then
       (bI (K 64 [vr (some (29, 0)), vr (some (1, 5))] S5) (fun x8 S7 =>
        (if x8 = 0 then
         some (vi (-1), S7)
        else
         some (vi 3, S7))))
      else
       some (vi 2, S5))))
    else
     some (vi 1, S3))))
  else
   some (vi 0, S1)))) := rfl
set_option maxRecDepth 100000 in
theorem b74_0 (o : AR) (K : KT) (n : Nat) (S : SD) : run o K false mi_74 (n + 1) 0 [(0, vr (some (29, 0)))] [] S =
 (bI (K 73 [vr (some (29, 0))] S) (fun x2 S1 =>
  (if x2 = (-1) then
   (bI (K 61 [vr (some (29, 0)), vi (gD S1 29 0 4), vi 0] S1) (fun x4 S3 =>
    (if x4 = 0 ∨ x4 = 1 then some (vi x4, S3) else none)))
  else
   (rR (gR S1 29 0 3) 47
    none
    (fun i5 =>
    (if (gD S1 47 i5 7) < 16 then
     (if x2 = 1 then
      (if x2 = 0 then
       (bI (K 76 [vr (some (29, 0))] (wD (wD S1 29 0 4 (aw o ((gD S1 29 0 4) + 0))) 29 0 7 (-1))) (fun x7 S6 =>
        (if x7 = 0 then
         some (vi 0, S6)
        else
         (if x2 = 3 then
          (bI (K 78 [vr (some (29, 0))] S6) (fun x9 S8 =>
           (if x9 = 0 then
            some (vi 0, S8)
           else
            (rR (gR S8 29 0 3) 47
             none
             (fun i10 =>
             (if 0 ≤ (gD S1 47 i5 7) ∧ (gD S1 47 i5 7) < 16 then
              (rR (gR (wD S8 48 i10 (((gD S1 47 i5 7)).toNat) x2) 29 0 3) 47
               none
               (fun i11 =>
               (if 0 ≤ (gD S1 47 i5 7) ∧ (gD S1 47 i5 7) < 16 then
                (rR (gR (wD (wD S8 48 i10 (((gD S1 47 i5 7)).toNat) x2) 49 i11 (((gD S1 47 i5 7)).toNat) (gD (wD S8 48 i10 (((gD S1 47 i5 7)).toNat) x2) 29 0 6)) 29 0 3) 47
                 none
                 (fun i12 =>
                 (if 0 ≤ (gD S1 47 i5 7) ∧ (gD S1 47 i5 7) < 16 then
                  (rR (gR (wD (wD (wD S8 48 i10 (((gD S1 47 i5 7)).toNat) x2) 49 i11 (((gD S1 47 i5 7)).toNat) (gD (wD S8 48 i10 (((gD S1 47 i5 7)).toNat) x2) 29 0 6)) 50 i12 (((gD S1 47 i5 7)).toNat) (gD (wD (wD S8 48 i10 (((gD S1 47 i5 7)).toNat) x2) 49 i11 (((gD S1 47 i5 7)).toNat) (gD (wD S8 48 i10 (((gD S1 47 i5 7)).toNat) x2) 29 0 6)) 29 0 7)) 29 0 3) 47
                   none
                   (fun i13 =>
                   (if 0 ≤ (gD S1 47 i5 7) ∧ (gD S1 47 i5 7) < 16 then
                    (bI (K 75 [vr (some (29, 0))] (wD (wD (wD (wD S8 48 i10 (((gD S1 47 i5 7)).toNat) x2) 49 i11 (((gD S1 47 i5 7)).toNat) (gD (wD S8 48 i10 (((gD S1 47 i5 7)).toNat) x2) 29 0 6)) 50 i12 (((gD S1 47 i5 7)).toNat) (gD (wD (wD S8 48 i10 (((gD S1 47 i5 7)).toNat) x2) 49 i11 (((gD S1 47 i5 7)).toNat) (gD (wD S8 48 i10 (((gD S1 47 i5 7)).toNat) x2) 29 0 6)) 29 0 7)) 51 i13 (((gD S1 47 i5 7)).toNat) (gD (wD (wD (wD S8 48 i10 (((gD S1 47 i5 7)).toNat) x2) 49 i11 (((gD S1 47 i5 7)).toNat) (gD (wD S8 48 i10 (((gD S1 47 i5 7)).toNat) x2) 29 0 6)) 50 i12 (((gD S1 47 i5 7)).toNat) (gD (wD (wD S8 48 i10 (((gD S1 47 i5 7)).toNat) x2) 49 i11 (((gD S1 47 i5 7)).toNat) (gD (wD S8 48 i10 (((gD S1 47 i5 7)).toNat) x2) 29 0 6)) 29 0 7)) 29 0 8))) (fun x15 S14 =>
                     (if x15 = (-1) then
                      some (vi 0, S14)
                     else
                      (bI (K 79 [vr (some (29, 0))] S14) (fun x17 S16 =>
                       (if x17 = 0 then
                        some (vi 0, S16)
                       else
                        (rR (gR S16 29 0 3) 47
                         none
                         (fun i18 =>
                         (if 0 ≤ (gD S1 47 i5 7) ∧ (gD S1 47 i5 7) < 16 then
                          (rR (gR (wD S16 52 i18 (((gD S1 47 i5 7)).toNat) x15) 29 0 3) 47
                           none
                           (fun i19 =>
                           (if 0 ≤ (gD S1 47 i5 7) ∧ (gD S1 47 i5 7) < 16 then
                            (rR (gR (wD (wD S16 52 i18 (((gD S1 47 i5 7)).toNat) x15) 53 i19 (((gD S1 47 i5 7)).toNat) (gD (wD S16 52 i18 (((gD S1 47 i5 7)).toNat) x15) 29 0 8)) 29 0 3) 47
                             none
                             (fun i20 =>
                             (bV (K 70 [vr (some (29, 0)), vi (gD S1 47 i5 7)] (wD (wD (wD S16 52 i18 (((gD S1 47 i5 7)).toNat) x15) 53 i19 (((gD S1 47 i5 7)).toNat) (gD (wD S16 52 i18 (((gD S1 47 i5 7)).toNat) x15) 29 0 8)) 47 i20 7 (aw o ((gD S1 47 i5 7) + 1)))) (fun S21 =>
                              some (vi 1, S21)))))
                           else none)))
                         else none)))))))))
                   else none)))
                 else none)))
               else none)))
             else none))))))
         else
          (bI (K 77 [vr (some (29, 0))] S6) (fun x23 S22 =>
           (if x23 = 0 then
            some (vi 0, S22)
           else
            (bI (K 78 [vr (some (29, 0))] S22) (fun x25 S24 =>
             (if x25 = 0 then
              some (vi 0, S24)
             else
              (rR (gR S24 29 0 3) 47
               none
               (fun i26 =>
               (if 0 ≤ (gD S1 47 i5 7) ∧ (gD S1 47 i5 7) < 16 then
                (rR (gR (wD S24 48 i26 (((gD S1 47 i5 7)).toNat) x2) 29 0 3) 47
                 none
                 (fun i27 =>
                 (if 0 ≤ (gD S1 47 i5 7) ∧ (gD S1 47 i5 7) < 16 then
                  (rR (gR (wD (wD S24 48 i26 (((gD S1 47 i5 7)).toNat) x2) 49 i27 (((gD S1 47 i5 7)).toNat) (gD (wD S24 48 i26 (((gD S1 47 i5 7)).toNat) x2) 29 0 6)) 29 0 3) 47
                   none
                   (fun i28 =>
                   (if 0 ≤ (gD S1 47 i5 7) ∧ (gD S1 47 i5 7) < 16 then
                    (rR (gR (wD (wD (wD S24 48 i26 (((gD S1 47 i5 7)).toNat) x2) 49 i27 (((gD S1 47 i5 7)).toNat) (gD (wD S24 48 i26 (((gD S1 47 i5 7)).toNat) x2) 29 0 6)) 50 i28 (((gD S1 47 i5 7)).toNat) (gD (wD (wD S24 48 i26 (((gD S1 47 i5 7)).toNat) x2) 49 i27 (((gD S1 47 i5 7)).toNat) (gD (wD S24 48 i26 (((gD S1 47 i5 7)).toNat) x2) 29 0 6)) 29 0 7)) 29 0 3) 47
                     none
                     (fun i29 =>
                     (if 0 ≤ (gD S1 47 i5 7) ∧ (gD S1 47 i5 7) < 16 then
                      (bI (K 75 [vr (some (29, 0))] (wD (wD (wD (wD S24 48 i26 (((gD S1 47 i5 7)).toNat) x2) 49 i27 (((gD S1 47 i5 7)).toNat) (gD (wD S24 48 i26 (((gD S1 47 i5 7)).toNat) x2) 29 0 6)) 50 i28 (((gD S1 47 i5 7)).toNat) (gD (wD (wD S24 48 i26 (((gD S1 47 i5 7)).toNat) x2) 49 i27 (((gD S1 47 i5 7)).toNat) (gD (wD S24 48 i26 (((gD S1 47 i5 7)).toNat) x2) 29 0 6)) 29 0 7)) 51 i29 (((gD S1 47 i5 7)).toNat) (gD (wD (wD (wD S24 48 i26 (((gD S1 47 i5 7)).toNat) x2) 49 i27 (((gD S1 47 i5 7)).toNat) (gD (wD S24 48 i26 (((gD S1 47 i5 7)).toNat) x2) 29 0 6)) 50 i28 (((gD S1 47 i5 7)).toNat) (gD (wD (wD S24 48 i26 (((gD S1 47 i5 7)).toNat) x2) 49 i27 (((gD S1 47 i5 7)).toNat) (gD (wD S24 48 i26 (((gD S1 47 i5 7)).toNat) x2) 29 0 6)) 29 0 7)) 29 0 8))) (fun x31 S30 =>
                       (if x31 = (-1) then
                        some (vi 0, S30)
                       else
                        (bI (K 79 [vr (some (29, 0))] S30) (fun x33 S32 =>
                         (if x33 = 0 then
                          some (vi 0, S32)
                         else
                          (rR (gR S32 29 0 3) 47
                           none
                           (fun i34 =>
                           (if 0 ≤ (gD S1 47 i5 7) ∧ (gD S1 47 i5 7) < 16 then
                            (rR (gR (wD S32 52 i34 (((gD S1 47 i5 7)).toNat) x31) 29 0 3) 47
                             none
                             (fun i35 =>
                             (if 0 ≤ (gD S1 47 i5 7) ∧ (gD S1 47 i5 7) < 16 then
                              (rR (gR (wD (wD S32 52 i34 (((gD S1 47 i5 7)).toNat) x31) 53 i35 (((gD S1 47 i5 7)).toNat) (gD (wD S32 52 i34 (((gD S1 47 i5 7)).toNat) x31) 29 0 8)) 29 0 3) 47
                               none
                               (fun i36 =>
                               (bV (K 70 [vr (some (29, 0)), vi (gD S1 47 i5 7)] (wD (wD (wD S32 52 i34 (((gD S1 47 i5 7)).toNat) x31) 53 i35 (((gD S1 47 i5 7)).toNat) (gD (wD S32 52 i34 (((gD S1 47 i5 7)).toNat) x31) 29 0 8)) 47 i36 7 (aw o ((gD S1 47 i5 7) + 1)))) (fun S37 =>
                                some (vi 1, S37)))))
                             else none)))
                           else none)))))))))
                     else none)))
                   else none)))
                 else none)))
               else none)))))))))))))
      else
       (bI (K 76 [vr (some (29, 0))] (wD (wD S1 29 0 4 (aw o ((gD S1 29 0 4) + 3))) 29 0 7 (-1))) (fun x39 S38 =>
        (if x39 = 0 then
         some (vi 0, S38)
        else
         (if x2 = 3 then
          (bI (K 78 [vr (some (29, 0))] S38) (fun x41 S40 =>
           (if x41 = 0 then
            some (vi 0, S40)
           else
            (rR (gR S40 29 0 3) 47
             none
             (fun i42 =>
             (if 0 ≤ (gD S1 47 i5 7) ∧ (gD S1 47 i5 7) < 16 then
              (rR (gR (wD S40 48 i42 (((gD S1 47 i5 7)).toNat) x2) 29 0 3) 47
               none
               (fun i43 =>
               (if 0 ≤ (gD S1 47 i5 7) ∧ (gD S1 47 i5 7) < 16 then
                (rR (gR (wD (wD S40 48 i42 (((gD S1 47 i5 7)).toNat) x2) 49 i43 (((gD S1 47 i5 7)).toNat) (gD (wD S40 48 i42 (((gD S1 47 i5 7)).toNat) x2) 29 0 6)) 29 0 3) 47
                 none
                 (fun i44 =>
                 (if 0 ≤ (gD S1 47 i5 7) ∧ (gD S1 47 i5 7) < 16 then
                  (rR (gR (wD (wD (wD S40 48 i42 (((gD S1 47 i5 7)).toNat) x2) 49 i43 (((gD S1 47 i5 7)).toNat) (gD (wD S40 48 i42 (((gD S1 47 i5 7)).toNat) x2) 29 0 6)) 50 i44 (((gD S1 47 i5 7)).toNat) (gD (wD (wD S40 48 i42 (((gD S1 47 i5 7)).toNat) x2) 49 i43 (((gD S1 47 i5 7)).toNat) (gD (wD S40 48 i42 (((gD S1 47 i5 7)).toNat) x2) 29 0 6)) 29 0 7)) 29 0 3) 47
                   none
                   (fun i45 =>
                   (if 0 ≤ (gD S1 47 i5 7) ∧ (gD S1 47 i5 7) < 16 then
                    (bI (K 75 [vr (some (29, 0))] (wD (wD (wD (wD S40 48 i42 (((gD S1 47 i5 7)).toNat) x2) 49 i43 (((gD S1 47 i5 7)).toNat) (gD (wD S40 48 i42 (((gD S1 47 i5 7)).toNat) x2) 29 0 6)) 50 i44 (((gD S1 47 i5 7)).toNat) (gD (wD (wD S40 48 i42 (((gD S1 47 i5 7)).toNat) x2) 49 i43 (((gD S1 47 i5 7)).toNat) (gD (wD S40 48 i42 (((gD S1 47 i5 7)).toNat) x2) 29 0 6)) 29 0 7)) 51 i45 (((gD S1 47 i5 7)).toNat) (gD (wD (wD (wD S40 48 i42 (((gD S1 47 i5 7)).toNat) x2) 49 i43 (((gD S1 47 i5 7)).toNat) (gD (wD S40 48 i42 (((gD S1 47 i5 7)).toNat) x2) 29 0 6)) 50 i44 (((gD S1 47 i5 7)).toNat) (gD (wD (wD S40 48 i42 (((gD S1 47 i5 7)).toNat) x2) 49 i43 (((gD S1 47 i5 7)).toNat) (gD (wD S40 48 i42 (((gD S1 47 i5 7)).toNat) x2) 29 0 6)) 29 0 7)) 29 0 8))) (fun x47 S46 =>
                     (if x47 = (-1) then
                      some (vi 0, S46)
                     else
                      (bI (K 79 [vr (some (29, 0))] S46) (fun x49 S48 =>
                       (if x49 = 0 then
                        some (vi 0, S48)
                       else
                        (rR (gR S48 29 0 3) 47
                         none
                         (fun i50 =>
                         (if 0 ≤ (gD S1 47 i5 7) ∧ (gD S1 47 i5 7) < 16 then
                          (rR (gR (wD S48 52 i50 (((gD S1 47 i5 7)).toNat) x47) 29 0 3) 47
                           none
                           (fun i51 =>
                           (if 0 ≤ (gD S1 47 i5 7) ∧ (gD S1 47 i5 7) < 16 then
                            (rR (gR (wD (wD S48 52 i50 (((gD S1 47 i5 7)).toNat) x47) 53 i51 (((gD S1 47 i5 7)).toNat) (gD (wD S48 52 i50 (((gD S1 47 i5 7)).toNat) x47) 29 0 8)) 29 0 3) 47
                             none
                             (fun i52 =>
                             (bV (K 70 [vr (some (29, 0)), vi (gD S1 47 i5 7)] (wD (wD (wD S48 52 i50 (((gD S1 47 i5 7)).toNat) x47) 53 i51 (((gD S1 47 i5 7)).toNat) (gD (wD S48 52 i50 (((gD S1 47 i5 7)).toNat) x47) 29 0 8)) 47 i52 7 (aw o ((gD S1 47 i5 7) + 1)))) (fun S53 =>
                              some (vi 1, S53)))))
                           else none)))
                         else none)))))))))
                   else none)))
                 else none)))
               else none)))
             else none))))))
         else
          (bI (K 77 [vr (some (29, 0))] S38) (fun x55 S54 =>
           (if x55 = 0 then
            some (vi 0, S54)
           else
            (bI (K 78 [vr (some (29, 0))] S54) (fun x57 S56 =>
             (if x57 = 0 then
              some (vi 0, S56)
             else
              (rR (gR S56 29 0 3) 47
               none
               (fun i58 =>
               (if 0 ≤ (gD S1 47 i5 7) ∧ (gD S1 47 i5 7) < 16 then
                (rR (gR (wD S56 48 i58 (((gD S1 47 i5 7)).toNat) x2) 29 0 3) 47
                 none
                 (fun i59 =>
                 (if 0 ≤ (gD S1 47 i5 7) ∧ (gD S1 47 i5 7) < 16 then
                  (rR (gR (wD (wD S56 48 i58 (((gD S1 47 i5 7)).toNat) x2) 49 i59 (((gD S1 47 i5 7)).toNat) (gD (wD S56 48 i58 (((gD S1 47 i5 7)).toNat) x2) 29 0 6)) 29 0 3) 47
                   none
                   (fun i60 =>
                   (if 0 ≤ (gD S1 47 i5 7) ∧ (gD S1 47 i5 7) < 16 then
                    (rR (gR (wD (wD (wD S56 48 i58 (((gD S1 47 i5 7)).toNat) x2) 49 i59 (((gD S1 47 i5 7)).toNat) (gD (wD S56 48 i58 (((gD S1 47 i5 7)).toNat) x2) 29 0 6)) 50 i60 (((gD S1 47 i5 7)).toNat) (gD (wD (wD S56 48 i58 (((gD S1 47 i5 7)).toNat) x2) 49 i59 (((gD S1 47 i5 7)).toNat) (gD (wD S56 48 i58 (((gD S1 47 i5 7)).toNat) x2) 29 0 6)) 29 0 7)) 29 0 3) 47
                     none
                     (fun i61 =>
                     (if 0 ≤ (gD S1 47 i5 7) ∧ (gD S1 47 i5 7) < 16 then
                      (bI (K 75 [vr (some (29, 0))] (wD (wD (wD (wD S56 48 i58 (((gD S1 47 i5 7)).toNat) x2) 49 i59 (((gD S1 47 i5 7)).toNat) (gD (wD S56 48 i58 (((gD S1 47 i5 7)).toNat) x2) 29 0 6)) 50 i60 (((gD S1 47 i5 7)).toNat) (gD (wD (wD S56 48 i58 (((gD S1 47 i5 7)).toNat) x2) 49 i59 (((gD S1 47 i5 7)).toNat) (gD (wD S56 48 i58 (((gD S1 47 i5 7)).toNat) x2) 29 0 6)) 29 0 7)) 51 i61 (((gD S1 47 i5 7)).toNat) (gD (wD (wD (wD S56 48 i58 (((gD S1 47 i5 7)).toNat) x2) 49 i59 (((gD S1 47 i5 7)).toNat) (gD (wD S56 48 i58 (((gD S1 47 i5 7)).toNat) x2) 29 0 6)) 50 i60 (((gD S1 47 i5 7)).toNat) (gD (wD (wD S56 48 i58 (((gD S1 47 i5 7)).toNat) x2) 49 i59 (((gD S1 47 i5 7)).toNat) (gD (wD S56 48 i58 (((gD S1 47 i5 7)).toNat) x2) 29 0 6)) 29 0 7)) 29 0 8))) (fun x63 S62 =>
                       (if x63 = (-1) then
                        some (vi 0, S62)
                       else
                        (bI (K 79 [vr (some (29, 0))] S62) (fun x65 S64 =>
                         (if x65 = 0 then
                          some (vi 0, S64)
                         else
                          (rR (gR S64 29 0 3) 47
                           none
                           (fun i66 =>
                           (if 0 ≤ (gD S1 47 i5 7) ∧ (gD S1 47 i5 7) < 16 then
                            (rR (gR (wD S64 52 i66 (((gD S1 47 i5 7)).toNat) x63) 29 0 3) 47
                             none
                             (fun i67 =>
                             (if 0 ≤ (gD S1 47 i5 7) ∧ (gD S1 47 i5 7) < 16 then
                              (rR (gR (wD (wD S64 52 i66 (((gD S1 47 i5 7)).toNat) x63) 53 i67 (((gD S1 47 i5 7)).toNat) (gD (wD S64 52 i66 (((gD S1 47 i5 7)).toNat) x63) 29 0 8)) 29 0 3) 47
                               none
                               (fun i68 =>
                               (bV (K 70 [vr (some (29, 0)), vi (gD S1 47 i5 7)] (wD (wD (wD S64 52 i66 (((gD S1 47 i5 7)).toNat) x63) 53 i67 (((gD S1 47 i5 7)).toNat) (gD (wD S64 52 i66 (((gD S1 47 i5 7)).toNat) x63) 29 0 8)) 47 i68 7 (aw o ((gD S1 47 i5 7) + 1)))) (fun S69 =>
                                some (vi 1, S69)))))
                             else none)))
                           else none)))))))))
                     else none)))
                   else none)))
                 else none)))
               else none))))))))))))))
     else
      (if x2 = 2 then
       (if x2 = 0 then
        (bI (K 76 [vr (some (29, 0))] (wD (wD S1 29 0 4 (aw o ((gD S1 29 0 4) + 0))) 29 0 7 (-1))) (fun x71 S70 =>
         (if x71 = 0 then
          some (vi 0, S70)
         else
          (if x2 = 3 then
           (bI (K 78 [vr (some (29, 0))] S70) (fun x73 S72 =>
            (if x73 = 0 then
             some (vi 0, S72)
            else
             (rR (gR S72 29 0 3) 47
              none
              (fun i74 =>
              (if 0 ≤ (gD S1 47 i5 7) ∧ (gD S1 47 i5 7) < 16 then
               (rR (gR (wD S72 48 i74 (((gD S1 47 i5 7)).toNat) x2) 29 0 3) 47
                none
                (fun i75 =>
                (if 0 ≤ (gD S1 47 i5 7) ∧ (gD S1 47 i5 7) < 16 then
                 (rR (gR (wD (wD S72 48 i74 (((gD S1 47 i5 7)).toNat) x2) 49 i75 (((gD S1 47 i5 7)).toNat) (gD (wD S72 48 i74 (((gD S1 47 i5 7)).toNat) x2) 29 0 6)) 29 0 3) 47
                  none
                  (fun i76 =>
                  (if 0 ≤ (gD S1 47 i5 7) ∧ (gD S1 47 i5 7) < 16 then
                   (rR (gR (wD (wD (wD S72 48 i74 (((gD S1 47 i5 7)).toNat) x2) 49 i75 (((gD S1 47 i5 7)).toNat) (gD (wD S72 48 i74 (((gD S1 47 i5 7)).toNat) x2) 29 0 6)) 50 i76 (((gD S1 47 i5 7)).toNat) (gD (wD (wD S72 48 i74 (((gD S1 47 i5 7)).toNat) x2) 49 i75 (((gD S1 47 i5 7)).toNat) (gD (wD S72 48 i74 (((gD S1 47 i5 7)).toNat) x2) 29 0 6)) 29 0 7)) 29 0 3) 47
                    none
                    (fun i77 =>
                    (if 0 ≤ (gD S1 47 i5 7) ∧ (gD S1 47 i5 7) < 16 then
                     (bI (K 75 [vr (some (29, 0))] (wD (wD (wD (wD S72 48 i74 (((gD S1 47 i5 7)).toNat) x2) 49 i75 (((gD S1 47 i5 7)).toNat) (gD (wD S72 48 i74 (((gD S1 47 i5 7)).toNat) x2) 29 0 6)) 50 i76 (((gD S1 47 i5 7)).toNat) (gD (wD (wD S72 48 i74 (((gD S1 47 i5 7)).toNat) x2) 49 i75 (((gD S1 47 i5 7)).toNat) (gD (wD S72 48 i74 (((gD S1 47 i5 7)).toNat) x2) 29 0 6)) 29 0 7)) 51 i77 (((gD S1 47 i5 7)).toNat) (gD (wD (wD (wD S72 48 i74 (((gD S1 47 i5 7)).toNat) x2) 49 i75 (((gD S1 47 i5 7)).toNat) (gD (wD S72 48 i74 (((gD S1 47 i5 7)).toNat) x2) 29 0 6)) 50 i76 (((gD S1 47 i5 7)).toNat) (gD (wD (wD S72 48 i74 (((gD S1 47 i5 7)).toNat) x2) 49 i75 (((gD S1 47 i5 7)).toNat) (gD (wD S72 48 i74 (((gD S1 47 i5 7)).toNat) x2) 29 0 6)) 29 0 7)) 29 0 8))) (fun x79 S78 =>
                      (if x79 = (-1) then
                       some (vi 0, S78)
                      else
                       (bI (K 79 [vr (some (29, 0))] S78) (fun x81 S80 =>
                        (if x81 = 0 then
                         some (vi 0, S80)
                        else
                         (rR (gR S80 29 0 3) 47
                          none
                          (fun i82 =>
                          (if 0 ≤ (gD S1 47 i5 7) ∧ (gD S1 47 i5 7) < 16 then
                           (rR (gR (wD S80 52 i82 (((gD S1 47 i5 7)).toNat) x79) 29 0 3) 47
                            none
                            (fun i83 =>
                            (if 0 ≤ (gD S1 47 i5 7) ∧ (gD S1 47 i5 7) < 16 then
                             (rR (gR (wD (wD S80 52 i82 (((gD S1 47 i5 7)).toNat) x79) 53 i83 (((gD S1 47 i5 7)).toNat) (gD (wD S80 52 i82 (((gD S1 47 i5 7)).toNat) x79) 29 0 8)) 29 0 3) 47
                              none
                              (fun i84 =>
                              (bV (K 70 [vr (some (29, 0)), vi (gD S1 47 i5 7)] (wD (wD (wD S80 52 i82 (((gD S1 47 i5 7)).toNat) x79) 53 i83 (((gD S1 47 i5 7)).toNat) (gD (wD S80 52 i82 (((gD S1 47 i5 7)).toNat) x79) 29 0 8)) 47 i84 7 (aw o ((gD S1 47 i5 7) + 1)))) (fun S85 =>
                               some (vi 1, S85)))))
                            else none)))
                          else none)))))))))
                    else none)))
                  else none)))
                else none)))
              else none))))))
          else
           (bI (K 77 [vr (some (29, 0))] S70) (fun x87 S86 =>
            (if x87 = 0 then
             some (vi 0, S86)
            else
             (bI (K 78 [vr (some (29, 0))] S86) (fun x89 S88 =>
              (if x89 = 0 then
               some (vi 0, S88)
              else
               (rR (gR S88 29 0 3) 47
                none
                (fun i90 =>
                (if 0 ≤ (gD S1 47 i5 7) ∧ (gD S1 47 i5 7) < 16 then
                 (rR (gR (wD S88 48 i90 (((gD S1 47 i5 7)).toNat) x2) 29 0 3) 47
                  none
                  (fun i91 =>
                  (if 0 ≤ (gD S1 47 i5 7) ∧ (gD S1 47 i5 7) < 16 then
                   (rR (gR (wD (wD S88 48 i90 (((gD S1 47 i5 7)).toNat) x2) 49 i91 (((gD S1 47 i5 7)).toNat) (gD (wD S88 48 i90 (((gD S1 47 i5 7)).toNat) x2) 29 0 6)) 29 0 3) 47
                    none
                    (fun i92 =>
                    (if 0 ≤ (gD S1 47 i5 7) ∧ (gD S1 47 i5 7) < 16 then
                     (rR (gR (wD (wD (wD S88 48 i90 (((gD S1 47 i5 7)).toNat) x2) 49 i91 (((gD S1 47 i5 7)).toNat) (gD (wD S88 48 i90 (((gD S1 47 i5 7)).toNat) x2) 29 0 6)) 50 i92 (((gD S1 47 i5 7)).toNat) (gD (wD (wD S88 48 i90 (((gD S1 47 i5 7)).toNat) x2) 49 i91 (((gD S1 47 i5 7)).toNat) (gD (wD S88 48 i90 (((gD S1 47 i5 7)).toNat) x2) 29 0 6)) 29 0 7)) 29 0 3) 47
                      none
                      (fun i93 =>
                      (if 0 ≤ (gD S1 47 i5 7) ∧ (gD S1 47 i5 7) < 16 then
                       (bI (K 75 [vr (some (29, 0))] (wD (wD (wD (wD S88 48 i90 (((gD S1 47 i5 7)).toNat) x2) 49 i91 (((gD S1 47 i5 7)).toNat) (gD (wD S88 48 i90 (((gD S1 47 i5 7)).toNat) x2) 29 0 6)) 50 i92 (((gD S1 47 i5 7)).toNat) (gD (wD (wD S88 48 i90 (((gD S1 47 i5 7)).toNat) x2) 49 i91 (((gD S1 47 i5 7)).toNat) (gD (wD S88 48 i90 (((gD S1 47 i5 7)).toNat) x2) 29 0 6)) 29 0 7)) 51 i93 (((gD S1 47 i5 7)).toNat) (gD (wD (wD (wD S88 48 i90 (((gD S1 47 i5 7)).toNat) x2) 49 i91 (((gD S1 47 i5 7)).toNat) (gD (wD S88 48 i90 (((gD S1 47 i5 7)).toNat) x2) 29 0 6)) 50 i92 (((gD S1 47 i5 7)).toNat) (gD (wD (wD S88 48 i90 (((gD S1 47 i5 7)).toNat) x2) 49 i91 (((gD S1 47 i5 7)).toNat) (gD (wD S88 48 i90 (((gD S1 47 i5 7)).toNat) x2) 29 0 6)) 29 0 7)) 29 0 8))) (fun x95 S94 =>
                        (if x95 = (-1) then
                         some (vi 0, S94)
                        else
                         (bI (K 79 [vr (some (29, 0))] S94) (fun x97 S96 =>
                          (if x97 = 0 then
                           some (vi 0, S96)
                          else
                           (rR (gR S96 29 0 3) 47
                            none
                            (fun i98 =>
                            (if 0 ≤ (gD S1 47 i5 7) ∧ (gD S1 47 i5 7) < 16 then
                             (rR (gR (wD S96 52 i98 (((gD S1 47 i5 7)).toNat) x95) 29 0 3) 47
                              none
                              (fun i99 =>
                              (if 0 ≤ (gD S1 47 i5 7) ∧ (gD S1 47 i5 7) < 16 then
                               (rR (gR (wD (wD S96 52 i98 (((gD S1 47 i5 7)).toNat) x95) 53 i99 (((gD S1 47 i5 7)).toNat) (gD (wD S96 52 i98 (((gD S1 47 i5 7)).toNat) x95) 29 0 8)) 29 0 3) 47
                                none
                                (fun i100 =>
                                (bV (K 70 [vr (some (29, 0)), vi (gD S1 47 i5 7)] (wD (wD (wD S96 52 i98 (((gD S1 47 i5 7)).toNat) x95) 53 i99 (((gD S1 47 i5 7)).toNat) (gD (wD S96 52 i98 (((gD S1 47 i5 7)).toNat) x95) 29 0 8)) 47 i100 7 (aw o ((gD S1 47 i5 7) + 1)))) (fun S101 =>
                                 some (vi 1, S101)))))
                              else none)))
                            else none)))))))))
                      else none)))
                    else none)))
                  else none)))
                else none)))))))))))))
       else
        (bI (K 76 [vr (some (29, 0))] (wD (wD S1 29 0 4 (aw o ((gD S1 29 0 4) + 3))) 29 0 7 (-1))) (fun x103 S102 =>
         (if x103 = 0 then
          some (vi 0, S102)
         else
          (if x2 = 3 then
           (bI (K 78 [vr (some (29, 0))] S102) (fun x105 S104 =>
            (if x105 = 0 then
             some (vi 0, S104)
            else
             (rR (gR S104 29 0 3) 47
              none
              (fun i106 =>
              (if 0 ≤ (gD S1 47 i5 7) ∧ (gD S1 47 i5 7) < 16 then
               (rR (gR (wD S104 48 i106 (((gD S1 47 i5 7)).toNat) x2) 29 0 3) 47
                none
                (fun i107 =>
                (if 0 ≤ (gD S1 47 i5 7) ∧ (gD S1 47 i5 7) < 16 then
                 (rR (gR (wD (wD S104 48 i106 (((gD S1 47 i5 7)).toNat) x2) 49 i107 (((gD S1 47 i5 7)).toNat) (gD (wD S104 48 i106 (((gD S1 47 i5 7)).toNat) x2) 29 0 6)) 29 0 3) 47
                  none
                  (fun i108 =>
                  (if 0 ≤ (gD S1 47 i5 7) ∧ (gD S1 47 i5 7) < 16 then
                   (rR (gR (wD (wD (wD S104 48 i106 (((gD S1 47 i5 7)).toNat) x2) 49 i107 (((gD S1 47 i5 7)).toNat) (gD (wD S104 48 i106 (((gD S1 47 i5 7)).toNat) x2) 29 0 6)) 50 i108 (((gD S1 47 i5 7)).toNat) (gD (wD (wD S104 48 i106 (((gD S1 47 i5 7)).toNat) x2) 49 i107 (((gD S1 47 i5 7)).toNat) (gD (wD S104 48 i106 (((gD S1 47 i5 7)).toNat) x2) 29 0 6)) 29 0 7)) 29 0 3) 47
                    none
                    (fun i109 =>
                    (if 0 ≤ (gD S1 47 i5 7) ∧ (gD S1 47 i5 7) < 16 then
                     (bI (K 75 [vr (some (29, 0))] (wD (wD (wD (wD S104 48 i106 (((gD S1 47 i5 7)).toNat) x2) 49 i107 (((gD S1 47 i5 7)).toNat) (gD (wD S104 48 i106 (((gD S1 47 i5 7)).toNat) x2) 29 0 6)) 50 i108 (((gD S1 47 i5 7)).toNat) (gD (wD (wD S104 48 i106 (((gD S1 47 i5 7)).toNat) x2) 49 i107 (((gD S1 47 i5 7)).toNat) (gD (wD S104 48 i106 (((gD S1 47 i5 7)).toNat) x2) 29 0 6)) 29 0 7)) 51 i109 (((gD S1 47 i5 7)).toNat) (gD (wD (wD (wD S104 48 i106 (((gD S1 47 i5 7)).toNat) x2) 49 i107 (((gD S1 47 i5 7)).toNat) (gD (wD S104 48 i106 (((gD S1 47 i5 7)).toNat) x2) 29 0 6)) 50 i108 (((gD S1 47 i5 7)).toNat) (gD (wD (wD S104 48 i106 (((gD S1 47 i5 7)).toNat) x2) 49 i107 (((gD S1 47 i5 7)).toNat) (gD (wD S104 48 i106 (((gD S1 47 i5 7)).toNat) x2) 29 0 6)) 29 0 7)) 29 0 8))) (fun x111 S110 =>
                      (if x111 = (-1) then
                       some (vi 0, S110)
                      else
                       (bI (K 79 [vr (some (29, 0))] S110) (fun x113 S112 =>
                        (if x113 = 0 then
                         some (vi 0, S112)
                        else
                         (rR (gR S112 29 0 3) 47
                          none
                          (fun i114 =>
                          (if 0 ≤ (gD S1 47 i5 7) ∧ (gD S1 47 i5 7) < 16 then
                           (rR (gR (wD S112 52 i114 (((gD S1 47 i5 7)).toNat) x111) 29 0 3) 47
                            none
                            (fun i115 =>
                            (if 0 ≤ (gD S1 47 i5 7) ∧ (gD S1 47 i5 7) < 16 then
                             (rR (gR (wD (wD S112 52 i114 (((gD S1 47 i5 7)).toNat) x111) 53 i115 (((gD S1 47 i5 7)).toNat) (gD (wD S112 52 i114 (((gD S1 47 i5 7)).toNat) x111) 29 0 8)) 29 0 3) 47
                              none
                              (fun i116 =>
                              (bV (K 70 [vr (some (29, 0)), vi (gD S1 47 i5 7)] (wD (wD (wD S112 52 i114 (((gD S1 47 i5 7)).toNat) x111) 53 i115 (((gD S1 47 i5 7)).toNat) (gD (wD S112 52 i114 (((gD S1 47 i5 7)).toNat) x111) 29 0 8)) 47 i116 7 (aw o ((gD S1 47 i5 7) + 1)))) (fun S117 =>
                               some (vi 1, S117)))))
                            else none)))
                          else none)))))))))
                    else none)))
                  else none)))
                else none)))
              else none))))))
          else
           (bI (K 77 [vr (some (29, 0))] S102) (fun x119 S118 =>
            (if x119 = 0 then
             some (vi 0, S118)
            else
             (bI (K 78 [vr (some (29, 0))] S118) (fun x121 S120 =>
              (if x121 = 0 then
               some (vi 0, S120)
              else
               (rR (gR S120 29 0 3) 47
                none
                (fun i122 =>
                (if 0 ≤ (gD S1 47 i5 7) ∧ (gD S1 47 i5 7) < 16 then
                 (rR (gR (wD S120 48 i122 (((gD S1 47 i5 7)).toNat) x2) 29 0 3) 47
                  none
                  (fun i123 =>
                  (if 0 ≤ (gD S1 47 i5 7) ∧ (gD S1 47 i5 7) < 16 then
                   (rR (gR (wD (wD S120 48 i122 (((gD S1 47 i5 7)).toNat) x2) 49 i123 (((gD S1 47 i5 7)).toNat) (gD (wD S120 48 i122 (((gD S1 47 i5 7)).toNat) x2) 29 0 6)) 29 0 3) 47
                    none
                    (fun i124 =>
                    (if 0 ≤ (gD S1 47 i5 7) ∧ (gD S1 47 i5 7) < 16 then
                     (rR (gR (wD (wD (wD S120 48 i122 (((gD S1 47 i5 7)).toNat) x2) 49 i123 (((gD S1 47 i5 7)).toNat) (gD (wD S120 48 i122 (((gD S1 47 i5 7)).toNat) x2) 29 0 6)) 50 i124 (((gD S1 47 i5 7)).toNat) (gD (wD (wD S120 48 i122 (((gD S1 47 i5 7)).toNat) x2) 49 i123 (((gD S1 47 i5 7)).toNat) (gD (wD S120 48 i122 (((gD S1 47 i5 7)).toNat) x2) 29 0 6)) 29 0 7)) 29 0 3) 47
                      none
                      (fun i125 =>
                      (if 0 ≤ (gD S1 47 i5 7) ∧ (gD S1 47 i5 7) < 16 then
                       (bI (K 75 [vr (some (29, 0))] (wD (wD (wD (wD S120 48 i122 (((gD S1 47 i5 7)).toNat) x2) 49 i123 (((gD S1 47 i5 7)).toNat) (gD (wD S120 48 i122 (((gD S1 47 i5 7)).toNat) x2) 29 0 6)) 50 i124 (((gD S1 47 i5 7)).toNat) (gD (wD (wD S120 48 i122 (((gD S1 47 i5 7)).toNat) x2) 49 i123 (((gD S1 47 i5 7)).toNat) (gD (wD S120 48 i122 (((gD S1 47 i5 7)).toNat) x2) 29 0 6)) 29 0 7)) 51 i125 (((gD S1 47 i5 7)).toNat) (gD (wD (wD (wD S120 48 i122 (((gD S1 47 i5 7)).toNat) x2) 49 i123 (((gD S1 47 i5 7)).toNat) (gD (wD S120 48 i122 (((gD S1 47 i5 7)).toNat) x2) 29 0 6)) 50 i124 (((gD S1 47 i5 7)).toNat) (gD (wD (wD S120 48 i122 (((gD S1 47 i5 7)).toNat) x2) 49 i123 (((gD S1 47 i5 7)).toNat) (gD (wD S120 48 i122 (((gD S1 47 i5 7)).toNat) x2) 29 0 6)) 29 0 7)) 29 0 8))) (fun x127 S126 =>
                        (if x127 = (-1) then
                         some (vi 0, S126)
                        else
                         (bI (K 79 [vr (some (29, 0))] S126) (fun x129 S128 =>
                          (if x129 = 0 then
                           some (vi 0, S128)
                          else
                           (rR (gR S128 29 0 3) 47
                            none
                            (fun i130 =>
                            (if 0 ≤ (gD S1 47 i5 7) ∧ (gD S1 47 i5 7) < 16 then
                             (rR (gR (wD S128 52 i130 (((gD S1 47 i5 7)).toNat) x127) 29 0 3) 47
                              none
                              (fun i131 =>
                              (if 0 ≤ (gD S1 47 i5 7) ∧ (gD S1 47 i5 7) < 16 then
                               (rR (gR (wD (wD S128 52 i130 (((gD S1 47 i5 7)).toNat) x127) 53 i131 (((gD S1 47 i5 7)).toNat) (gD (wD S128 52 i130 (((gD S1 47 i5 7)).toNat) x127) 29 0 8)) 29 0 3) 47
                                none
                                (fun i132 =>
                                (bV (K 70 [vr (some (29, 0)), vi (gD S1 47 i5 7)] (wD (wD (wD S128 52 i130 (((gD S1 47 i5 7)).toNat) x127) 53 i131 (((gD S1 47 i5 7)).toNat) (gD (wD S128 52 i130 (((gD S1 47 i5 7)).toNat) x127) 29 0 8)) 47 i132 7 (aw o ((gD S1 47 i5 7) + 1)))) (fun S133 =>
                                 some (vi 1, S133)))))
                              else none)))
                            else none)))))))))
                      else none)))
                    else none)))
                  else none)))
                else none))))))))))))))
      else
       (if x2 = 0 then
        (bI (K 76 [vr (some (29, 0))] (wD (wD S1 29 0 4 (aw o ((gD S1 29 0 4) + 0))) 29 0 7 (-1))) (fun x135 S134 =>
         (if x135 = 0 then
          some (vi 0, S134)
         else
          (if x2 = 3 then
           (rR (gR S134 29 0 3) 47
            none
            (fun i136 =>
            (if 0 ≤ (gD S1 47 i5 7) ∧ (gD S1 47 i5 7) < 16 then
             (rR (gR (wD S134 48 i136 (((gD S1 47 i5 7)).toNat) x2) 29 0 3) 47
              none
              (fun i137 =>
              (if 0 ≤ (gD S1 47 i5 7) ∧ (gD S1 47 i5 7) < 16 then
               (rR (gR (wD (wD S134 48 i136 (((gD S1 47 i5 7)).toNat) x2) 49 i137 (((gD S1 47 i5 7)).toNat) (gD (wD S134 48 i136 (((gD S1 47 i5 7)).toNat) x2) 29 0 6)) 29 0 3) 47
                none
                (fun i138 =>
                (if 0 ≤ (gD S1 47 i5 7) ∧ (gD S1 47 i5 7) < 16 then
                 (rR (gR (wD (wD (wD S134 48 i136 (((gD S1 47 i5 7)).toNat) x2) 49 i137 (((gD S1 47 i5 7)).toNat) (gD (wD S134 48 i136 (((gD S1 47 i5 7)).toNat) x2) 29 0 6)) 50 i138 (((gD S1 47 i5 7)).toNat) (gD (wD (wD S134 48 i136 (((gD S1 47 i5 7)).toNat) x2) 49 i137 (((gD S1 47 i5 7)).toNat) (gD (wD S134 48 i136 (((gD S1 47 i5 7)).toNat) x2) 29 0 6)) 29 0 7)) 29 0 3) 47
                  none
                  (fun i139 =>
                  (if 0 ≤ (gD S1 47 i5 7) ∧ (gD S1 47 i5 7) < 16 then
                   (bI (K 75 [vr (some (29, 0))] (wD (wD (wD (wD S134 48 i136 (((gD S1 47 i5 7)).toNat) x2) 49 i137 (((gD S1 47 i5 7)).toNat) (gD (wD S134 48 i136 (((gD S1 47 i5 7)).toNat) x2) 29 0 6)) 50 i138 (((gD S1 47 i5 7)).toNat) (gD (wD (wD S134 48 i136 (((gD S1 47 i5 7)).toNat) x2) 49 i137 (((gD S1 47 i5 7)).toNat) (gD (wD S134 48 i136 (((gD S1 47 i5 7)).toNat) x2) 29 0 6)) 29 0 7)) 51 i139 (((gD S1 47 i5 7)).toNat) 0)) (fun x141 S140 =>
                    (if x141 = (-1) then
                     some (vi 0, S140)
                    else
                     (bI (K 79 [vr (some (29, 0))] S140) (fun x143 S142 =>
                      (if x143 = 0 then
                       some (vi 0, S142)
                      else
                       (rR (gR S142 29 0 3) 47
                        none
                        (fun i144 =>
                        (if 0 ≤ (gD S1 47 i5 7) ∧ (gD S1 47 i5 7) < 16 then
                         (rR (gR (wD S142 52 i144 (((gD S1 47 i5 7)).toNat) x141) 29 0 3) 47
                          none
                          (fun i145 =>
                          (if 0 ≤ (gD S1 47 i5 7) ∧ (gD S1 47 i5 7) < 16 then
                           (rR (gR (wD (wD S142 52 i144 (((gD S1 47 i5 7)).toNat) x141) 53 i145 (((gD S1 47 i5 7)).toNat) (gD (wD S142 52 i144 (((gD S1 47 i5 7)).toNat) x141) 29 0 8)) 29 0 3) 47
                            none
                            (fun i146 =>
                            (bV (K 70 [vr (some (29, 0)), vi (gD S1 47 i5 7)] (wD (wD (wD S142 52 i144 (((gD S1 47 i5 7)).toNat) x141) 53 i145 (((gD S1 47 i5 7)).toNat) (gD (wD S142 52 i144 (((gD S1 47 i5 7)).toNat) x141) 29 0 8)) 47 i146 7 (aw o ((gD S1 47 i5 7) + 1)))) (fun S147 =>
                             some (vi 1, S147)))))
                          else none)))
                        else none)))))))))
                  else none)))
                else none)))
              else none)))
            else none)))
          else
           (bI (K 77 [vr (some (29, 0))] S134) (fun x149 S148 =>
            (if x149 = 0 then
             some (vi 0, S148)
            else
             (rR (gR S148 29 0 3) 47
              none
              (fun i150 =>
              (if 0 ≤ (gD S1 47 i5 7) ∧ (gD S1 47 i5 7) < 16 then
               (rR (gR (wD S148 48 i150 (((gD S1 47 i5 7)).toNat) x2) 29 0 3) 47
                none
                (fun i151 =>
                (if 0 ≤ (gD S1 47 i5 7) ∧ (gD S1 47 i5 7) < 16 then
                 (rR (gR (wD (wD S148 48 i150 (((gD S1 47 i5 7)).toNat) x2) 49 i151 (((gD S1 47 i5 7)).toNat) (gD (wD S148 48 i150 (((gD S1 47 i5 7)).toNat) x2) 29 0 6)) 29 0 3) 47
                  none
                  (fun i152 =>
                  (if 0 ≤ (gD S1 47 i5 7) ∧ (gD S1 47 i5 7) < 16 then
                   (rR (gR (wD (wD (wD S148 48 i150 (((gD S1 47 i5 7)).toNat) x2) 49 i151 (((gD S1 47 i5 7)).toNat) (gD (wD S148 48 i150 (((gD S1 47 i5 7)).toNat) x2) 29 0 6)) 50 i152 (((gD S1 47 i5 7)).toNat) (gD (wD (wD S148 48 i150 (((gD S1 47 i5 7)).toNat) x2) 49 i151 (((gD S1 47 i5 7)).toNat) (gD (wD S148 48 i150 (((gD S1 47 i5 7)).toNat) x2) 29 0 6)) 29 0 7)) 29 0 3) 47
                    none
                    (fun i153 =>
                    (if 0 ≤ (gD S1 47 i5 7) ∧ (gD S1 47 i5 7) < 16 then
                     (bI (K 75 [vr (some (29, 0))] (wD (wD (wD (wD S148 48 i150 (((gD S1 47 i5 7)).toNat) x2) 49 i151 (((gD S1 47 i5 7)).toNat) (gD (wD S148 48 i150 (((gD S1 47 i5 7)).toNat) x2) 29 0 6)) 50 i152 (((gD S1 47 i5 7)).toNat) (gD (wD (wD S148 48 i150 (((gD S1 47 i5 7)).toNat) x2) 49 i151 (((gD S1 47 i5 7)).toNat) (gD (wD S148 48 i150 (((gD S1 47 i5 7)).toNat) x2) 29 0 6)) 29 0 7)) 51 i153 (((gD S1 47 i5 7)).toNat) 0)) (fun x155 S154 =>
                      (if x155 = (-1) then
                       some (vi 0, S154)
                      else
                       (bI (K 79 [vr (some (29, 0))] S154) (fun x157 S156 =>
                        (if x157 = 0 then
                         some (vi 0, S156)
                        else
                         (rR (gR S156 29 0 3) 47
                          none
                          (fun i158 =>
                          (if 0 ≤ (gD S1 47 i5 7) ∧ (gD S1 47 i5 7) < 16 then
                           (rR (gR (wD S156 52 i158 (((gD S1 47 i5 7)).toNat) x155) 29 0 3) 47
                            none
                            (fun i159 =>
                            (if 0 ≤ (gD S1 47 i5 7) ∧ (gD S1 47 i5 7) < 16 then
                             (rR (gR (wD (wD S156 52 i158 (((gD S1 47 i5 7)).toNat) x155) 53 i159 (((gD S1 47 i5 7)).toNat) (gD (wD S156 52 i158 (((gD S1 47 i5 7)).toNat) x155) 29 0 8)) 29 0 3) 47
                              none
                              (fun i160 =>
                              (bV (K 70 [vr (some (29, 0)), vi (gD S1 47 i5 7)] (wD (wD (wD S156 52 i158 (((gD S1 47 i5 7)).toNat) x155) 53 i159 (((gD S1 47 i5 7)).toNat) (gD (wD S156 52 i158 (((gD S1 47 i5 7)).toNat) x155) 29 0 8)) 47 i160 7 (aw o ((gD S1 47 i5 7) + 1)))) (fun S161 =>
                               some (vi 1, S161)))))
                            else none)))
                          else none)))))))))
                    else none)))
                  else none)))
                else none)))
              else none))))))))))
       else
        (bI (K 76 [vr (some (29, 0))] (wD (wD S1 29 0 4 (aw o ((gD S1 29 0 4) + 3))) 29 0 7 (-1))) (fun x163 S162 =>
         (if x163 = 0 then
          some (vi 0, S162)
         else
          (if x2 = 3 then
           (rR (gR S162 29 0 3) 47
            none
            (fun i164 =>
            (if 0 ≤ (gD S1 47 i5 7) ∧ (gD S1 47 i5 7) < 16 then
             (rR (gR (wD S162 48 i164 (((gD S1 47 i5 7)).toNat) x2) 29 0 3) 47
              none
              (fun i165 =>
              (if 0 ≤ (gD S1 47 i5 7) ∧ (gD S1 47 i5 7) < 16 then
               (rR (gR (wD (wD S162 48 i164 (((gD S1 47 i5 7)).toNat) x2) 49 i165 (((gD S1 47 i5 7)).toNat) (gD (wD S162 48 i164 (((gD S1 47 i5 7)).toNat) x2) 29 0 6)) 29 0 3) 47
                none
                (fun i166 =>
                (if 0 ≤ (gD S1 47 i5 7) ∧ (gD S1 47 i5 7) < 16 then
                 (rR (gR (wD (wD (wD S162 48 i164 (((gD S1 47 i5 7)).toNat) x2) 49 i165 (((gD S1 47 i5 7)).toNat) (gD (wD S162 48 i164 (((gD S1 47 i5 7)).toNat) x2) 29 0 6)) 50 i166 (((gD S1 47 i5 7)).toNat) (gD (wD (wD S162 48 i164 (((gD S1 47 i5 7)).toNat) x2) 49 i165 (((gD S1 47 i5 7)).toNat) (gD (wD S162 48 i164 (((gD S1 47 i5 7)).toNat) x2) 29 0 6)) 29 0 7)) 29 0 3) 47
                  none
                  (fun i167 =>
                  (if 0 ≤ (gD S1 47 i5 7) ∧ (gD S1 47 i5 7) < 16 then
                   (bI (K 75 [vr (some (29, 0))] (wD (wD (wD (wD S162 48 i164 (((gD S1 47 i5 7)).toNat) x2) 49 i165 (((gD S1 47 i5 7)).toNat) (gD (wD S162 48 i164 (((gD S1 47 i5 7)).toNat) x2) 29 0 6)) 50 i166 (((gD S1 47 i5 7)).toNat) (gD (wD (wD S162 48 i164 (((gD S1 47 i5 7)).toNat) x2) 49 i165 (((gD S1 47 i5 7)).toNat) (gD (wD S162 48 i164 (((gD S1 47 i5 7)).toNat) x2) 29 0 6)) 29 0 7)) 51 i167 (((gD S1 47 i5 7)).toNat) 0)) (fun x169 S168 =>
                    (if x169 = (-1) then
                     some (vi 0, S168)
                    else
                     (bI (K 79 [vr (some (29, 0))] S168) (fun x171 S170 =>
                      (if x171 = 0 then
                       some (vi 0, S170)
                      else
                       (rR (gR S170 29 0 3) 47
                        none
                        (fun i172 =>
                        (if 0 ≤ (gD S1 47 i5 7) ∧ (gD S1 47 i5 7) < 16 then
                         (rR (gR (wD S170 52 i172 (((gD S1 47 i5 7)).toNat) x169) 29 0 3) 47
                          none
                          (fun i173 =>
                          (if 0 ≤ (gD S1 47 i5 7) ∧ (gD S1 47 i5 7) < 16 then
                           (rR (gR (wD (wD S170 52 i172 (((gD S1 47 i5 7)).toNat) x169) 53 i173 (((gD S1 47 i5 7)).toNat) (gD (wD S170 52 i172 (((gD S1 47 i5 7)).toNat) x169) 29 0 8)) 29 0 3) 47
                            none
                            (fun i174 =>
                            (bV (K 70 [vr (some (29, 0)), vi (gD S1 47 i5 7)] (wD (wD (wD S170 52 i172 (((gD S1 47 i5 7)).toNat) x169) 53 i173 (((gD S1 47 i5 7)).toNat) (gD (wD S170 52 i172 (((gD S1 47 i5 7)).toNat) x169) 29 0 8)) 47 i174 7 (aw o ((gD S1 47 i5 7) + 1)))) (fun S175 =>
                             some (vi 1, S175)))))
                          else none)))
                        else none)))))))))
                  else none)))
                else none)))
              else none)))
            else none)))
          else
           (bI (K 77 [vr (some (29, 0))] S162) (fun x177 S176 =>
            (if x177 = 0 then
             some (vi 0, S176)
            else
             (rR (gR S176 29 0 3) 47
              none
              (fun i178 =>
              (if 0 ≤ (gD S1 47 i5 7) ∧ (gD S1 47 i5 7) < 16 then
               (rR (gR (wD S176 48 i178 (((gD S1 47 i5 7)).toNat) x2) 29 0 3) 47
                none
                (fun i179 =>
                (if 0 ≤ (gD S1 47 i5 7) ∧ (gD S1 47 i5 7) < 16 then
                 (rR (gR (wD (wD S176 48 i178 (((gD S1 47 i5 7)).toNat) x2) 49 i179 (((gD S1 47 i5 7)).toNat) (gD (wD S176 48 i178 (((gD S1 47 i5 7)).toNat) x2) 29 0 6)) 29 0 3) 47
                  none
                  (fun i180 =>
                  (if 0 ≤ (gD S1 47 i5 7) ∧ (gD S1 47 i5 7) < 16 then
                   (rR (gR (wD (wD (wD S176 48 i178 (((gD S1 47 i5 7)).toNat) x2) 49 i179 (((gD S1 47 i5 7)).toNat) (gD (wD S176 48 i178 (((gD S1 47 i5 7)).toNat) x2) 29 0 6)) 50 i180 (((gD S1 47 i5 7)).toNat) (gD (wD (wD S176 48 i178 (((gD S1 47 i5 7)).toNat) x2) 49 i179 (((gD S1 47 i5 7)).toNat) (gD (wD S176 48 i178 (((gD S1 47 i5 7)).toNat) x2) 29 0 6)) 29 0 7)) 29 0 3) 47
                    none
                    (fun i181 =>
                    (if 0 ≤ (gD S1 47 i5 7) ∧ (gD S1 47 i5 7) < 16 then
                     (bI (K 75 [vr (some (29, 0))] (wD (wD (wD (wD S176 48 i178 (((gD S1 47 i5 7)).toNat) x2) 49 i179 (((gD S1 47 i5 7)).toNat) (gD (wD S176 48 i178 (((gD S1 47 i5 7)).toNat) x2) 29 0 6)) 50 i180 (((gD S1 47 i5 7)).toNat) (gD (wD (wD S176 48 i178 (((gD S1 47 i5 7)).toNat) x2) 49 i179 (((gD S1 47 i5 7)).toNat) (gD (wD S176 48 i178 (((gD S1 47 i5 7)).toNat) x2) 29 0 6)) 29 0 7)) 51 i181 (((gD S1 47 i5 7)).toNat) 0)) (fun x183 S182 =>
                      (if x183 = (-1) then
                       some (vi 0, S182)
                      else
                       (bI (K 79 [vr (some (29, 0))] S182) (fun x185 S184 =>
                        (if x185 = 0 then
                         some (vi 0, S184)
                        else
                         (rR (gR S184 29 0 3) 47
                          none
                          (fun i186 =>
                          (if 0 ≤ (gD S1 47 i5 7) ∧ (gD S1 47 i5 7) < 16 then
                           (rR (gR (wD S184 52 i186 (((gD S1 47 i5 7)).toNat) x183) 29 0 3) 47
                            none
                            (fun i187 =>
                            (if 0 ≤ (gD S1 47 i5 7) ∧ (gD S1 47 i5 7) < 16 then
                             (rR (gR (wD (wD S184 52 i186 (((gD S1 47 i5 7)).toNat) x183) 53 i187 (((gD S1 47 i5 7)).toNat) (gD (wD S184 52 i186 (((gD S1 47 i5 7)).toNat) x183) 29 0 8)) 29 0 3) 47
                              none
                              (fun i188 =>
                              (bV (K 70 [vr (some (29, 0)), vi (gD S1 47 i5 7)] (wD (wD (wD S184 52 i186 (((gD S1 47 i5 7)).toNat) x183) 53 i187 (((gD S1 47 i5 7)).toNat) (gD (wD S184 52 i186 (((gD S1 47 i5 7)).toNat) x183) 29 0 8)) 47 i188 7 (aw o ((gD S1 47 i5 7) + 1)))) (fun S189 =>
                               some (vi 1, S189)))))
                            else none)))
                          else none)))))))))
                    else none)))
                  else none)))
                else none)))
              else none)))))))))))))
    else
     (bI (K 61 [vr (some (29, 0)), vi (gD S1 29 0 4), vi 3] S1) (fun x191 S190 =>
      (if x191 = 0 ∨ x191 = 1 then some (vi x191, S190) else none))))))))) := rfl
set_option maxRecDepth 100000 in
theorem b75_0 (o : AR) (K : KT) (n : Nat) (S : SD) : run o K false mi_75 (n + 1) 0 [(0, vr (some (29, 0)))] [] S =
 (bI (K 67 [vr (some (29, 0)), vi 61] S) (fun x2 S1 =>
  (if x2 = 0 then
   (bI (K 67 [vr (some (29, 0)), vi 60] S1) (fun x4 S3 =>
    (if x4 = 0 then
     (bI (K 67 [vr (some (29, 0)), vi 62] S3) (fun x6 S5 =>
      (if x6 = 0 then
       (bI (K 61 [vr (some (29, 0)), vi (gD S5 29 0 4), vi 0] S5) (fun x8 S7 =>
        some (vi (-1), S7)))
      else
       (bI (K 62 [vr (some (29, 0)), vi (gD S5 29 0 4)] S5) (fun x10 S9 =>
        (if x10 = 61 then
         (if x4 = 0 then
          some (vi 3, wD S9 29 0 4 (aw o ((gD S9 29 0 4) + 1)))
         else
          some (vi 1, wD S9 29 0 4 (aw o ((gD S9 29 0 4) + 1))))
        else
         (if x4 = 0 then
          some (vi 4, S9)
         else
          some (vi 0, S9))))))))
    else
     (bI (K 62 [vr (some (29, 0)), vi (gD S3 29 0 4)] S3) (fun x12 S11 =>
      (if x12 = 61 then
       (if x4 = 0 then
        some (vi 3, wD S11 29 0 4 (aw o ((gD S11 29 0 4) + 1)))
       else
        some (vi 1, wD S11 29 0 4 (aw o ((gD S11 29 0 4) + 1))))
      else
       (if x4 = 0 then
        some (vi 4, S11)
       else
        some (vi 0, S11))))))))
  else
   some (vi 2, S1)))) := rfl
set_option maxRecDepth 100000 in
theorem b76_0 (o : AR) (K : KT) (n : Nat) (S : SD) : run o K false mi_76 (n + 1) 0 [(0, vr (some (29, 0)))] [] S =
 (bI (K 64 [vr (some (29, 0)), vr (some (1, 2))] S) (fun x2 S1 =>
  (if x2 = 0 then
   (bI (K 61 [vr (some (29, 0)), vi (gD S1 29 0 4), vi 0] S1) (fun x4 S3 =>
    (if x4 = 0 ∨ x4 = 1 then some (vi x4, S3) else none)))
  else
   (bI (K 80 [vr (some (29, 0)), vi 0, vi 39] (wD S1 29 0 4 (aw o ((gD S1 29 0 4) + 1)))) (fun x6 S5 =>
    (if x6 = 0 then
     some (vi 0, S5)
    else
     (bI (K 96 [vr (some (3, 0)), vi (gD (wD S5 29 0 6 (gD S5 29 0 8)) 29 0 6)] (wD S5 29 0 6 (gD S5 29 0 8))) (fun x8 S7 =>
      (if x8 = 0 then
       (bI (K 61 [vr (some (29, 0)), vi (gD S1 29 0 4), vi 4] S7) (fun x10 S9 =>
        (if x10 = 0 then
         some (vi 0, S9)
        else
         some (vi 1, S9))))
      else
       some (vi 1, S7)))))))))) := rfl
set_option maxRecDepth 100000 in
theorem b77_0 (o : AR) (K : KT) (n : Nat) (S : SD) : run o K false mi_77 (n + 1) 0 [(0, vr (some (29, 0)))] [] S =
 (bI (K 62 [vr (some (29, 0)), vi (gD S 29 0 4)] S) (fun x2 S1 =>
  (if x2 = 46 then
   (bI (K 62 [vr (some (29, 0)), vi (gD (wD S1 29 0 4 (aw o ((gD S1 29 0 4) + 1))) 29 0 4)] (wD S1 29 0 4 (aw o ((gD S1 29 0 4) + 1)))) (fun x4 S3 =>
    (if x4 = 102 then
     (bI (K 80 [vr (some (29, 0)), vi 0, vi 2] (wD S3 29 0 4 (aw o ((gD S3 29 0 4) + 1)))) (fun x6 S5 =>
      (if x6 = 0 then
       some (vi 0, S5)
      else
       some (vi 1, wD S5 29 0 7 (gD S5 29 0 8)))))
    else
     (bI (K 61 [vr (some (29, 0)), vi (gD S3 29 0 4), vi 0] S3) (fun x8 S7 =>
      (if x8 = 0 ∨ x8 = 1 then some (vi x8, S7) else none))))))
  else
   (bI (K 61 [vr (some (29, 0)), vi (gD S1 29 0 4), vi 0] S1) (fun x10 S9 =>
    (if x10 = 0 ∨ x10 = 1 then some (vi x10, S9) else none)))))) := rfl
set_option maxRecDepth 100000 in
theorem b78_0 (o : AR) (K : KT) (n : Nat) (S : SD) : run o K false mi_78 (n + 1) 0 [(0, vr (some (29, 0)))] [] S =
 (bV (K 63 [vr (some (29, 0))] S) (fun S1 =>
  (bI (K 80 [vr (some (29, 0)), vi 1, vi 60] S1) (fun x3 S2 =>
   (if x3 = 0 ∨ x3 = 1 then some (vi x3, S2) else none))))) := rfl
set_option maxRecDepth 100000 in
theorem b79_0 (o : AR) (K : KT) (n : Nat) (S : SD) : run o K false mi_79 (n + 1) 0 [(0, vr (some (29, 0)))] [] S =
 (bI (K 67 [vr (some (29, 0)), vi 45] S) (fun x2 S1 =>
  (bI (K 80 [vr (some (29, 0)), vi 0, vi 999999] S1) (fun x4 S3 =>
   (if x4 = 0 then
    some (vi 0, S3)
   else
    (if x2 = 0 then
     some (vi 1, wD S3 29 0 8 (gD S3 29 0 8))
    else
     some (vi 1, wD S3 29 0 8 (aw o (-(gD S3 29 0 8)))))))))) := rfl
set_option maxRecDepth 100000 in
theorem b80_0 (o : AR) (K : KT) (n : Nat) (S : SD) (a1 : Int) (a2 : Int) : run o K false mi_80 (n + 1) 0 [(0, vr (some (29, 0))), (1, vi a1), (2, vi a2)] [] S =
 run o K false mi_80 n 13 [(0, vr (some (29, 0))), (1, vi a1), (2, vi a2), (3, vi (gD S 29 0 4)), (4, vi 0)] [] (wD S 29 0 8 0) := rfl
set_option maxRecDepth 100000 in
theorem b80_13 (o : AR) (K : KT) (n : Nat) (S : SD) (l1 : Int) (l2 : Int) (l3 : Int) (l4 : Int) : run o K false mi_80 (n + 1) 13 [(0, vr (some (29, 0))), (1, vi l1), (2, vi l2), (3, vi l3), (4, vi l4)] [] S =
 (if l4 < 200 then
  (bI (K 62 [vr (some (29, 0)), vi (gD S 29 0 4)] S) (fun x2 S1 =>
   (bI (K 189 [vi x2, vi 48, vi 57] S1) (fun x4 S3 =>
    (if x4 = 0 then
     (if (gD S3 29 0 4) = l3 then
      (bI (K 61 [vr (some (29, 0)), vi (gD S3 29 0 4), vi 0] S3) (fun x6 S5 =>
       (if x6 = 0 ∨ x6 = 1 then some (vi x6, S5) else none)))
     else
      (if 6 < (aw o ((gD S3 29 0 4) - l3)) then
       (bI (K 61 [vr (some (29, 0)), vi l3, vi 1] S3) (fun x8 S7 =>
        (if x8 = 0 then
         some (vi 0, S7)
        else
         some (vi 1, S7))))
      else
       (bI (K 189 [vi (gD S3 29 0 8), vi l1, vi l2] S3) (fun x10 S9 =>
        (if x10 = 0 then
         (bI (K 61 [vr (some (29, 0)), vi l3, vi 1] S9) (fun x12 S11 =>
          (if x12 = 0 then
           some (vi 0, S11)
          else
           some (vi 1, S11))))
        else
         some (vi 1, S9))))))
    else
     (if l4 < 6 then
      (bI (K 62 [vr (some (29, 0)), vi (gD S3 29 0 4)] S3) (fun x14 S13 =>
       run o K false mi_80 n 13 [(0, vr (some (29, 0))), (1, vi l1), (2, vi l2), (3, vi l3), (4, vi (aw o (l4 + 1)))] [] (wD (wD S13 29 0 8 (aw o ((aw o ((aw o ((gD S3 29 0 8) * 10)) + x14)) - 48))) 29 0 4 (aw o ((gD (wD S13 29 0 8 (aw o ((aw o ((aw o ((gD S3 29 0 8) * 10)) + x14)) - 48))) 29 0 4) + 1)))))
     else
      run o K false mi_80 n 13 [(0, vr (some (29, 0))), (1, vi l1), (2, vi l2), (3, vi l3), (4, vi (aw o (l4 + 1)))] [] (wD S3 29 0 4 (aw o ((gD S3 29 0 4) + 1)))))))))
 else
  (if (gD S 29 0 4) = l3 then
   (bI (K 61 [vr (some (29, 0)), vi (gD S 29 0 4), vi 0] S) (fun x16 S15 =>
    (if x16 = 0 ∨ x16 = 1 then some (vi x16, S15) else none)))
  else
   (if 6 < (aw o ((gD S 29 0 4) - l3)) then
    (bI (K 61 [vr (some (29, 0)), vi l3, vi 1] S) (fun x18 S17 =>
     (if x18 = 0 then
      some (vi 0, S17)
     else
      some (vi 1, S17))))
   else
    (bI (K 189 [vi (gD S 29 0 8), vi l1, vi l2] S) (fun x20 S19 =>
     (if x20 = 0 then
      (bI (K 61 [vr (some (29, 0)), vi l3, vi 1] S19) (fun x22 S21 =>
       (if x22 = 0 then
        some (vi 0, S21)
       else
        some (vi 1, S21))))
     else
      some (vi 1, S19))))))) := rfl
set_option maxRecDepth 100000 in
theorem b81_0 (o : AR) (K : KT) (n : Nat) (S : SD) : run o K false mi_81 (n + 1) 0 [(0, vr (some (29, 0)))] [] S =
 (bI (K 65 [vr (some (29, 0)), vr (some (1, 8))] S) (fun x2 S1 =>
  (if x2 = 0 then
   some (vi 1, S1)
  else
   (bI (K 78 [vr (some (29, 0))] S1) (fun x4 S3 =>
    (if x4 = 0 then
     some (vi 0, S3)
    else
     (rR (gR S3 29 0 3) 47
      none
      (fun i5 =>
      some (vi 1, wD S3 47 i5 11 (gD S3 29 0 8)))))))))) := rfl
set_option maxRecDepth 100000 in
theorem b82_0 (o : AR) (K : KT) (n : Nat) (S : SD) : run o K false mi_82 (n + 1) 0 [(0, vr (some (29, 0)))] [] S =
 (rR (gR S 29 0 3) 47
  (rR (gR S 29 0 3) 47
   none
   (fun i2 =>
   none))
  (fun i1 =>
  (rR (gR S 29 0 3) 47
   none
   (fun i3 =>
   (rR (gR (wD S 47 i1 8 (gD S 47 i3 7)) 29 0 3) 47
    (rR (gR (wD S 47 i1 8 (gD S 47 i3 7)) 29 0 3) 47
     none
     (fun i5 =>
     none))
    (fun i4 =>
    (rR (gR (wD S 47 i1 8 (gD S 47 i3 7)) 29 0 3) 47
     none
     (fun i6 =>
     (bI (K 65 [vr (some (29, 0)), vr (some (1, 9))] (wD (wD S 47 i1 8 (gD S 47 i3 7)) 47 i4 10 (gD (wD S 47 i1 8 (gD S 47 i3 7)) 47 i6 9))) (fun x8 S7 =>
      (if x8 = 0 ∨ x8 = 1 then some (vi x8, S7) else none))))))))))) := rfl
set_option maxRecDepth 100000 in
theorem b83_0 (o : AR) (K : KT) (n : Nat) (S : SD) : run o K false mi_83 (n + 1) 0 [(0, vr (some (29, 0)))] [] S =
 (bI (K 65 [vr (some (29, 0)), vr (some (1, 10))] S) (fun x2 S1 =>
  (if x2 = 0 then
   (bI (K 66 [vr (some (29, 0)), vr (some (1, 11))] S1) (fun x4 S3 =>
    (if x4 = 0 then
     some (vi 0, S3)
    else
     (bI (K 76 [vr (some (29, 0))] S3) (fun x6 S5 =>
      (if x6 = 0 then
       some (vi 0, S5)
      else
       (rR (gR S5 29 0 3) 47
        none
        (fun i7 =>
        (if x2 = 0 then
         (bI (K 78 [vr (some (29, 0))] (wD S5 47 i7 12 (gD S5 29 0 6))) (fun x9 S8 =>
          (if x9 = 0 then
           some (vi 0, S8)
          else
           (rR (gR S8 29 0 3) 47
            none
            (fun i10 =>
            some (vi 1, wD S8 47 i10 14 (gD S8 29 0 8)))))))
        else
         (bI (K 77 [vr (some (29, 0))] (wD S5 47 i7 12 (gD S5 29 0 6))) (fun x12 S11 =>
          (if x12 = 0 then
           some (vi 0, S11)
          else
           (bI (K 68 [vr (some (29, 0)), vi 61] S11) (fun x14 S13 =>
            (if x14 = 0 then
             some (vi 0, S13)
            else
             (bI (K 79 [vr (some (29, 0))] S13) (fun x16 S15 =>
              (if x16 = 0 then
               some (vi 0, S15)
              else
               (rR (gR S15 29 0 3) 47
                none
                (fun i17 =>
                (rR (gR (wD S15 47 i17 13 (gD S15 29 0 7)) 29 0 3) 47
                 none
                 (fun i18 =>
                 some (vi 1, wD (wD S15 47 i17 13 (gD S15 29 0 7)) 47 i18 14 (gD (wD S15 47 i17 13 (gD S15 29 0 7)) 29 0 8))))))))))))))))))))))))
  else
   (bI (K 76 [vr (some (29, 0))] S1) (fun x20 S19 =>
    (if x20 = 0 then
     some (vi 0, S19)
    else
     (rR (gR S19 29 0 3) 47
      none
      (fun i21 =>
      (if x2 = 0 then
       (bI (K 78 [vr (some (29, 0))] (wD S19 47 i21 12 (gD S19 29 0 6))) (fun x23 S22 =>
        (if x23 = 0 then
         some (vi 0, S22)
        else
         (rR (gR S22 29 0 3) 47
          none
          (fun i24 =>
          some (vi 1, wD S22 47 i24 14 (gD S22 29 0 8)))))))
      else
       (bI (K 77 [vr (some (29, 0))] (wD S19 47 i21 12 (gD S19 29 0 6))) (fun x26 S25 =>
        (if x26 = 0 then
         some (vi 0, S25)
        else
         (bI (K 68 [vr (some (29, 0)), vi 61] S25) (fun x28 S27 =>
          (if x28 = 0 then
           some (vi 0, S27)
          else
           (bI (K 79 [vr (some (29, 0))] S27) (fun x30 S29 =>
            (if x30 = 0 then
             some (vi 0, S29)
            else
             (rR (gR S29 29 0 3) 47
              none
              (fun i31 =>
              (rR (gR (wD S29 47 i31 13 (gD S29 29 0 7)) 29 0 3) 47
               none
               (fun i32 =>
               some (vi 1, wD (wD S29 47 i31 13 (gD S29 29 0 7)) 47 i32 14 (gD (wD S29 47 i31 13 (gD S29 29 0 7)) 29 0 8)))))))))))))))))))))))) := rfl
