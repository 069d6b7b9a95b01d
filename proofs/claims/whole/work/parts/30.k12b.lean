set_option maxRecDepth 100000 in
theorem b249_0 (o : AR) (K : KT) (n : Nat) (S : SD) (a1 : Int) (a2 : Int) (a3 : Int) : run o K false mi_249 (n + 1) 0 [(0, vr (some (85, 0))), (1, vi a1), (2, vi a2), (3, vi a3)] [] S =
 (if a2 = 0 then
  (if a1 < a3 then
   some (vi 1, S)
  else
   some (vi 0, S))
 else (if a2 = 1 then
  (if a3 < a1 then
   some (vi 0, S)
  else
   some (vi 1, S))
 else (if a2 = 2 then
  (if a1 = a3 then
   some (vi 1, S)
  else
   some (vi 0, S))
 else (if a2 = 3 then
  (if a1 < a3 then
   some (vi 0, S)
  else
   some (vi 1, S))
 else 
  (if a3 < a1 then
   some (vi 1, S)
  else
   some (vi 0, S)))))) := rfl
set_option maxRecDepth 100000 in
theorem b250_0 (o : AR) (K : KT) (n : Nat) (S : SD) (a1 : Int) (a2 : Int) : run o K false mi_250 (n + 1) 0 [(0, vr (some (85, 0))), (1, vi a1), (2, vi a2)] [] S =
 run o K false mi_250 n 7 [(0, vr (some (85, 0))), (1, vi a1), (2, vi a2), (3, vi (-1000000)), (4, vi 0)] [] S := rfl
set_option maxRecDepth 100000 in
theorem b250_7 (o : AR) (K : KT) (n : Nat) (S : SD) (l1 : Int) (l2 : Int) (l3 : Int) (l4 : Int) : run o K false mi_250 (n + 1) 7 [(0, vr (some (85, 0))), (1, vi l1), (2, vi l2), (3, vi l3), (4, vi l4)] [] S =
 (if l4 < (gD S 85 0 13) then
  (if 0 ≤ l1 ∧ l1 < 320 then
   (if 0 ≤ (aw o ((aw o (3 * l4)) + (gD S 129 0 (l1.toNat)))) ∧ (aw o ((aw o (3 * l4)) + (gD S 129 0 (l1.toNat)))) < 1200 then
    (if 0 ≤ l4 ∧ l4 < 400 then
     (if 0 ≤ l1 ∧ l1 < 320 then
      (if (gD S 97 0 (l4.toNat)) = (gD S 128 0 (l1.toNat)) then
       (if 0 ≤ l4 ∧ l4 < 400 then
        (if (gD S 85 0 61) < (gD S 100 0 (l4.toNat)) then
         run o K false mi_250 n 7 [(0, vr (some (85, 0))), (1, vi l1), (2, vi l2), (3, vi l3), (4, vi (aw o (l4 + 1)))] [] S
        else
         (if 0 ≤ l4 ∧ l4 < 400 then
          (if (gD S 105 0 (l4.toNat)) = 0 then
           (if (gD S 106 0 ((aw o ((aw o (3 * l4)) + (gD S 129 0 (l1.toNat)))).toNat)) = (-1000000) then
            run o K false mi_250 n 7 [(0, vr (some (85, 0))), (1, vi l1), (2, vi l2), (3, vi l3), (4, vi (aw o (l4 + 1)))] [] S
           else
            (if 0 ≤ l4 ∧ l4 < 400 then
             (if l2 < (gD S 101 0 (l4.toNat)) then
              run o K false mi_250 n 7 [(0, vr (some (85, 0))), (1, vi l1), (2, vi l2), (3, vi l3), (4, vi (aw o (l4 + 1)))] [] S
             else
              (if 0 ≤ l4 ∧ l4 < 400 then
               (if 0 ≤ l1 ∧ l1 < 320 then
                (if (aw o (l2 - (gD S 130 0 (l1.toNat)))) < (gD S 102 0 (l4.toNat)) then
                 (if l3 = (-1000000) then
                  run o K false mi_250 n 7 [(0, vr (some (85, 0))), (1, vi l1), (2, vi l2), (3, vi (gD S 106 0 ((aw o ((aw o (3 * l4)) + (gD S 129 0 (l1.toNat)))).toNat))), (4, vi (aw o (l4 + 1)))] [] S
                 else
                  (if 0 ≤ l1 ∧ l1 < 320 then
                   (if (gD S 127 0 (l1.toNat)) = 1 then
                    (if l3 < (gD S 106 0 ((aw o ((aw o (3 * l4)) + (gD S 129 0 (l1.toNat)))).toNat)) then
                     run o K false mi_250 n 7 [(0, vr (some (85, 0))), (1, vi l1), (2, vi l2), (3, vi (gD S 106 0 ((aw o ((aw o (3 * l4)) + (gD S 129 0 (l1.toNat)))).toNat))), (4, vi (aw o (l4 + 1)))] [] S
                    else
                     run o K false mi_250 n 7 [(0, vr (some (85, 0))), (1, vi l1), (2, vi l2), (3, vi l3), (4, vi (aw o (l4 + 1)))] [] S)
                   else
                    (if (gD S 106 0 ((aw o ((aw o (3 * l4)) + (gD S 129 0 (l1.toNat)))).toNat)) < l3 then
                     run o K false mi_250 n 7 [(0, vr (some (85, 0))), (1, vi l1), (2, vi l2), (3, vi (gD S 106 0 ((aw o ((aw o (3 * l4)) + (gD S 129 0 (l1.toNat)))).toNat))), (4, vi (aw o (l4 + 1)))] [] S
                    else
                     run o K false mi_250 n 7 [(0, vr (some (85, 0))), (1, vi l1), (2, vi l2), (3, vi l3), (4, vi (aw o (l4 + 1)))] [] S))
                  else none))
                else
                 run o K false mi_250 n 7 [(0, vr (some (85, 0))), (1, vi l1), (2, vi l2), (3, vi l3), (4, vi (aw o (l4 + 1)))] [] S)
               else none)
              else none))
            else none))
          else
           run o K false mi_250 n 7 [(0, vr (some (85, 0))), (1, vi l1), (2, vi l2), (3, vi l3), (4, vi (aw o (l4 + 1)))] [] S)
         else none))
       else none)
      else
       run o K false mi_250 n 7 [(0, vr (some (85, 0))), (1, vi l1), (2, vi l2), (3, vi l3), (4, vi (aw o (l4 + 1)))] [] S)
     else none)
    else none)
   else none)
  else none)
 else
  some (vi l3, S)) := rfl
set_option maxRecDepth 100000 in
theorem b251_0 (o : AR) (K : KT) (n : Nat) (S : SD) (a1 : Int) (a2 : Int) : run o K false mi_251 (n + 1) 0 [(0, vr (some (85, 0))), (1, vi a1), (2, vi a2)] [] S =
 run o K false mi_251 n 5 [(0, vr (some (85, 0))), (1, vi a1), (2, vi a2), (3, vi (-1)), (4, vi 0)] [] S := rfl
set_option maxRecDepth 100000 in
theorem b251_5 (o : AR) (K : KT) (n : Nat) (S : SD) (l1 : Int) (l2 : Int) (l3 : Int) (l4 : Int) : run o K false mi_251 (n + 1) 5 [(0, vr (some (85, 0))), (1, vi l1), (2, vi l2), (3, vi l3), (4, vi l4)] [] S =
 (if l4 < (gD S 85 0 13) then
  (if 0 ≤ l4 ∧ l4 < 400 then
   (if (gD S 97 0 (l4.toNat)) = l1 then
    (if 0 ≤ l4 ∧ l4 < 400 then
     (if l2 < (gD S 100 0 (l4.toNat)) then
      run o K false mi_251 n 5 [(0, vr (some (85, 0))), (1, vi l1), (2, vi l2), (3, vi l3), (4, vi (aw o (l4 + 1)))] [] S
     else
      (if 0 ≤ l4 ∧ l4 < 400 then
       (if (gD S 85 0 61) < (gD S 100 0 (l4.toNat)) then
        run o K false mi_251 n 5 [(0, vr (some (85, 0))), (1, vi l1), (2, vi l2), (3, vi l3), (4, vi (aw o (l4 + 1)))] [] S
       else
        (if 0 ≤ l4 ∧ l4 < 400 then
         (bI (K 195 [vi l3, vi (gD S 100 0 (l4.toNat))] S) (fun x2 S1 =>
          run o K false mi_251 n 5 [(0, vr (some (85, 0))), (1, vi l1), (2, vi l2), (3, vi x2), (4, vi (aw o (l4 + 1)))] [] S1))
        else none))
      else none))
    else none)
   else
    run o K false mi_251 n 5 [(0, vr (some (85, 0))), (1, vi l1), (2, vi l2), (3, vi l3), (4, vi (aw o (l4 + 1)))] [] S)
  else none)
 else
  (if l3 < 0 then
   some (vi (-1000000), S)
  else
   some (vi (aw o (l2 - l3)), S))) := rfl
set_option maxRecDepth 100000 in
theorem b252_0 (o : AR) (K : KT) (n : Nat) (S : SD) (a1 : Int) (a2 : Int) : run o K false mi_252 (n + 1) 0 [(0, vr (some (85, 0))), (1, vi a1), (2, vi a2)] [] S =
 (if 0 ≤ a1 ∧ a1 < 320 then
  (if (gD S 127 0 (a1.toNat)) = 0 then
   (if 0 ≤ a1 ∧ a1 < 320 then
    (if 0 ≤ a1 ∧ a1 < 320 then
     (bI (K 218 [vr (some (85, 0)), vi (gD S 128 0 (a1.toNat)), vi (gD S 129 0 (a1.toNat)), vi a2, vi (gD S 85 0 61)] S) (fun x2 S1 =>
      (if x2 = (-1000000) then
       some (vi 0, S1)
      else
       (if 0 ≤ a1 ∧ a1 < 320 then
        (if 0 ≤ a1 ∧ a1 < 320 then
         (bI (K 249 [vr (some (85, 0)), vi x2, vi (gD S1 131 0 (a1.toNat)), vi (gD S1 132 0 (a1.toNat))] S1) (fun x4 S3 =>
          (if x4 = 0 then
           some (vi 0, S3)
          else
           some (vi 1, S3))))
        else none)
       else none))))
    else none)
   else none)
  else
   (if 0 ≤ a1 ∧ a1 < 320 then
    (if (gD S 127 0 (a1.toNat)) = 3 then
     (if 0 ≤ a1 ∧ a1 < 320 then
      (bI (K 251 [vr (some (85, 0)), vi (gD S 128 0 (a1.toNat)), vi a2] S) (fun x6 S5 =>
       (if x6 = (-1000000) then
        some (vi 0, S5)
       else
        (if 0 ≤ a1 ∧ a1 < 320 then
         (if 0 ≤ a1 ∧ a1 < 320 then
          (bI (K 249 [vr (some (85, 0)), vi x6, vi (gD S5 131 0 (a1.toNat)), vi (gD S5 132 0 (a1.toNat))] S5) (fun x8 S7 =>
           (if x8 = 0 then
            some (vi 0, S7)
           else
            some (vi 1, S7))))
         else none)
        else none))))
     else none)
    else
     (bI (K 250 [vr (some (85, 0)), vi a1, vi a2] S) (fun x10 S9 =>
      (if x10 = (-1000000) then
       some (vi 0, S9)
      else
       (if 0 ≤ a1 ∧ a1 < 320 then
        (if 0 ≤ a1 ∧ a1 < 320 then
         (bI (K 249 [vr (some (85, 0)), vi x10, vi (gD S9 131 0 (a1.toNat)), vi (gD S9 132 0 (a1.toNat))] S9) (fun x12 S11 =>
          (if x12 = 0 then
           some (vi 0, S11)
          else
           some (vi 1, S11))))
        else none)
       else none)))))
   else none))
 else none) := rfl
set_option maxRecDepth 100000 in
theorem b253_0 (o : AR) (K : KT) (n : Nat) (S : SD) (a1 : Int) (a2 : Int) (a3 : Int) : run o K false mi_253 (n + 1) 0 [(0, vr (some (85, 0))), (1, vi a1), (2, vi a2), (3, vi a3)] [] S =
 run o K false mi_253 n 17 [(0, vr (some (85, 0))), (1, vi a1), (2, vi a2), (3, vi a3), (4, vi (aw o (100 * (aw o ((aw o (2 * a1)) + a2))))), (5, vi 0), (6, vi (aw o (100 * (aw o ((aw o (2 * a1)) + a2)))))] [] S := rfl
set_option maxRecDepth 100000 in
theorem b253_17 (o : AR) (K : KT) (n : Nat) (S : SD) (l1 : Int) (l2 : Int) (l3 : Int) (l4 : Int) (l5 : Int) (l6 : Int) : run o K false mi_253 (n + 1) 17 [(0, vr (some (85, 0))), (1, vi l1), (2, vi l2), (3, vi l3), (4, vi l4), (5, vi l5), (6, vi l6)] [] S =
 (if 0 ≤ (aw o ((aw o (2 * l1)) + l2)) ∧ (aw o ((aw o (2 * l1)) + l2)) < 40 then
  (if l6 < (aw o (l4 + (gD S 125 0 ((aw o ((aw o (2 * l1)) + l2)).toNat)))) then
   (if 0 ≤ l6 ∧ l6 < 4000 then
    (if (gD S 126 0 (l6.toNat)) < 0 then
     (if 0 ≤ l6 ∧ l6 < 4000 then
      (if (gD S 126 0 (l6.toNat)) = (-1) then
       (if 0 ≤ (aw o (l5 - 1)) ∧ (aw o (l5 - 1)) < 100 then
        (if (gD S 134 0 ((aw o (l5 - 1)).toNat)) = 0 then
         (if 0 ≤ (aw o (l5 - 1)) ∧ (aw o (l5 - 1)) < 100 then
          run o K false mi_253 n 17 [(0, vr (some (85, 0))), (1, vi l1), (2, vi l2), (3, vi l3), (4, vi l4), (5, vi l5), (6, vi (aw o (l6 + 1)))] [] (wD S 134 0 (((aw o (l5 - 1))).toNat) 1)
         else none)
        else
         (if 0 ≤ (aw o (l5 - 1)) ∧ (aw o (l5 - 1)) < 100 then
          run o K false mi_253 n 17 [(0, vr (some (85, 0))), (1, vi l1), (2, vi l2), (3, vi l3), (4, vi l4), (5, vi l5), (6, vi (aw o (l6 + 1)))] [] (wD S 134 0 (((aw o (l5 - 1))).toNat) 0)
         else none))
       else none)
      else
       (if 0 ≤ l6 ∧ l6 < 4000 then
        (if (gD S 126 0 (l6.toNat)) = (-2) then
         (if 0 ≤ (aw o ((aw o (l5 + (-1))) - 1)) ∧ (aw o ((aw o (l5 + (-1))) - 1)) < 100 then
          (if (gD S 134 0 ((aw o ((aw o (l5 + (-1))) - 1)).toNat)) = 0 then
           (if 0 ≤ (aw o ((aw o (l5 + (-1))) - 1)) ∧ (aw o ((aw o (l5 + (-1))) - 1)) < 100 then
            run o K false mi_253 n 17 [(0, vr (some (85, 0))), (1, vi l1), (2, vi l2), (3, vi l3), (4, vi l4), (5, vi (aw o (l5 + (-1)))), (6, vi (aw o (l6 + 1)))] [] (wD S 134 0 (((aw o ((aw o (l5 + (-1))) - 1))).toNat) 0)
           else none)
          else
           (if 0 ≤ (aw o (l5 + (-1))) ∧ (aw o (l5 + (-1))) < 100 then
            (if (gD S 134 0 ((aw o (l5 + (-1))).toNat)) = 0 then
             (if 0 ≤ (aw o ((aw o (l5 + (-1))) - 1)) ∧ (aw o ((aw o (l5 + (-1))) - 1)) < 100 then
              run o K false mi_253 n 17 [(0, vr (some (85, 0))), (1, vi l1), (2, vi l2), (3, vi l3), (4, vi l4), (5, vi (aw o (l5 + (-1)))), (6, vi (aw o (l6 + 1)))] [] (wD S 134 0 (((aw o ((aw o (l5 + (-1))) - 1))).toNat) 0)
             else none)
            else
             (if 0 ≤ (aw o ((aw o (l5 + (-1))) - 1)) ∧ (aw o ((aw o (l5 + (-1))) - 1)) < 100 then
              run o K false mi_253 n 17 [(0, vr (some (85, 0))), (1, vi l1), (2, vi l2), (3, vi l3), (4, vi l4), (5, vi (aw o (l5 + (-1)))), (6, vi (aw o (l6 + 1)))] [] (wD S 134 0 (((aw o ((aw o (l5 + (-1))) - 1))).toNat) 1)
             else none))
           else none))
         else none)
        else
         (if 0 ≤ (aw o ((aw o (l5 + (-1))) - 1)) ∧ (aw o ((aw o (l5 + (-1))) - 1)) < 100 then
          (if (gD S 134 0 ((aw o ((aw o (l5 + (-1))) - 1)).toNat)) = 0 then
           (if 0 ≤ (aw o (l5 + (-1))) ∧ (aw o (l5 + (-1))) < 100 then
            (if (gD S 134 0 ((aw o (l5 + (-1))).toNat)) = 0 then
             (if 0 ≤ (aw o ((aw o (l5 + (-1))) - 1)) ∧ (aw o ((aw o (l5 + (-1))) - 1)) < 100 then
              run o K false mi_253 n 17 [(0, vr (some (85, 0))), (1, vi l1), (2, vi l2), (3, vi l3), (4, vi l4), (5, vi (aw o (l5 + (-1)))), (6, vi (aw o (l6 + 1)))] [] (wD S 134 0 (((aw o ((aw o (l5 + (-1))) - 1))).toNat) 0)
             else none)
            else
             (if 0 ≤ (aw o ((aw o (l5 + (-1))) - 1)) ∧ (aw o ((aw o (l5 + (-1))) - 1)) < 100 then
              run o K false mi_253 n 17 [(0, vr (some (85, 0))), (1, vi l1), (2, vi l2), (3, vi l3), (4, vi l4), (5, vi (aw o (l5 + (-1)))), (6, vi (aw o (l6 + 1)))] [] (wD S 134 0 (((aw o ((aw o (l5 + (-1))) - 1))).toNat) 1)
             else none))
           else none)
          else
           (if 0 ≤ (aw o ((aw o (l5 + (-1))) - 1)) ∧ (aw o ((aw o (l5 + (-1))) - 1)) < 100 then
            run o K false mi_253 n 17 [(0, vr (some (85, 0))), (1, vi l1), (2, vi l2), (3, vi l3), (4, vi l4), (5, vi (aw o (l5 + (-1)))), (6, vi (aw o (l6 + 1)))] [] (wD S 134 0 (((aw o ((aw o (l5 + (-1))) - 1))).toNat) 1)
           else none))
         else none))
       else none))
     else none)
    else
     (if 0 ≤ l6 ∧ l6 < 4000 then
      (if (gD S 85 0 63) = 0 then
       (bI (K 252 [vr (some (85, 0)), vi (aw o ((aw o (16 * l1)) + (gD S 126 0 (l6.toNat)))), vi l3] S) (fun x2 S1 =>
        (if 0 ≤ l5 ∧ l5 < 100 then
         (if x2 = 0 ∨ x2 = 1 then
         run o K false mi_253 n 17 [(0, vr (some (85, 0))), (1, vi l1), (2, vi l2), (3, vi l3), (4, vi l4), (5, vi (aw o (l5 + 1))), (6, vi (aw o (l6 + 1)))] [] (wD S1 134 0 ((l5).toNat) x2)
        else none)
        else none)))
      else
       (if 0 ≤ (aw o ((aw o (16 * l1)) + (gD S 126 0 (l6.toNat)))) ∧ (aw o ((aw o (16 * l1)) + (gD S 126 0 (l6.toNat)))) < 320 then
        (if 0 ≤ (gD S 149 0 ((aw o ((aw o (16 * l1)) + (gD S 126 0 (l6.toNat)))).toNat)) ∧ (gD S 149 0 ((aw o ((aw o (16 * l1)) + (gD S 126 0 (l6.toNat)))).toNat)) < 32 then
         (if 0 ≤ (aw o ((aw o (16 * l1)) + (gD S 126 0 (l6.toNat)))) ∧ (aw o ((aw o (16 * l1)) + (gD S 126 0 (l6.toNat)))) < 320 then
          (if 0 ≤ (aw o ((aw o (16 * l1)) + (gD S 126 0 (l6.toNat)))) ∧ (aw o ((aw o (16 * l1)) + (gD S 126 0 (l6.toNat)))) < 320 then
           (bI (K 249 [vr (some (85, 0)), vi (gD S 153 0 ((gD S 149 0 ((aw o ((aw o (16 * l1)) + (gD S 126 0 (l6.toNat)))).toNat)).toNat)), vi (gD S 131 0 ((aw o ((aw o (16 * l1)) + (gD S 126 0 (l6.toNat)))).toNat)), vi (gD S 132 0 ((aw o ((aw o (16 * l1)) + (gD S 126 0 (l6.toNat)))).toNat))] S) (fun x4 S3 =>
            (if 0 ≤ l5 ∧ l5 < 100 then
             (if x4 = 0 ∨ x4 = 1 then
             run o K false mi_253 n 17 [(0, vr (some (85, 0))), (1, vi l1), (2, vi l2), (3, vi l3), (4, vi l4), (5, vi (aw o (l5 + 1))), (6, vi (aw o (l6 + 1)))] [] (wD S3 134 0 ((l5).toNat) x4)
            else none)
            else none)))
          else none)
         else none)
        else none)
       else none))
     else none))
   else none)
  else
   (if (gD S 134 0 0) = 0 ∨ (gD S 134 0 0) = 1 then some (vi (gD S 134 0 0), S) else none))
 else none) := rfl
set_option maxRecDepth 100000 in
theorem b254_0 (o : AR) (K : KT) (n : Nat) (S : SD) (a1 : Int) : run o K false mi_254 (n + 1) 0 [(0, vr (some (85, 0))), (1, vi a1)] [] S =
 (if 0 ≤ (aw o ((aw o (2 * a1)) + 1)) ∧ (aw o ((aw o (2 * a1)) + 1)) < 40 then
  (if 0 < (gD S 125 0 ((aw o ((aw o (2 * a1)) + 1)).toNat)) then
   some (vi 1, S)
  else
   some (vi 0, S))
 else none) := rfl
set_option maxRecDepth 100000 in
theorem b255_0 (o : AR) (K : KT) (n : Nat) (S : SD) (a1 : Int) (a2 : Int) (a3 : Int) : run o K false mi_255 (n + 1) 0 [(0, vr (some (85, 0))), (1, vi a1), (2, vi a2), (3, vi a3)] [] S =
 (if 0 ≤ a1 ∧ a1 < 20 then
  (if 0 ≤ a1 ∧ a1 < 20 then
   (if (aw o ((aw o (a2 - (gD (wD S 85 0 61 a3) 115 0 (a1.toNat)))) + 1)) < (gD (wD S 85 0 61 a3) 114 0 (a1.toNat)) then
    some (vi 0, wD S 85 0 61 a3)
   else
    (if 0 ≤ a1 ∧ a1 < 20 then
     run o K false mi_255 n 38 [(0, vr (some (85, 0))), (1, vi a1), (2, vi a2), (4, vi (aw o ((aw o (a2 - (gD (wD S 85 0 61 a3) 115 0 (a1.toNat)))) + 1)))] [] (wD S 85 0 61 a3)
    else none))
  else none)
 else none) := rfl
set_option maxRecDepth 100000 in
theorem b255_38 (o : AR) (K : KT) (n : Nat) (S : SD) (l1 : Int) (l2 : Int) (l4 : Int) : run o K false mi_255 (n + 1) 38 [(0, vr (some (85, 0))), (1, vi l1), (2, vi l2), (4, vi l4)] [] S =
 (if l2 < l4 then
  (bI (K 254 [vr (some (85, 0)), vi l1] S) (fun x2 S1 =>
   (if x2 = 0 then
    some (vi 1, S1)
   else
    (bI (K 253 [vr (some (85, 0)), vi l1, vi 1, vi l2] S1) (fun x4 S3 =>
     (if x4 = 0 then
      some (vi 1, S3)
     else
      some (vi 0, S3)))))))
 else
  (bI (K 253 [vr (some (85, 0)), vi l1, vi 0, vi l4] S) (fun x6 S5 =>
   (if x6 = 0 then
    some (vi 0, S5)
   else
    run o K false mi_255 n 38 [(0, vr (some (85, 0))), (1, vi l1), (2, vi l2), (4, vi (aw o (l4 + 1)))] [] S5)))) := rfl
set_option maxRecDepth 100000 in
theorem b256_0 (o : AR) (K : KT) (n : Nat) (S : SD) (a1 : Int) (a2 : Int) (a3 : Int) : run o K false mi_256 (n + 1) 0 [(0, vr (some (85, 0))), (1, vi a1), (2, vi a2), (3, vi a3)] [] S =
 (bI (K 247 [vr (some (85, 0)), vi a1] S) (fun x2 S1 =>
  (if x2 = 0 then
   some (vi (-1), S1)
  else
   (bI (K 193 [vi a2] S1) (fun x4 S3 =>
    (if x4 = 0 then
     some (vi (-1), S3)
    else
     (bI (K 193 [vi a3] S3) (fun x6 S5 =>
      (if x6 = 0 then
       some (vi (-1), S5)
      else
       (bI (K 255 [vr (some (85, 0)), vi a1, vi a2, vi a3] S5) (fun x8 S7 =>
        (if x8 = 0 then
         some (vi 0, S7)
        else
         some (vi 1, S7))))))))))))) := rfl
set_option maxRecDepth 100000 in
theorem b257_0 (o : AR) (K : KT) (n : Nat) (S : SD) (a1 : Int) : run o K false mi_257 (n + 1) 0 [(0, vr (some (85, 0))), (1, vi a1)] [] S =
 run o K false mi_257 n 4 [(0, vr (some (85, 0))), (1, vi a1), (2, vi (-1)), (3, vi 0)] [] S := rfl
set_option maxRecDepth 100000 in
theorem b257_4 (o : AR) (K : KT) (n : Nat) (S : SD) (l1 : Int) (l2 : Int) (l3 : Int) : run o K false mi_257 (n + 1) 4 [(0, vr (some (85, 0))), (1, vi l1), (2, vi l2), (3, vi l3)] [] S =
 (if l3 < (gD S 85 0 13) then
  run o K false mi_257 n 15 [(0, vr (some (85, 0))), (1, vi l1), (2, vi l2), (3, vi l3), (4, vi 0)] [] S
 else
  some (vi l2, S)) := rfl
set_option maxRecDepth 100000 in
theorem b257_15 (o : AR) (K : KT) (n : Nat) (S : SD) (l1 : Int) (l2 : Int) (l3 : Int) (l4 : Int) : run o K false mi_257 (n + 1) 15 [(0, vr (some (85, 0))), (1, vi l1), (2, vi l2), (3, vi l3), (4, vi l4)] [] S =
 (if 0 ≤ l1 ∧ l1 < 20 then
  (if l4 < (gD S 124 0 (l1.toNat)) then
   (if 0 ≤ (aw o ((aw o (16 * l1)) + l4)) ∧ (aw o ((aw o (16 * l1)) + l4)) < 320 then
    (if 0 ≤ l3 ∧ l3 < 400 then
     (if (gD S 128 0 ((aw o ((aw o (16 * l1)) + l4)).toNat)) = (gD S 97 0 (l3.toNat)) then
      run o K false mi_257 n 15 [(0, vr (some (85, 0))), (1, vi l1), (2, vi l3), (3, vi l3), (4, vi (aw o (l4 + 1)))] [] S
     else
      run o K false mi_257 n 15 [(0, vr (some (85, 0))), (1, vi l1), (2, vi l2), (3, vi l3), (4, vi (aw o (l4 + 1)))] [] S)
    else none)
   else none)
  else
   run o K false mi_257 n 4 [(0, vr (some (85, 0))), (1, vi l1), (2, vi l2), (3, vi (aw o (l3 + 1)))] [] S)
 else none) := rfl
set_option maxRecDepth 100000 in
theorem b258_0 (o : AR) (K : KT) (n : Nat) (S : SD) (a1 : Int) : run o K false mi_258 (n + 1) 0 [(0, vr (some (85, 0))), (1, vi a1)] [] S =
 (if (gD S 85 0 64) = 300 then
  some (vi 0, S)
 else
  (if 0 ≤ a1 ∧ a1 < 20 then
   (if (gD S 119 0 (a1.toNat)) = 0 then
    (if (gD S 85 0 73) = 200 then
     some (vi 0, S)
    else
     (if 0 ≤ (gD S 85 0 64) ∧ (gD S 85 0 64) < 300 then
      (if 0 ≤ (gD (wD S 135 0 (((gD S 85 0 64)).toNat) a1) 85 0 64) ∧ (gD (wD S 135 0 (((gD S 85 0 64)).toNat) a1) 85 0 64) < 300 then
       (bI (K 257 [vr (some (85, 0)), vi a1] (wD (wD S 135 0 (((gD S 85 0 64)).toNat) a1) 136 0 (((gD (wD S 135 0 (((gD S 85 0 64)).toNat) a1) 85 0 64)).toNat) (gD (wD S 135 0 (((gD S 85 0 64)).toNat) a1) 85 0 0))) (fun x2 S1 =>
        (if 0 ≤ (gD (wD (wD S 135 0 (((gD S 85 0 64)).toNat) a1) 136 0 (((gD (wD S 135 0 (((gD S 85 0 64)).toNat) a1) 85 0 64)).toNat) (gD (wD S 135 0 (((gD S 85 0 64)).toNat) a1) 85 0 0)) 85 0 64) ∧ (gD (wD (wD S 135 0 (((gD S 85 0 64)).toNat) a1) 136 0 (((gD (wD S 135 0 (((gD S 85 0 64)).toNat) a1) 85 0 64)).toNat) (gD (wD S 135 0 (((gD S 85 0 64)).toNat) a1) 85 0 0)) 85 0 64) < 300 then
         (if 0 ≤ (gD (wD S1 137 0 (((gD (wD (wD S 135 0 (((gD S 85 0 64)).toNat) a1) 136 0 (((gD (wD S 135 0 (((gD S 85 0 64)).toNat) a1) 85 0 64)).toNat) (gD (wD S 135 0 (((gD S 85 0 64)).toNat) a1) 85 0 0)) 85 0 64)).toNat) x2) 85 0 64) ∧ (gD (wD S1 137 0 (((gD (wD (wD S 135 0 (((gD S 85 0 64)).toNat) a1) 136 0 (((gD (wD S 135 0 (((gD S 85 0 64)).toNat) a1) 85 0 64)).toNat) (gD (wD S 135 0 (((gD S 85 0 64)).toNat) a1) 85 0 0)) 85 0 64)).toNat) x2) 85 0 64) < 300 then
          (if 0 ≤ a1 ∧ a1 < 20 then
           (if (gD (wD (wD S1 137 0 (((gD (wD (wD S 135 0 (((gD S 85 0 64)).toNat) a1) 136 0 (((gD (wD S 135 0 (((gD S 85 0 64)).toNat) a1) 85 0 64)).toNat) (gD (wD S 135 0 (((gD S 85 0 64)).toNat) a1) 85 0 0)) 85 0 64)).toNat) x2) 138 0 (((gD (wD S1 137 0 (((gD (wD (wD S 135 0 (((gD S 85 0 64)).toNat) a1) 136 0 (((gD (wD S 135 0 (((gD S 85 0 64)).toNat) a1) 85 0 64)).toNat) (gD (wD S 135 0 (((gD S 85 0 64)).toNat) a1) 85 0 0)) 85 0 64)).toNat) x2) 85 0 64)).toNat) (-1)) 119 0 (a1.toNat)) = 0 then
            (if 0 ≤ a1 ∧ a1 < 20 then
             (if 0 ≤ a1 ∧ a1 < 20 then
              (bI (K 194 [vi (aw o ((gD (wD (wD S1 137 0 (((gD (wD (wD S 135 0 (((gD S 85 0 64)).toNat) a1) 136 0 (((gD (wD S 135 0 (((gD S 85 0 64)).toNat) a1) 85 0 64)).toNat) (gD (wD S 135 0 (((gD S 85 0 64)).toNat) a1) 85 0 0)) 85 0 64)).toNat) x2) 138 0 (((gD (wD S1 137 0 (((gD (wD (wD S 135 0 (((gD S 85 0 64)).toNat) a1) 136 0 (((gD (wD S 135 0 (((gD S 85 0 64)).toNat) a1) 85 0 64)).toNat) (gD (wD S 135 0 (((gD S 85 0 64)).toNat) a1) 85 0 0)) 85 0 64)).toNat) x2) 85 0 64)).toNat) (-1)) 85 0 0) + 50)), vi 3999] (wD (wD S1 137 0 (((gD (wD (wD S 135 0 (((gD S 85 0 64)).toNat) a1) 136 0 (((gD (wD S 135 0 (((gD S 85 0 64)).toNat) a1) 85 0 64)).toNat) (gD (wD S 135 0 (((gD S 85 0 64)).toNat) a1) 85 0 0)) 85 0 64)).toNat) x2) 138 0 (((gD (wD S1 137 0 (((gD (wD (wD S 135 0 (((gD S 85 0 64)).toNat) a1) 136 0 (((gD (wD S 135 0 (((gD S 85 0 64)).toNat) a1) 85 0 64)).toNat) (gD (wD S 135 0 (((gD S 85 0 64)).toNat) a1) 85 0 0)) 85 0 64)).toNat) x2) 85 0 64)).toNat) (-1))) (fun x4 S3 =>
               (bI (K 266 [vr (some (85, 0)), vi (gD (wD (wD S1 137 0 (((gD (wD (wD S 135 0 (((gD S 85 0 64)).toNat) a1) 136 0 (((gD (wD S 135 0 (((gD S 85 0 64)).toNat) a1) 85 0 64)).toNat) (gD (wD S 135 0 (((gD S 85 0 64)).toNat) a1) 85 0 0)) 85 0 64)).toNat) x2) 138 0 (((gD (wD S1 137 0 (((gD (wD (wD S 135 0 (((gD S 85 0 64)).toNat) a1) 136 0 (((gD (wD S 135 0 (((gD S 85 0 64)).toNat) a1) 85 0 64)).toNat) (gD (wD S 135 0 (((gD S 85 0 64)).toNat) a1) 85 0 0)) 85 0 64)).toNat) x2) 85 0 64)).toNat) (-1)) 120 0 (a1.toNat)), vi (gD (wD (wD S1 137 0 (((gD (wD (wD S 135 0 (((gD S 85 0 64)).toNat) a1) 136 0 (((gD (wD S 135 0 (((gD S 85 0 64)).toNat) a1) 85 0 64)).toNat) (gD (wD S 135 0 (((gD S 85 0 64)).toNat) a1) 85 0 0)) 85 0 64)).toNat) x2) 138 0 (((gD (wD S1 137 0 (((gD (wD (wD S 135 0 (((gD S 85 0 64)).toNat) a1) 136 0 (((gD (wD S 135 0 (((gD S 85 0 64)).toNat) a1) 85 0 64)).toNat) (gD (wD S 135 0 (((gD S 85 0 64)).toNat) a1) 85 0 0)) 85 0 64)).toNat) x2) 85 0 64)).toNat) (-1)) 122 0 (a1.toNat)), vi x4] S3) (fun x6 S5 =>
                (if 0 ≤ (gD (wD (wD S1 137 0 (((gD (wD (wD S 135 0 (((gD S 85 0 64)).toNat) a1) 136 0 (((gD (wD S 135 0 (((gD S 85 0 64)).toNat) a1) 85 0 64)).toNat) (gD (wD S 135 0 (((gD S 85 0 64)).toNat) a1) 85 0 0)) 85 0 64)).toNat) x2) 138 0 (((gD (wD S1 137 0 (((gD (wD (wD S 135 0 (((gD S 85 0 64)).toNat) a1) 136 0 (((gD (wD S 135 0 (((gD S 85 0 64)).toNat) a1) 85 0 64)).toNat) (gD (wD S 135 0 (((gD S 85 0 64)).toNat) a1) 85 0 0)) 85 0 64)).toNat) x2) 85 0 64)).toNat) (-1)) 85 0 64) ∧ (gD (wD (wD S1 137 0 (((gD (wD (wD S 135 0 (((gD S 85 0 64)).toNat) a1) 136 0 (((gD (wD S 135 0 (((gD S 85 0 64)).toNat) a1) 85 0 64)).toNat) (gD (wD S 135 0 (((gD S 85 0 64)).toNat) a1) 85 0 0)) 85 0 64)).toNat) x2) 138 0 (((gD (wD S1 137 0 (((gD (wD (wD S 135 0 (((gD S 85 0 64)).toNat) a1) 136 0 (((gD (wD S 135 0 (((gD S 85 0 64)).toNat) a1) 85 0 64)).toNat) (gD (wD S 135 0 (((gD S 85 0 64)).toNat) a1) 85 0 0)) 85 0 64)).toNat) x2) 85 0 64)).toNat) (-1)) 85 0 64) < 300 then
                 some (vi 0, wD (wD S5 138 0 (((gD (wD (wD S1 137 0 (((gD (wD (wD S 135 0 (((gD S 85 0 64)).toNat) a1) 136 0 (((gD (wD S 135 0 (((gD S 85 0 64)).toNat) a1) 85 0 64)).toNat) (gD (wD S 135 0 (((gD S 85 0 64)).toNat) a1) 85 0 0)) 85 0 64)).toNat) x2) 138 0 (((gD (wD S1 137 0 (((gD (wD (wD S 135 0 (((gD S 85 0 64)).toNat) a1) 136 0 (((gD (wD S 135 0 (((gD S 85 0 64)).toNat) a1) 85 0 64)).toNat) (gD (wD S 135 0 (((gD S 85 0 64)).toNat) a1) 85 0 0)) 85 0 64)).toNat) x2) 85 0 64)).toNat) (-1)) 85 0 64)).toNat) x6) 85 0 64 (aw o ((gD (wD S5 138 0 (((gD (wD (wD S1 137 0 (((gD (wD (wD S 135 0 (((gD S 85 0 64)).toNat) a1) 136 0 (((gD (wD S 135 0 (((gD S 85 0 64)).toNat) a1) 85 0 64)).toNat) (gD (wD S 135 0 (((gD S 85 0 64)).toNat) a1) 85 0 0)) 85 0 64)).toNat) x2) 138 0 (((gD (wD S1 137 0 (((gD (wD (wD S 135 0 (((gD S 85 0 64)).toNat) a1) 136 0 (((gD (wD S 135 0 (((gD S 85 0 64)).toNat) a1) 85 0 64)).toNat) (gD (wD S 135 0 (((gD S 85 0 64)).toNat) a1) 85 0 0)) 85 0 64)).toNat) x2) 85 0 64)).toNat) (-1)) 85 0 64)).toNat) x6) 85 0 64) + 1)))
                else none)))))
             else none)
            else none)
           else
            (if 0 ≤ a1 ∧ a1 < 20 then
             (if 0 ≤ a1 ∧ a1 < 20 then
              (if 0 ≤ a1 ∧ a1 < 20 then
               (if 0 ≤ a1 ∧ a1 < 20 then
                (bV (K 262 [vr (some (85, 0)), vi (gD (wD (wD S1 137 0 (((gD (wD (wD S 135 0 (((gD S 85 0 64)).toNat) a1) 136 0 (((gD (wD S 135 0 (((gD S 85 0 64)).toNat) a1) 85 0 64)).toNat) (gD (wD S 135 0 (((gD S 85 0 64)).toNat) a1) 85 0 0)) 85 0 64)).toNat) x2) 138 0 (((gD (wD S1 137 0 (((gD (wD (wD S 135 0 (((gD S 85 0 64)).toNat) a1) 136 0 (((gD (wD S 135 0 (((gD S 85 0 64)).toNat) a1) 85 0 64)).toNat) (gD (wD S 135 0 (((gD S 85 0 64)).toNat) a1) 85 0 0)) 85 0 64)).toNat) x2) 85 0 64)).toNat) (-1)) 113 0 (a1.toNat)), vi (gD (wD (wD S1 137 0 (((gD (wD (wD S 135 0 (((gD S 85 0 64)).toNat) a1) 136 0 (((gD (wD S 135 0 (((gD S 85 0 64)).toNat) a1) 85 0 64)).toNat) (gD (wD S 135 0 (((gD S 85 0 64)).toNat) a1) 85 0 0)) 85 0 64)).toNat) x2) 138 0 (((gD (wD S1 137 0 (((gD (wD (wD S 135 0 (((gD S 85 0 64)).toNat) a1) 136 0 (((gD (wD S 135 0 (((gD S 85 0 64)).toNat) a1) 85 0 64)).toNat) (gD (wD S 135 0 (((gD S 85 0 64)).toNat) a1) 85 0 0)) 85 0 64)).toNat) x2) 85 0 64)).toNat) (-1)) 120 0 (a1.toNat)), vi (gD (wD (wD S1 137 0 (((gD (wD (wD S 135 0 (((gD S 85 0 64)).toNat) a1) 136 0 (((gD (wD S 135 0 (((gD S 85 0 64)).toNat) a1) 85 0 64)).toNat) (gD (wD S 135 0 (((gD S 85 0 64)).toNat) a1) 85 0 0)) 85 0 64)).toNat) x2) 138 0 (((gD (wD S1 137 0 (((gD (wD (wD S 135 0 (((gD S 85 0 64)).toNat) a1) 136 0 (((gD (wD S 135 0 (((gD S 85 0 64)).toNat) a1) 85 0 64)).toNat) (gD (wD S 135 0 (((gD S 85 0 64)).toNat) a1) 85 0 0)) 85 0 64)).toNat) x2) 85 0 64)).toNat) (-1)) 121 0 (a1.toNat)), vi (gD (wD (wD S1 137 0 (((gD (wD (wD S 135 0 (((gD S 85 0 64)).toNat) a1) 136 0 (((gD (wD S 135 0 (((gD S 85 0 64)).toNat) a1) 85 0 64)).toNat) (gD (wD S 135 0 (((gD S 85 0 64)).toNat) a1) 85 0 0)) 85 0 64)).toNat) x2) 138 0 (((gD (wD S1 137 0 (((gD (wD (wD S 135 0 (((gD S 85 0 64)).toNat) a1) 136 0 (((gD (wD S 135 0 (((gD S 85 0 64)).toNat) a1) 85 0 64)).toNat) (gD (wD S 135 0 (((gD S 85 0 64)).toNat) a1) 85 0 0)) 85 0 64)).toNat) x2) 85 0 64)).toNat) (-1)) 122 0 (a1.toNat))] (wD (wD S1 137 0 (((gD (wD (wD S 135 0 (((gD S 85 0 64)).toNat) a1) 136 0 (((gD (wD S 135 0 (((gD S 85 0 64)).toNat) a1) 85 0 64)).toNat) (gD (wD S 135 0 (((gD S 85 0 64)).toNat) a1) 85 0 0)) 85 0 64)).toNat) x2) 138 0 (((gD (wD S1 137 0 (((gD (wD (wD S 135 0 (((gD S 85 0 64)).toNat) a1) 136 0 (((gD (wD S 135 0 (((gD S 85 0 64)).toNat) a1) 85 0 64)).toNat) (gD (wD S 135 0 (((gD S 85 0 64)).toNat) a1) 85 0 0)) 85 0 64)).toNat) x2) 85 0 64)).toNat) (-1))) (fun S7 =>
                 some (vi 0, wD S7 85 0 64 (aw o ((gD S7 85 0 64) + 1)))))
               else none)
              else none)
             else none)
            else none))
          else none)
         else none)
        else none)))
      else none)
     else none))
   else
    (if 0 ≤ (gD S 85 0 64) ∧ (gD S 85 0 64) < 300 then
     (if 0 ≤ (gD (wD S 135 0 (((gD S 85 0 64)).toNat) a1) 85 0 64) ∧ (gD (wD S 135 0 (((gD S 85 0 64)).toNat) a1) 85 0 64) < 300 then
      (bI (K 257 [vr (some (85, 0)), vi a1] (wD (wD S 135 0 (((gD S 85 0 64)).toNat) a1) 136 0 (((gD (wD S 135 0 (((gD S 85 0 64)).toNat) a1) 85 0 64)).toNat) (gD (wD S 135 0 (((gD S 85 0 64)).toNat) a1) 85 0 0))) (fun x9 S8 =>
       (if 0 ≤ (gD (wD (wD S 135 0 (((gD S 85 0 64)).toNat) a1) 136 0 (((gD (wD S 135 0 (((gD S 85 0 64)).toNat) a1) 85 0 64)).toNat) (gD (wD S 135 0 (((gD S 85 0 64)).toNat) a1) 85 0 0)) 85 0 64) ∧ (gD (wD (wD S 135 0 (((gD S 85 0 64)).toNat) a1) 136 0 (((gD (wD S 135 0 (((gD S 85 0 64)).toNat) a1) 85 0 64)).toNat) (gD (wD S 135 0 (((gD S 85 0 64)).toNat) a1) 85 0 0)) 85 0 64) < 300 then
        (if 0 ≤ (gD (wD S8 137 0 (((gD (wD (wD S 135 0 (((gD S 85 0 64)).toNat) a1) 136 0 (((gD (wD S 135 0 (((gD S 85 0 64)).toNat) a1) 85 0 64)).toNat) (gD (wD S 135 0 (((gD S 85 0 64)).toNat) a1) 85 0 0)) 85 0 64)).toNat) x9) 85 0 64) ∧ (gD (wD S8 137 0 (((gD (wD (wD S 135 0 (((gD S 85 0 64)).toNat) a1) 136 0 (((gD (wD S 135 0 (((gD S 85 0 64)).toNat) a1) 85 0 64)).toNat) (gD (wD S 135 0 (((gD S 85 0 64)).toNat) a1) 85 0 0)) 85 0 64)).toNat) x9) 85 0 64) < 300 then
         (if 0 ≤ a1 ∧ a1 < 20 then
          (if (gD (wD (wD S8 137 0 (((gD (wD (wD S 135 0 (((gD S 85 0 64)).toNat) a1) 136 0 (((gD (wD S 135 0 (((gD S 85 0 64)).toNat) a1) 85 0 64)).toNat) (gD (wD S 135 0 (((gD S 85 0 64)).toNat) a1) 85 0 0)) 85 0 64)).toNat) x9) 138 0 (((gD (wD S8 137 0 (((gD (wD (wD S 135 0 (((gD S 85 0 64)).toNat) a1) 136 0 (((gD (wD S 135 0 (((gD S 85 0 64)).toNat) a1) 85 0 64)).toNat) (gD (wD S 135 0 (((gD S 85 0 64)).toNat) a1) 85 0 0)) 85 0 64)).toNat) x9) 85 0 64)).toNat) (-1)) 119 0 (a1.toNat)) = 0 then
           (if 0 ≤ a1 ∧ a1 < 20 then
            (if 0 ≤ a1 ∧ a1 < 20 then
             (bI (K 194 [vi (aw o ((gD (wD (wD S8 137 0 (((gD (wD (wD S 135 0 (((gD S 85 0 64)).toNat) a1) 136 0 (((gD (wD S 135 0 (((gD S 85 0 64)).toNat) a1) 85 0 64)).toNat) (gD (wD S 135 0 (((gD S 85 0 64)).toNat) a1) 85 0 0)) 85 0 64)).toNat) x9) 138 0 (((gD (wD S8 137 0 (((gD (wD (wD S 135 0 (((gD S 85 0 64)).toNat) a1) 136 0 (((gD (wD S 135 0 (((gD S 85 0 64)).toNat) a1) 85 0 64)).toNat) (gD (wD S 135 0 (((gD S 85 0 64)).toNat) a1) 85 0 0)) 85 0 64)).toNat) x9) 85 0 64)).toNat) (-1)) 85 0 0) + 50)), vi 3999] (wD (wD S8 137 0 (((gD (wD (wD S 135 0 (((gD S 85 0 64)).toNat) a1) 136 0 (((gD (wD S 135 0 (((gD S 85 0 64)).toNat) a1) 85 0 64)).toNat) (gD (wD S 135 0 (((gD S 85 0 64)).toNat) a1) 85 0 0)) 85 0 64)).toNat) x9) 138 0 (((gD (wD S8 137 0 (((gD (wD (wD S 135 0 (((gD S 85 0 64)).toNat) a1) 136 0 (((gD (wD S 135 0 (((gD S 85 0 64)).toNat) a1) 85 0 64)).toNat) (gD (wD S 135 0 (((gD S 85 0 64)).toNat) a1) 85 0 0)) 85 0 64)).toNat) x9) 85 0 64)).toNat) (-1))) (fun x11 S10 =>
              (bI (K 266 [vr (some (85, 0)), vi (gD (wD (wD S8 137 0 (((gD (wD (wD S 135 0 (((gD S 85 0 64)).toNat) a1) 136 0 (((gD (wD S 135 0 (((gD S 85 0 64)).toNat) a1) 85 0 64)).toNat) (gD (wD S 135 0 (((gD S 85 0 64)).toNat) a1) 85 0 0)) 85 0 64)).toNat) x9) 138 0 (((gD (wD S8 137 0 (((gD (wD (wD S 135 0 (((gD S 85 0 64)).toNat) a1) 136 0 (((gD (wD S 135 0 (((gD S 85 0 64)).toNat) a1) 85 0 64)).toNat) (gD (wD S 135 0 (((gD S 85 0 64)).toNat) a1) 85 0 0)) 85 0 64)).toNat) x9) 85 0 64)).toNat) (-1)) 120 0 (a1.toNat)), vi (gD (wD (wD S8 137 0 (((gD (wD (wD S 135 0 (((gD S 85 0 64)).toNat) a1) 136 0 (((gD (wD S 135 0 (((gD S 85 0 64)).toNat) a1) 85 0 64)).toNat) (gD (wD S 135 0 (((gD S 85 0 64)).toNat) a1) 85 0 0)) 85 0 64)).toNat) x9) 138 0 (((gD (wD S8 137 0 (((gD (wD (wD S 135 0 (((gD S 85 0 64)).toNat) a1) 136 0 (((gD (wD S 135 0 (((gD S 85 0 64)).toNat) a1) 85 0 64)).toNat) (gD (wD S 135 0 (((gD S 85 0 64)).toNat) a1) 85 0 0)) 85 0 64)).toNat) x9) 85 0 64)).toNat) (-1)) 122 0 (a1.toNat)), vi x11] S10) (fun x13 S12 =>
               (if 0 ≤ (gD (wD (wD S8 137 0 (((gD (wD (wD S 135 0 (((gD S 85 0 64)).toNat) a1) 136 0 (((gD (wD S 135 0 (((gD S 85 0 64)).toNat) a1) 85 0 64)).toNat) (gD (wD S 135 0 (((gD S 85 0 64)).toNat) a1) 85 0 0)) 85 0 64)).toNat) x9) 138 0 (((gD (wD S8 137 0 (((gD (wD (wD S 135 0 (((gD S 85 0 64)).toNat) a1) 136 0 (((gD (wD S 135 0 (((gD S 85 0 64)).toNat) a1) 85 0 64)).toNat) (gD (wD S 135 0 (((gD S 85 0 64)).toNat) a1) 85 0 0)) 85 0 64)).toNat) x9) 85 0 64)).toNat) (-1)) 85 0 64) ∧ (gD (wD (wD S8 137 0 (((gD (wD (wD S 135 0 (((gD S 85 0 64)).toNat) a1) 136 0 (((gD (wD S 135 0 (((gD S 85 0 64)).toNat) a1) 85 0 64)).toNat) (gD (wD S 135 0 (((gD S 85 0 64)).toNat) a1) 85 0 0)) 85 0 64)).toNat) x9) 138 0 (((gD (wD S8 137 0 (((gD (wD (wD S 135 0 (((gD S 85 0 64)).toNat) a1) 136 0 (((gD (wD S 135 0 (((gD S 85 0 64)).toNat) a1) 85 0 64)).toNat) (gD (wD S 135 0 (((gD S 85 0 64)).toNat) a1) 85 0 0)) 85 0 64)).toNat) x9) 85 0 64)).toNat) (-1)) 85 0 64) < 300 then
                some (vi 0, wD (wD S12 138 0 (((gD (wD (wD S8 137 0 (((gD (wD (wD S 135 0 (((gD S 85 0 64)).toNat) a1) 136 0 (((gD (wD S 135 0 (((gD S 85 0 64)).toNat) a1) 85 0 64)).toNat) (gD (wD S 135 0 (((gD S 85 0 64)).toNat) a1) 85 0 0)) 85 0 64)).toNat) x9) 138 0 (((gD (wD S8 137 0 (((gD (wD (wD S 135 0 (((gD S 85 0 64)).toNat) a1) 136 0 (((gD (wD S 135 0 (((gD S 85 0 64)).toNat) a1) 85 0 64)).toNat) (gD (wD S 135 0 (((gD S 85 0 64)).toNat) a1) 85 0 0)) 85 0 64)).toNat) x9) 85 0 64)).toNat) (-1)) 85 0 64)).toNat) x13) 85 0 64 (aw o ((gD (wD S12 138 0 (((gD (wD (wD S8 137 0 (((gD (wD (wD S 135 0 (((gD S 85 0 64)).toNat) a1) 136 0 (((gD (wD S 135 0 (((gD S 85 0 64)).toNat) a1) 85 0 64)).toNat) (gD (wD S 135 0 (((gD S 85 0 64)).toNat) a1) 85 0 0)) 85 0 64)).toNat) x9) 138 0 (((gD (wD S8 137 0 (((gD (wD (wD S 135 0 (((gD S 85 0 64)).toNat) a1) 136 0 (((gD (wD S 135 0 (((gD S 85 0 64)).toNat) a1) 85 0 64)).toNat) (gD (wD S 135 0 (((gD S 85 0 64)).toNat) a1) 85 0 0)) 85 0 64)).toNat) x9) 85 0 64)).toNat) (-1)) 85 0 64)).toNat) x13) 85 0 64) + 1)))
               else none)))))
            else none)
           else none)
          else
           (if 0 ≤ a1 ∧ a1 < 20 then
            (if 0 ≤ a1 ∧ a1 < 20 then
             (if 0 ≤ a1 ∧ a1 < 20 then
              (if 0 ≤ a1 ∧ a1 < 20 then
               (bV (K 262 [vr (some (85, 0)), vi (gD (wD (wD S8 137 0 (((gD (wD (wD S 135 0 (((gD S 85 0 64)).toNat) a1) 136 0 (((gD (wD S 135 0 (((gD S 85 0 64)).toNat) a1) 85 0 64)).toNat) (gD (wD S 135 0 (((gD S 85 0 64)).toNat) a1) 85 0 0)) 85 0 64)).toNat) x9) 138 0 (((gD (wD S8 137 0 (((gD (wD (wD S 135 0 (((gD S 85 0 64)).toNat) a1) 136 0 (((gD (wD S 135 0 (((gD S 85 0 64)).toNat) a1) 85 0 64)).toNat) (gD (wD S 135 0 (((gD S 85 0 64)).toNat) a1) 85 0 0)) 85 0 64)).toNat) x9) 85 0 64)).toNat) (-1)) 113 0 (a1.toNat)), vi (gD (wD (wD S8 137 0 (((gD (wD (wD S 135 0 (((gD S 85 0 64)).toNat) a1) 136 0 (((gD (wD S 135 0 (((gD S 85 0 64)).toNat) a1) 85 0 64)).toNat) (gD (wD S 135 0 (((gD S 85 0 64)).toNat) a1) 85 0 0)) 85 0 64)).toNat) x9) 138 0 (((gD (wD S8 137 0 (((gD (wD (wD S 135 0 (((gD S 85 0 64)).toNat) a1) 136 0 (((gD (wD S 135 0 (((gD S 85 0 64)).toNat) a1) 85 0 64)).toNat) (gD (wD S 135 0 (((gD S 85 0 64)).toNat) a1) 85 0 0)) 85 0 64)).toNat) x9) 85 0 64)).toNat) (-1)) 120 0 (a1.toNat)), vi (gD (wD (wD S8 137 0 (((gD (wD (wD S 135 0 (((gD S 85 0 64)).toNat) a1) 136 0 (((gD (wD S 135 0 (((gD S 85 0 64)).toNat) a1) 85 0 64)).toNat) (gD (wD S 135 0 (((gD S 85 0 64)).toNat) a1) 85 0 0)) 85 0 64)).toNat) x9) 138 0 (((gD (wD S8 137 0 (((gD (wD (wD S 135 0 (((gD S 85 0 64)).toNat) a1) 136 0 (((gD (wD S 135 0 (((gD S 85 0 64)).toNat) a1) 85 0 64)).toNat) (gD (wD S 135 0 (((gD S 85 0 64)).toNat) a1) 85 0 0)) 85 0 64)).toNat) x9) 85 0 64)).toNat) (-1)) 121 0 (a1.toNat)), vi (gD (wD (wD S8 137 0 (((gD (wD (wD S 135 0 (((gD S 85 0 64)).toNat) a1) 136 0 (((gD (wD S 135 0 (((gD S 85 0 64)).toNat) a1) 85 0 64)).toNat) (gD (wD S 135 0 (((gD S 85 0 64)).toNat) a1) 85 0 0)) 85 0 64)).toNat) x9) 138 0 (((gD (wD S8 137 0 (((gD (wD (wD S 135 0 (((gD S 85 0 64)).toNat) a1) 136 0 (((gD (wD S 135 0 (((gD S 85 0 64)).toNat) a1) 85 0 64)).toNat) (gD (wD S 135 0 (((gD S 85 0 64)).toNat) a1) 85 0 0)) 85 0 64)).toNat) x9) 85 0 64)).toNat) (-1)) 122 0 (a1.toNat))] (wD (wD S8 137 0 (((gD (wD (wD S 135 0 (((gD S 85 0 64)).toNat) a1) 136 0 (((gD (wD S 135 0 (((gD S 85 0 64)).toNat) a1) 85 0 64)).toNat) (gD (wD S 135 0 (((gD S 85 0 64)).toNat) a1) 85 0 0)) 85 0 64)).toNat) x9) 138 0 (((gD (wD S8 137 0 (((gD (wD (wD S 135 0 (((gD S 85 0 64)).toNat) a1) 136 0 (((gD (wD S 135 0 (((gD S 85 0 64)).toNat) a1) 85 0 64)).toNat) (gD (wD S 135 0 (((gD S 85 0 64)).toNat) a1) 85 0 0)) 85 0 64)).toNat) x9) 85 0 64)).toNat) (-1))) (fun S14 =>
                some (vi 0, wD S14 85 0 64 (aw o ((gD S14 85 0 64) + 1)))))
              else none)
             else none)
            else none)
           else none))
         else none)
        else none)
       else none)))
     else none)
    else none))
  else none)) := rfl
set_option maxRecDepth 100000 in
theorem b259_0 (o : AR) (K : KT) (n : Nat) (S : SD) : run o K false mi_259 (n + 1) 0 [(0, vr (some (85, 0)))] [] S =
 (if (gD S 85 0 0) = 3999 then
  some (vi (-1), S)
 else
  run o K false mi_259 n 26 [(0, vr (some (85, 0))), (1, vi 0), (2, vi 0)] [] (wD S 85 0 0 (aw o ((gD S 85 0 0) + 1)))) := rfl
set_option maxRecDepth 100000 in
theorem b259_26 (o : AR) (K : KT) (n : Nat) (S : SD) (l1 : Int) (l2 : Int) : run o K false mi_259 (n + 1) 26 [(0, vr (some (85, 0))), (1, vi l1), (2, vi l2)] [] S =
 (if l2 < (gD S 85 0 32) then
  (if 0 ≤ l2 ∧ l2 < 20 then
   (if (gD S 117 0 (l2.toNat)) = 0 then
    run o K false mi_259 n 26 [(0, vr (some (85, 0))), (1, vi l1), (2, vi (aw o (l2 + 1)))] [] S
   else
    (bI (K 255 [vr (some (85, 0)), vi l2, vi (gD S 85 0 0), vi (gD S 85 0 0)] S) (fun x2 S1 =>
     (if x2 = 0 then
      (if 0 ≤ l2 ∧ l2 < 20 then
       (if x2 = 0 ∨ x2 = 1 then
       run o K false mi_259 n 26 [(0, vr (some (85, 0))), (1, vi l1), (2, vi (aw o (l2 + 1)))] [] (wD S1 118 0 ((l2).toNat) x2)
      else none)
      else none)
     else
      (if 0 ≤ l2 ∧ l2 < 20 then
       (if (gD S1 118 0 (l2.toNat)) = 0 then
        (bV (K 258 [vr (some (85, 0)), vi l2] S1) (fun S3 =>
         (if 0 ≤ l2 ∧ l2 < 20 then
          (if x2 = 0 ∨ x2 = 1 then
          run o K false mi_259 n 26 [(0, vr (some (85, 0))), (1, vi (aw o (l1 + 1))), (2, vi (aw o (l2 + 1)))] [] (wD S3 118 0 ((l2).toNat) x2)
         else none)
         else none)))
       else
        (if 0 ≤ l2 ∧ l2 < 20 then
         (if x2 = 0 ∨ x2 = 1 then
         run o K false mi_259 n 26 [(0, vr (some (85, 0))), (1, vi l1), (2, vi (aw o (l2 + 1)))] [] (wD S1 118 0 ((l2).toNat) x2)
        else none)
        else none))
      else none)))))
  else none)
 else
  some (vi l1, S)) := rfl
set_option maxRecDepth 100000 in
theorem b260_0 (o : AR) (K : KT) (n : Nat) (S : SD) (a1 : Int) (a2 : Int) : run o K false mi_260 (n + 1) 0 [(0, vr (some (85, 0))), (1, vi a1), (2, vi a2)] [] S =
 (bI (K 192 [vl a1, vl 0, vl (aw o ((gD S 85 0 64) - 1))] S) (fun x2 S1 =>
  (if x2 = 0 then
   some (vi (-2), S1)
  else
   (if a2 = 0 then
    (if 0 ≤ a1 ∧ a1 < 300 then
     some (vi (gD S1 135 0 (a1.toNat)), S1)
    else none)
   else (if a2 = 1 then
    (if 0 ≤ a1 ∧ a1 < 300 then
     some (vi (gD S1 136 0 (a1.toNat)), S1)
    else none)
   else (if a2 = 2 then
    (if 0 ≤ a1 ∧ a1 < 300 then
     some (vi (gD S1 137 0 (a1.toNat)), S1)
    else none)
   else (if a2 = 3 then
    (if 0 ≤ a1 ∧ a1 < 300 then
     (if 0 ≤ a1 ∧ a1 < 300 then
      (bI (K 255 [vr (some (85, 0)), vi (gD S1 135 0 (a1.toNat)), vi (gD S1 136 0 (a1.toNat)), vi (gD S1 85 0 0)] S1) (fun x4 S3 =>
       (if x4 = 0 then
        some (vi 0, S3)
       else
        some (vi 1, S3))))
     else none)
    else none)
   else (if a2 = 4 then
    (if 0 ≤ a1 ∧ a1 < 300 then
     some (vi (gD S1 138 0 (a1.toNat)), S1)
    else none)
   else 
    some (vi (-2), S1))))))))) := rfl
set_option maxRecDepth 100000 in
theorem b261_0 (o : AR) (K : KT) (n : Nat) (S : SD) (a1 : Int) (a2 : Int) (a3 : Int) : run o K false mi_261 (n + 1) 0 [(0, vr (some (85, 0))), (1, vi a1), (2, vi a2), (3, vi a3)] [] S =
 (bI (K 192 [vl a1, vl 0, vl 7] S) (fun x2 S1 =>
  (if x2 = 0 then
   some (vi (-1), S1)
  else
   (bI (K 192 [vl a2, vl 0, vl 7] S1) (fun x4 S3 =>
    (if x4 = 0 then
     some (vi (-1), S3)
    else
     (bI (K 192 [vl a3, vl 0, vl 9] S3) (fun x6 S5 =>
      (if x6 = 0 then
       some (vi (-1), S5)
      else
       (if 0 ≤ (aw o ((aw o (8 * a1)) + a2)) ∧ (aw o ((aw o (8 * a1)) + a2)) < 64 then
        (if 0 ≤ (aw o ((aw o (8 * a1)) + a2)) ∧ (aw o ((aw o (8 * a1)) + a2)) < 64 then
         some (vi (gD S5 139 0 ((aw o ((aw o (8 * a1)) + a2)).toNat)), wD S5 139 0 (((aw o ((aw o (8 * a1)) + a2))).toNat) a3)
        else none)
       else none)))))))))) := rfl
set_option maxRecDepth 100000 in
theorem b262_0 (o : AR) (K : KT) (n : Nat) (S : SD) (a1 : Int) (a2 : Int) (a3 : Int) (a4 : Int) : run o K false mi_262 (n + 1) 0 [(0, vr (some (85, 0))), (1, vi a1), (2, vi a2), (3, vi a3), (4, vi a4)] [] S =
 (if 0 ≤ (aw o ((aw o ((aw o (120 * a1)) + (aw o (3 * a2)))) + a3)) ∧ (aw o ((aw o ((aw o (120 * a1)) + (aw o (3 * a2)))) + a3)) < 960 then
  (if 0 ≤ (aw o ((aw o ((aw o (120 * a1)) + (aw o (3 * a2)))) + a3)) ∧ (aw o ((aw o ((aw o (120 * a1)) + (aw o (3 * a2)))) + a3)) < 960 then
   some (vi 0, wD (wD (wD S 85 0 72 (aw o ((gD S 85 0 72) + 1))) 140 0 (((aw o ((aw o ((aw o (120 * a1)) + (aw o (3 * a2)))) + a3))).toNat) a4) 141 0 (((aw o ((aw o ((aw o (120 * a1)) + (aw o (3 * a2)))) + a3))).toNat) (gD (wD (wD S 85 0 72 (aw o ((gD S 85 0 72) + 1))) 140 0 (((aw o ((aw o ((aw o (120 * a1)) + (aw o (3 * a2)))) + a3))).toNat) a4) 85 0 72))
  else none)
 else none) := rfl
set_option maxRecDepth 100000 in
theorem b263_0 (o : AR) (K : KT) (n : Nat) (S : SD) (a1 : Int) (a2 : Int) (a3 : Int) (a4 : Int) : run o K false mi_263 (n + 1) 0 [(0, vr (some (85, 0))), (1, vi a1), (2, vi a2), (3, vi a3), (4, vi a4)] [] S =
 (bI (K 192 [vl a1, vl 0, vl 7] S) (fun x2 S1 =>
  (if x2 = 0 then
   some (vi 0, S1)
  else
   (bI (K 197 [vr (some (85, 0)), vi a2] S1) (fun x4 S3 =>
    (if x4 = 0 then
     some (vi 0, S3)
    else
     (bI (K 196 [vi a3] S3) (fun x6 S5 =>
      (if x6 = 0 then
       some (vi 0, S5)
      else
       (if a4 = (-1000000) then
        (if 0 ≤ (aw o ((aw o ((aw o (120 * a1)) + (aw o (3 * a2)))) + a3)) ∧ (aw o ((aw o ((aw o (120 * a1)) + (aw o (3 * a2)))) + a3)) < 960 then
         (if 0 < (gD S5 141 0 ((aw o ((aw o ((aw o (120 * a1)) + (aw o (3 * a2)))) + a3)).toNat)) then
          (if 0 ≤ (aw o ((aw o ((aw o (120 * a1)) + (aw o (3 * a2)))) + a3)) ∧ (aw o ((aw o ((aw o (120 * a1)) + (aw o (3 * a2)))) + a3)) < 960 then
           some (vi 1, wD S5 141 0 (((aw o ((aw o ((aw o (120 * a1)) + (aw o (3 * a2)))) + a3))).toNat) 0)
          else none)
         else
          (if 0 ≤ (aw o ((aw o ((aw o (120 * a1)) + (aw o (3 * a2)))) + a3)) ∧ (aw o ((aw o ((aw o (120 * a1)) + (aw o (3 * a2)))) + a3)) < 960 then
           some (vi 0, wD S5 141 0 (((aw o ((aw o ((aw o (120 * a1)) + (aw o (3 * a2)))) + a3))).toNat) 0)
          else none))
        else none)
       else
        (bI (K 201 [vr (some (85, 0)), vi a2, vi a3] S5) (fun x8 S7 =>
         (bI (K 202 [vr (some (85, 0)), vi a2, vi a3] S7) (fun x10 S9 =>
          (bI (K 192 [vl a4, vl x8, vl x10] S9) (fun x12 S11 =>
           (if x12 = 0 then
            some (vi 0, S11)
           else
            (bV (K 262 [vr (some (85, 0)), vi a1, vi a2, vi a3, vi a4] S11) (fun S13 =>
             some (vi 1, S13)))))))))))))))))))) := rfl
set_option maxRecDepth 100000 in
theorem b264_0 (o : AR) (K : KT) (n : Nat) (S : SD) (a1 : Int) (a2 : Int) : run o K false mi_264 (n + 1) 0 [(0, vr (some (85, 0))), (1, vi a1), (2, vi a2)] [] S =
 run o K false mi_264 n 5 [(0, vr (some (85, 0))), (1, vi a1), (2, vi a2), (3, vi (-1)), (4, vi 0)] [] S := rfl
set_option maxRecDepth 100000 in
theorem b264_5 (o : AR) (K : KT) (n : Nat) (S : SD) (l1 : Int) (l2 : Int) (l3 : Int) (l4 : Int) : run o K false mi_264 (n + 1) 5 [(0, vr (some (85, 0))), (1, vi l1), (2, vi l2), (3, vi l3), (4, vi l4)] [] S =
 (if l4 < 8 then
  (if 0 ≤ l1 ∧ l1 < 40 then
   (if 0 ≤ (aw o ((aw o (8 * l4)) + (gD S 92 0 (l1.toNat)))) ∧ (aw o ((aw o (8 * l4)) + (gD S 92 0 (l1.toNat)))) < 64 then
    (if 0 ≤ (aw o ((aw o ((aw o (120 * l4)) + (aw o (3 * l1)))) + l2)) ∧ (aw o ((aw o ((aw o (120 * l4)) + (aw o (3 * l1)))) + l2)) < 960 then
     (if (gD S 139 0 ((aw o ((aw o (8 * l4)) + (gD S 92 0 (l1.toNat)))).toNat)) = 0 then
      run o K false mi_264 n 5 [(0, vr (some (85, 0))), (1, vi l1), (2, vi l2), (3, vi l3), (4, vi (aw o (l4 + 1)))] [] S
     else
      (if (gD S 141 0 ((aw o ((aw o ((aw o (120 * l4)) + (aw o (3 * l1)))) + l2)).toNat)) = 0 then
       run o K false mi_264 n 5 [(0, vr (some (85, 0))), (1, vi l1), (2, vi l2), (3, vi l3), (4, vi (aw o (l4 + 1)))] [] S
      else
       (if l3 < 0 then
        (if 0 < (gD S 139 0 ((aw o ((aw o (8 * l4)) + (gD S 92 0 (l1.toNat)))).toNat)) then
         run o K false mi_264 n 5 [(0, vr (some (85, 0))), (1, vi l1), (2, vi l2), (3, vi l4), (4, vi (aw o (l4 + 1)))] [] S
        else
         (if (gD S 139 0 ((aw o ((aw o (8 * l4)) + (gD S 92 0 (l1.toNat)))).toNat)) = 0 then
          (if 0 ≤ (aw o ((aw o ((aw o (120 * l3)) + (aw o (3 * l1)))) + l2)) ∧ (aw o ((aw o ((aw o (120 * l3)) + (aw o (3 * l1)))) + l2)) < 960 then
           (if (gD S 141 0 ((aw o ((aw o ((aw o (120 * l3)) + (aw o (3 * l1)))) + l2)).toNat)) < (gD S 141 0 ((aw o ((aw o ((aw o (120 * l4)) + (aw o (3 * l1)))) + l2)).toNat)) then
            run o K false mi_264 n 5 [(0, vr (some (85, 0))), (1, vi l1), (2, vi l2), (3, vi l4), (4, vi (aw o (l4 + 1)))] [] S
           else
            run o K false mi_264 n 5 [(0, vr (some (85, 0))), (1, vi l1), (2, vi l2), (3, vi l3), (4, vi (aw o (l4 + 1)))] [] S)
          else none)
         else
          run o K false mi_264 n 5 [(0, vr (some (85, 0))), (1, vi l1), (2, vi l2), (3, vi l3), (4, vi (aw o (l4 + 1)))] [] S))
       else
        (if 0 ≤ l1 ∧ l1 < 40 then
         (if 0 ≤ (aw o ((aw o (8 * l3)) + (gD S 92 0 (l1.toNat)))) ∧ (aw o ((aw o (8 * l3)) + (gD S 92 0 (l1.toNat)))) < 64 then
          (if (gD S 139 0 ((aw o ((aw o (8 * l3)) + (gD S 92 0 (l1.toNat)))).toNat)) < (gD S 139 0 ((aw o ((aw o (8 * l4)) + (gD S 92 0 (l1.toNat)))).toNat)) then
           run o K false mi_264 n 5 [(0, vr (some (85, 0))), (1, vi l1), (2, vi l2), (3, vi l4), (4, vi (aw o (l4 + 1)))] [] S
          else
           (if (gD S 139 0 ((aw o ((aw o (8 * l4)) + (gD S 92 0 (l1.toNat)))).toNat)) = (gD S 139 0 ((aw o ((aw o (8 * l3)) + (gD S 92 0 (l1.toNat)))).toNat)) then
            (if 0 ≤ (aw o ((aw o ((aw o (120 * l3)) + (aw o (3 * l1)))) + l2)) ∧ (aw o ((aw o ((aw o (120 * l3)) + (aw o (3 * l1)))) + l2)) < 960 then
             (if (gD S 141 0 ((aw o ((aw o ((aw o (120 * l3)) + (aw o (3 * l1)))) + l2)).toNat)) < (gD S 141 0 ((aw o ((aw o ((aw o (120 * l4)) + (aw o (3 * l1)))) + l2)).toNat)) then
              run o K false mi_264 n 5 [(0, vr (some (85, 0))), (1, vi l1), (2, vi l2), (3, vi l4), (4, vi (aw o (l4 + 1)))] [] S
             else
              run o K false mi_264 n 5 [(0, vr (some (85, 0))), (1, vi l1), (2, vi l2), (3, vi l3), (4, vi (aw o (l4 + 1)))] [] S)
            else none)
           else
            run o K false mi_264 n 5 [(0, vr (some (85, 0))), (1, vi l1), (2, vi l2), (3, vi l3), (4, vi (aw o (l4 + 1)))] [] S))
         else none)
        else none))))
    else none)
   else none)
  else none)
 else
  some (vi l3, S)) := rfl
set_option maxRecDepth 100000 in
theorem b265_0 (o : AR) (K : KT) (n : Nat) (S : SD) (a1 : Int) (a2 : Int) (a3 : Int) : run o K false mi_265 (n + 1) 0 [(0, vr (some (85, 0))), (1, vi a1), (2, vi a2), (3, vi a3)] [] S =
 (bI (K 197 [vr (some (85, 0)), vi a1] S) (fun x2 S1 =>
  (if x2 = 0 then
   some (vi (-1000000), S1)
  else
   (bI (K 196 [vi a2] S1) (fun x4 S3 =>
    (if x4 = 0 then
     some (vi (-1000000), S3)
    else
     (bI (K 192 [vl a3, vl 0, vl 2] S3) (fun x6 S5 =>
      (if x6 = 0 then
       some (vi (-1000000), S5)
      else
       (bI (K 264 [vr (some (85, 0)), vi a1, vi a2] S5) (fun x8 S7 =>
        (if a3 = 1 then
         some (vi x8, S7)
        else
         (if x8 < 0 then
          (if a3 = 0 then
           some (vi (-1000000), S7)
          else
           (bI (K 218 [vr (some (85, 0)), vi a1, vi a2, vi (gD S7 85 0 0), vi (gD S7 85 0 0)] S7) (fun x10 S9 =>
            some (vi 0, S9))))
         else
          (if 0 ≤ (aw o ((aw o ((aw o (120 * x8)) + (aw o (3 * a1)))) + a2)) ∧ (aw o ((aw o ((aw o (120 * x8)) + (aw o (3 * a1)))) + a2)) < 960 then
           (if a3 = 0 then
            some (vi (gD S7 140 0 ((aw o ((aw o ((aw o (120 * x8)) + (aw o (3 * a1)))) + a2)).toNat)), S7)
           else
            (bI (K 218 [vr (some (85, 0)), vi a1, vi a2, vi (gD S7 85 0 0), vi (gD S7 85 0 0)] S7) (fun x12 S11 =>
             (if (gD S7 140 0 ((aw o ((aw o ((aw o (120 * x8)) + (aw o (3 * a1)))) + a2)).toNat)) = (-1000000) then
              some (vi 0, S11)
             else
              (if x12 = (-1000000) then
               some (vi 0, S11)
              else
               (if (gD S7 140 0 ((aw o ((aw o ((aw o (120 * x8)) + (aw o (3 * a1)))) + a2)).toNat)) = x12 then
                some (vi 0, S11)
               else
                some (vi 1, S11)))))))
          else none)))))))))))))) := rfl
set_option maxRecDepth 100000 in
theorem b266_0 (o : AR) (K : KT) (n : Nat) (S : SD) (a1 : Int) (a2 : Int) (a3 : Int) : run o K false mi_266 (n + 1) 0 [(0, vr (some (85, 0))), (1, vi a1), (2, vi a2), (3, vi a3)] [] S =
 (if 0 ≤ (gD S 85 0 73) ∧ (gD S 85 0 73) < 200 then
  (if 0 ≤ (gD (wD S 142 0 (((gD S 85 0 73)).toNat) a1) 85 0 73) ∧ (gD (wD S 142 0 (((gD S 85 0 73)).toNat) a1) 85 0 73) < 200 then
   (if 0 ≤ (gD (wD (wD S 142 0 (((gD S 85 0 73)).toNat) a1) 143 0 (((gD (wD S 142 0 (((gD S 85 0 73)).toNat) a1) 85 0 73)).toNat) a2) 85 0 73) ∧ (gD (wD (wD S 142 0 (((gD S 85 0 73)).toNat) a1) 143 0 (((gD (wD S 142 0 (((gD S 85 0 73)).toNat) a1) 85 0 73)).toNat) a2) 85 0 73) < 200 then
    (if 0 ≤ (gD (wD (wD (wD S 142 0 (((gD S 85 0 73)).toNat) a1) 143 0 (((gD (wD S 142 0 (((gD S 85 0 73)).toNat) a1) 85 0 73)).toNat) a2) 144 0 (((gD (wD (wD S 142 0 (((gD S 85 0 73)).toNat) a1) 143 0 (((gD (wD S 142 0 (((gD S 85 0 73)).toNat) a1) 85 0 73)).toNat) a2) 85 0 73)).toNat) a3) 85 0 73) ∧ (gD (wD (wD (wD S 142 0 (((gD S 85 0 73)).toNat) a1) 143 0 (((gD (wD S 142 0 (((gD S 85 0 73)).toNat) a1) 85 0 73)).toNat) a2) 144 0 (((gD (wD (wD S 142 0 (((gD S 85 0 73)).toNat) a1) 143 0 (((gD (wD S 142 0 (((gD S 85 0 73)).toNat) a1) 85 0 73)).toNat) a2) 85 0 73)).toNat) a3) 85 0 73) < 200 then
     (if 0 ≤ (gD (wD (wD (wD (wD S 142 0 (((gD S 85 0 73)).toNat) a1) 143 0 (((gD (wD S 142 0 (((gD S 85 0 73)).toNat) a1) 85 0 73)).toNat) a2) 144 0 (((gD (wD (wD S 142 0 (((gD S 85 0 73)).toNat) a1) 143 0 (((gD (wD S 142 0 (((gD S 85 0 73)).toNat) a1) 85 0 73)).toNat) a2) 85 0 73)).toNat) a3) 145 0 (((gD (wD (wD (wD S 142 0 (((gD S 85 0 73)).toNat) a1) 143 0 (((gD (wD S 142 0 (((gD S 85 0 73)).toNat) a1) 85 0 73)).toNat) a2) 144 0 (((gD (wD (wD S 142 0 (((gD S 85 0 73)).toNat) a1) 143 0 (((gD (wD S 142 0 (((gD S 85 0 73)).toNat) a1) 85 0 73)).toNat) a2) 85 0 73)).toNat) a3) 85 0 73)).toNat) 0) 85 0 73) ∧ (gD (wD (wD (wD (wD S 142 0 (((gD S 85 0 73)).toNat) a1) 143 0 (((gD (wD S 142 0 (((gD S 85 0 73)).toNat) a1) 85 0 73)).toNat) a2) 144 0 (((gD (wD (wD S 142 0 (((gD S 85 0 73)).toNat) a1) 143 0 (((gD (wD S 142 0 (((gD S 85 0 73)).toNat) a1) 85 0 73)).toNat) a2) 85 0 73)).toNat) a3) 145 0 (((gD (wD (wD (wD S 142 0 (((gD S 85 0 73)).toNat) a1) 143 0 (((gD (wD S 142 0 (((gD S 85 0 73)).toNat) a1) 85 0 73)).toNat) a2) 144 0 (((gD (wD (wD S 142 0 (((gD S 85 0 73)).toNat) a1) 143 0 (((gD (wD S 142 0 (((gD S 85 0 73)).toNat) a1) 85 0 73)).toNat) a2) 85 0 73)).toNat) a3) 85 0 73)).toNat) 0) 85 0 73) < 200 then
      some (vi (aw o ((gD (wD (wD (wD (wD (wD (wD S 142 0 (((gD S 85 0 73)).toNat) a1) 143 0 (((gD (wD S 142 0 (((gD S 85 0 73)).toNat) a1) 85 0 73)).toNat) a2) 144 0 (((gD (wD (wD S 142 0 (((gD S 85 0 73)).toNat) a1) 143 0 (((gD (wD S 142 0 (((gD S 85 0 73)).toNat) a1) 85 0 73)).toNat) a2) 85 0 73)).toNat) a3) 145 0 (((gD (wD (wD (wD S 142 0 (((gD S 85 0 73)).toNat) a1) 143 0 (((gD (wD S 142 0 (((gD S 85 0 73)).toNat) a1) 85 0 73)).toNat) a2) 144 0 (((gD (wD (wD S 142 0 (((gD S 85 0 73)).toNat) a1) 143 0 (((gD (wD S 142 0 (((gD S 85 0 73)).toNat) a1) 85 0 73)).toNat) a2) 85 0 73)).toNat) a3) 85 0 73)).toNat) 0) 146 0 (((gD (wD (wD (wD (wD S 142 0 (((gD S 85 0 73)).toNat) a1) 143 0 (((gD (wD S 142 0 (((gD S 85 0 73)).toNat) a1) 85 0 73)).toNat) a2) 144 0 (((gD (wD (wD S 142 0 (((gD S 85 0 73)).toNat) a1) 143 0 (((gD (wD S 142 0 (((gD S 85 0 73)).toNat) a1) 85 0 73)).toNat) a2) 85 0 73)).toNat) a3) 145 0 (((gD (wD (wD (wD S 142 0 (((gD S 85 0 73)).toNat) a1) 143 0 (((gD (wD S 142 0 (((gD S 85 0 73)).toNat) a1) 85 0 73)).toNat) a2) 144 0 (((gD (wD (wD S 142 0 (((gD S 85 0 73)).toNat) a1) 143 0 (((gD (wD S 142 0 (((gD S 85 0 73)).toNat) a1) 85 0 73)).toNat) a2) 85 0 73)).toNat) a3) 85 0 73)).toNat) 0) 85 0 73)).toNat) 0) 85 0 73 (aw o ((gD (wD (wD (wD (wD (wD S 142 0 (((gD S 85 0 73)).toNat) a1) 143 0 (((gD (wD S 142 0 (((gD S 85 0 73)).toNat) a1) 85 0 73)).toNat) a2) 144 0 (((gD (wD (wD S 142 0 (((gD S 85 0 73)).toNat) a1) 143 0 (((gD (wD S 142 0 (((gD S 85 0 73)).toNat) a1) 85 0 73)).toNat) a2) 85 0 73)).toNat) a3) 145 0 (((gD (wD (wD (wD S 142 0 (((gD S 85 0 73)).toNat) a1) 143 0 (((gD (wD S 142 0 (((gD S 85 0 73)).toNat) a1) 85 0 73)).toNat) a2) 144 0 (((gD (wD (wD S 142 0 (((gD S 85 0 73)).toNat) a1) 143 0 (((gD (wD S 142 0 (((gD S 85 0 73)).toNat) a1) 85 0 73)).toNat) a2) 85 0 73)).toNat) a3) 85 0 73)).toNat) 0) 146 0 (((gD (wD (wD (wD (wD S 142 0 (((gD S 85 0 73)).toNat) a1) 143 0 (((gD (wD S 142 0 (((gD S 85 0 73)).toNat) a1) 85 0 73)).toNat) a2) 144 0 (((gD (wD (wD S 142 0 (((gD S 85 0 73)).toNat) a1) 143 0 (((gD (wD S 142 0 (((gD S 85 0 73)).toNat) a1) 85 0 73)).toNat) a2) 85 0 73)).toNat) a3) 145 0 (((gD (wD (wD (wD S 142 0 (((gD S 85 0 73)).toNat) a1) 143 0 (((gD (wD S 142 0 (((gD S 85 0 73)).toNat) a1) 85 0 73)).toNat) a2) 144 0 (((gD (wD (wD S 142 0 (((gD S 85 0 73)).toNat) a1) 143 0 (((gD (wD S 142 0 (((gD S 85 0 73)).toNat) a1) 85 0 73)).toNat) a2) 85 0 73)).toNat) a3) 85 0 73)).toNat) 0) 85 0 73)).toNat) 0) 85 0 73) + 1))) 85 0 73) - 1)), wD (wD (wD (wD (wD (wD S 142 0 (((gD S 85 0 73)).toNat) a1) 143 0 (((gD (wD S 142 0 (((gD S 85 0 73)).toNat) a1) 85 0 73)).toNat) a2) 144 0 (((gD (wD (wD S 142 0 (((gD S 85 0 73)).toNat) a1) 143 0 (((gD (wD S 142 0 (((gD S 85 0 73)).toNat) a1) 85 0 73)).toNat) a2) 85 0 73)).toNat) a3) 145 0 (((gD (wD (wD (wD S 142 0 (((gD S 85 0 73)).toNat) a1) 143 0 (((gD (wD S 142 0 (((gD S 85 0 73)).toNat) a1) 85 0 73)).toNat) a2) 144 0 (((gD (wD (wD S 142 0 (((gD S 85 0 73)).toNat) a1) 143 0 (((gD (wD S 142 0 (((gD S 85 0 73)).toNat) a1) 85 0 73)).toNat) a2) 85 0 73)).toNat) a3) 85 0 73)).toNat) 0) 146 0 (((gD (wD (wD (wD (wD S 142 0 (((gD S 85 0 73)).toNat) a1) 143 0 (((gD (wD S 142 0 (((gD S 85 0 73)).toNat) a1) 85 0 73)).toNat) a2) 144 0 (((gD (wD (wD S 142 0 (((gD S 85 0 73)).toNat) a1) 143 0 (((gD (wD S 142 0 (((gD S 85 0 73)).toNat) a1) 85 0 73)).toNat) a2) 85 0 73)).toNat) a3) 145 0 (((gD (wD (wD (wD S 142 0 (((gD S 85 0 73)).toNat) a1) 143 0 (((gD (wD S 142 0 (((gD S 85 0 73)).toNat) a1) 85 0 73)).toNat) a2) 144 0 (((gD (wD (wD S 142 0 (((gD S 85 0 73)).toNat) a1) 143 0 (((gD (wD S 142 0 (((gD S 85 0 73)).toNat) a1) 85 0 73)).toNat) a2) 85 0 73)).toNat) a3) 85 0 73)).toNat) 0) 85 0 73)).toNat) 0) 85 0 73 (aw o ((gD (wD (wD (wD (wD (wD S 142 0 (((gD S 85 0 73)).toNat) a1) 143 0 (((gD (wD S 142 0 (((gD S 85 0 73)).toNat) a1) 85 0 73)).toNat) a2) 144 0 (((gD (wD (wD S 142 0 (((gD S 85 0 73)).toNat) a1) 143 0 (((gD (wD S 142 0 (((gD S 85 0 73)).toNat) a1) 85 0 73)).toNat) a2) 85 0 73)).toNat) a3) 145 0 (((gD (wD (wD (wD S 142 0 (((gD S 85 0 73)).toNat) a1) 143 0 (((gD (wD S 142 0 (((gD S 85 0 73)).toNat) a1) 85 0 73)).toNat) a2) 144 0 (((gD (wD (wD S 142 0 (((gD S 85 0 73)).toNat) a1) 143 0 (((gD (wD S 142 0 (((gD S 85 0 73)).toNat) a1) 85 0 73)).toNat) a2) 85 0 73)).toNat) a3) 85 0 73)).toNat) 0) 146 0 (((gD (wD (wD (wD (wD S 142 0 (((gD S 85 0 73)).toNat) a1) 143 0 (((gD (wD S 142 0 (((gD S 85 0 73)).toNat) a1) 85 0 73)).toNat) a2) 144 0 (((gD (wD (wD S 142 0 (((gD S 85 0 73)).toNat) a1) 143 0 (((gD (wD S 142 0 (((gD S 85 0 73)).toNat) a1) 85 0 73)).toNat) a2) 85 0 73)).toNat) a3) 145 0 (((gD (wD (wD (wD S 142 0 (((gD S 85 0 73)).toNat) a1) 143 0 (((gD (wD S 142 0 (((gD S 85 0 73)).toNat) a1) 85 0 73)).toNat) a2) 144 0 (((gD (wD (wD S 142 0 (((gD S 85 0 73)).toNat) a1) 143 0 (((gD (wD S 142 0 (((gD S 85 0 73)).toNat) a1) 85 0 73)).toNat) a2) 85 0 73)).toNat) a3) 85 0 73)).toNat) 0) 85 0 73)).toNat) 0) 85 0 73) + 1)))
     else none)
    else none)
   else none)
  else none)
 else none) := rfl
set_option maxRecDepth 100000 in
theorem b267_0 (o : AR) (K : KT) (n : Nat) (S : SD) (a1 : Int) (a2 : Int) (a3 : Int) : run o K false mi_267 (n + 1) 0 [(0, vr (some (85, 0))), (1, vi a1), (2, vi a2), (3, vi a3)] [] S =
 (if (gD S 85 0 73) = 200 then
  some (vi (-1), S)
 else
  (bI (K 197 [vr (some (85, 0)), vi a1] S) (fun x2 S1 =>
   (if x2 = 0 then
    some (vi (-1), S1)
   else
    (bI (K 192 [vl a2, vl 1, vl 60] S1) (fun x4 S3 =>
     (if x4 = 0 then
      some (vi (-1), S3)
     else
      (bI (K 192 [vl a3, vl (gD S3 85 0 0), vl 3999] S3) (fun x6 S5 =>
       (if x6 = 0 then
        some (vi (-1), S5)
       else
        (bI (K 266 [vr (some (85, 0)), vi a1, vi a2, vi a3] S5) (fun x8 S7 =>
         some (vi x8, S7))))))))))))) := rfl
set_option maxRecDepth 100000 in
theorem b268_0 (o : AR) (K : KT) (n : Nat) (S : SD) (a1 : Int) : run o K false mi_268 (n + 1) 0 [(0, vr (some (85, 0))), (1, vi a1)] [] S =
 (if 0 ≤ a1 ∧ a1 < 200 then
  (if (gD S 145 0 (a1.toNat)) < 2 then
   (if 0 ≤ a1 ∧ a1 < 200 then
    (if (gD S 144 0 (a1.toNat)) < (gD S 85 0 0) then
     some (vi (aw o ((gD S 145 0 (a1.toNat)) + 4)), S)
    else
     some (vi (gD S 145 0 (a1.toNat)), S))
   else none)
  else
   some (vi (gD S 145 0 (a1.toNat)), S))
 else none) := rfl
set_option maxRecDepth 100000 in
theorem b269_0 (o : AR) (K : KT) (n : Nat) (S : SD) (a1 : Int) : run o K false mi_269 (n + 1) 0 [(0, vr (some (85, 0))), (1, vi a1)] [] S =
 run o K false mi_269 n 4 [(0, vr (some (85, 0))), (1, vi a1), (2, vi 0), (3, vi 0)] [] S := rfl
set_option maxRecDepth 100000 in
theorem b269_4 (o : AR) (K : KT) (n : Nat) (S : SD) (l1 : Int) (l2 : Int) (l3 : Int) : run o K false mi_269 (n + 1) 4 [(0, vr (some (85, 0))), (1, vi l1), (2, vi l2), (3, vi l3)] [] S =
 (if l3 < (gD S 85 0 73) then
  (if 0 ≤ l3 ∧ l3 < 200 then
   (if (gD S 142 0 (l3.toNat)) = l1 then
    (bI (K 268 [vr (some (85, 0)), vi l3] S) (fun x2 S1 =>
     (if 1 < x2 then
      run o K false mi_269 n 4 [(0, vr (some (85, 0))), (1, vi l1), (2, vi l2), (3, vi (aw o (l3 + 1)))] [] S1
     else
      (if 0 ≤ l3 ∧ l3 < 200 then
       (if 0 ≤ l3 ∧ l3 < 200 then
        (if 0 ≤ l3 ∧ l3 < 200 then
         run o K false mi_269 n 4 [(0, vr (some (85, 0))), (1, vi l1), (2, vi (aw o (l2 + 1))), (3, vi (aw o (l3 + 1)))] [] (wD (wD S1 145 0 ((l3).toNat) 1) 146 0 ((l3).toNat) (aw o ((gD (wD S1 145 0 ((l3).toNat) 1) 146 0 (l3.toNat)) + 1)))
        else none)
       else none)
      else none))))
   else
    run o K false mi_269 n 4 [(0, vr (some (85, 0))), (1, vi l1), (2, vi l2), (3, vi (aw o (l3 + 1)))] [] S)
  else none)
 else
  some (vi l2, S)) := rfl
set_option maxRecDepth 100000 in
theorem b270_0 (o : AR) (K : KT) (n : Nat) (S : SD) (a1 : Int) : run o K false mi_270 (n + 1) 0 [(0, vr (some (85, 0))), (1, vi a1)] [] S =
 (bI (K 197 [vr (some (85, 0)), vi a1] S) (fun x2 S1 =>
  (if x2 = 0 then
   some (vi (-1), S1)
  else
   (bI (K 269 [vr (some (85, 0)), vi a1] S1) (fun x4 S3 =>
    some (vi x4, S3)))))) := rfl
set_option maxRecDepth 100000 in
theorem b271_0 (o : AR) (K : KT) (n : Nat) (S : SD) (a1 : Int) (a2 : Int) : run o K false mi_271 (n + 1) 0 [(0, vr (some (85, 0))), (1, vi a1), (2, vi a2)] [] S =
 (bI (K 192 [vl a1, vl 0, vl (aw o ((gD S 85 0 73) - 1))] S) (fun x2 S1 =>
  (if x2 = 0 then
   some (vi 0, S1)
  else
   (bI (K 268 [vr (some (85, 0)), vi a1] S1) (fun x4 S3 =>
    (if x4 = 1 then
     (if a2 = 0 then
      (if 0 ≤ a1 ∧ a1 < 200 then
       some (vi 1, wD S3 145 0 ((a1).toNat) 3)
      else none)
     else
      (if 0 ≤ a1 ∧ a1 < 200 then
       some (vi 1, wD S3 145 0 ((a1).toNat) 2)
      else none))
    else
     (bI (K 268 [vr (some (85, 0)), vi a1] S3) (fun x6 S5 =>
      (if x6 = 5 then
       (if a2 = 0 then
        (if 0 ≤ a1 ∧ a1 < 200 then
         some (vi 1, wD S5 145 0 ((a1).toNat) 3)
        else none)
       else
        (if 0 ≤ a1 ∧ a1 < 200 then
         some (vi 1, wD S5 145 0 ((a1).toNat) 2)
        else none))
      else
       some (vi 0, S5)))))))))) := rfl
set_option maxRecDepth 100000 in
theorem b272_0 (o : AR) (K : KT) (n : Nat) (S : SD) (a1 : Int) (a2 : Int) : run o K false mi_272 (n + 1) 0 [(0, vr (some (85, 0))), (1, vi a1), (2, vi a2)] [] S =
 (bI (K 192 [vl a1, vl 0, vl (aw o ((gD S 85 0 73) - 1))] S) (fun x2 S1 =>
  (if x2 = 0 then
   some (vi (-1), S1)
  else
   (if a2 = 0 then
    (if 0 ≤ a1 ∧ a1 < 200 then
     some (vi (gD S1 142 0 (a1.toNat)), S1)
    else none)
   else (if a2 = 1 then
    (if 0 ≤ a1 ∧ a1 < 200 then
     some (vi (gD S1 143 0 (a1.toNat)), S1)
    else none)
   else (if a2 = 2 then
    (if 0 ≤ a1 ∧ a1 < 200 then
     some (vi (gD S1 144 0 (a1.toNat)), S1)
    else none)
   else (if a2 = 3 then
    (bI (K 268 [vr (some (85, 0)), vi a1] S1) (fun x4 S3 =>
     some (vi x4, S3)))
   else (if a2 = 4 then
    (if 0 ≤ a1 ∧ a1 < 200 then
     some (vi (gD S1 146 0 (a1.toNat)), S1)
    else none)
   else 
    some (vi (-1), S1))))))))) := rfl
set_option maxRecDepth 100000 in
theorem b273_0 (o : AR) (K : KT) (n : Nat) (S : SD) (a1 : Int) : run o K false mi_273 (n + 1) 0 [(0, vr (some (85, 0))), (1, vi a1)] [] S =
 (if 0 ≤ a1 ∧ a1 < 20 then
  (if (gD S 119 0 (a1.toNat)) = 0 then
   some (vi 0, S)
  else
   (if 0 ≤ a1 ∧ a1 < 20 then
    (if (gD S 116 0 (a1.toNat)) = 0 then
     run o K false mi_273 n 22 [(0, vr (some (85, 0))), (1, vi a1), (2, vi 0)] [] S
    else
     some (vi 0, S))
   else none))
 else none) := rfl
set_option maxRecDepth 100000 in
theorem b273_22 (o : AR) (K : KT) (n : Nat) (S : SD) (l1 : Int) (l2 : Int) : run o K false mi_273 (n + 1) 22 [(0, vr (some (85, 0))), (1, vi l1), (2, vi l2)] [] S =
 (if 0 ≤ l1 ∧ l1 < 20 then
  (if l2 < (gD S 123 0 (l1.toNat)) then
   (if 0 ≤ (aw o ((aw o (16 * l1)) + l2)) ∧ (aw o ((aw o (16 * l1)) + l2)) < 320 then
    (if (gD S 127 0 ((aw o ((aw o (16 * l1)) + l2)).toNat)) = 0 then
     run o K false mi_273 n 22 [(0, vr (some (85, 0))), (1, vi l1), (2, vi (aw o (l2 + 1)))] [] S
    else
     some (vi 0, S))
   else none)
  else
   some (vi 1, S))
 else none) := rfl
set_option maxRecDepth 100000 in
theorem b274_0 (o : AR) (K : KT) (n : Nat) (S : SD) : run o K false mi_274 (n + 1) 0 [(0, vr (some (85, 0)))] [] S =
 run o K false mi_274 n 7 [(0, vr (some (85, 0))), (1, vi 0)] [] (wD S 85 0 79 0) := rfl
set_option maxRecDepth 100000 in
theorem b274_7 (o : AR) (K : KT) (n : Nat) (S : SD) (l1 : Int) : run o K false mi_274 (n + 1) 7 [(0, vr (some (85, 0))), (1, vi l1)] [] S =
 (if l1 < (gD S 85 0 6) then
  run o K false mi_274 n 17 [(0, vr (some (85, 0))), (1, vi l1), (2, vi 0)] [] S
 else
  some (vi 1, S)) := rfl
set_option maxRecDepth 100000 in
theorem b274_17 (o : AR) (K : KT) (n : Nat) (S : SD) (l1 : Int) (l2 : Int) : run o K false mi_274 (n + 1) 17 [(0, vr (some (85, 0))), (1, vi l1), (2, vi l2)] [] S =
 (if l2 < 3 then
  run o K false mi_274 n 27 [(0, vr (some (85, 0))), (1, vi l1), (2, vi l2), (3, vi 0), (4, vi 0)] [] S
 else
  run o K false mi_274 n 7 [(0, vr (some (85, 0))), (1, vi (aw o (l1 + 1)))] [] S) := rfl
set_option maxRecDepth 100000 in
theorem b274_27 (o : AR) (K : KT) (n : Nat) (S : SD) (l1 : Int) (l2 : Int) (l3 : Int) (l4 : Int) : run o K false mi_274 (n + 1) 27 [(0, vr (some (85, 0))), (1, vi l1), (2, vi l2), (3, vi l3), (4, vi l4)] [] S =
 (if l4 < (gD S 85 0 90) then
  (if 0 ≤ l4 ∧ l4 < 20 then
   run o K false mi_274 n 48 [(0, vr (some (85, 0))), (1, vi l1), (2, vi l2), (3, vi l3), (4, vi l4), (5, vi (aw o (16 * (gD S 156 0 (l4.toNat)))))] [] S
  else none)
 else
  (if l3 = 0 then
   run o K false mi_274 n 17 [(0, vr (some (85, 0))), (1, vi l1), (2, vi (aw o (l2 + 1)))] [] S
  else
   (if (gD S 85 0 79) = 12 then
    some (vi 0, S)
   else
    (if 0 ≤ (gD S 85 0 79) ∧ (gD S 85 0 79) < 12 then
     (if 0 ≤ (gD (wD S 147 0 (((gD S 85 0 79)).toNat) l1) 85 0 79) ∧ (gD (wD S 147 0 (((gD S 85 0 79)).toNat) l1) 85 0 79) < 12 then
      run o K false mi_274 n 17 [(0, vr (some (85, 0))), (1, vi l1), (2, vi (aw o (l2 + 1)))] [] (wD (wD (wD S 147 0 (((gD S 85 0 79)).toNat) l1) 148 0 (((gD (wD S 147 0 (((gD S 85 0 79)).toNat) l1) 85 0 79)).toNat) l2) 85 0 79 (aw o ((gD (wD (wD S 147 0 (((gD S 85 0 79)).toNat) l1) 148 0 (((gD (wD S 147 0 (((gD S 85 0 79)).toNat) l1) 85 0 79)).toNat) l2) 85 0 79) + 1)))
     else none)
    else none)))) := rfl
set_option maxRecDepth 100000 in
theorem b274_48 (o : AR) (K : KT) (n : Nat) (S : SD) (l1 : Int) (l2 : Int) (l3 : Int) (l4 : Int) (l5 : Int) : run o K false mi_274 (n + 1) 48 [(0, vr (some (85, 0))), (1, vi l1), (2, vi l2), (3, vi l3), (4, vi l4), (5, vi l5)] [] S =
 (if 0 ≤ l4 ∧ l4 < 20 then
  (if 0 ≤ l4 ∧ l4 < 20 then
   (if 0 ≤ (gD S 156 0 (l4.toNat)) ∧ (gD S 156 0 (l4.toNat)) < 20 then
    (if l5 < (aw o ((aw o (16 * (gD S 156 0 (l4.toNat)))) + (gD S 123 0 ((gD S 156 0 (l4.toNat)).toNat)))) then
     (if 0 ≤ l5 ∧ l5 < 320 then
      (if (gD S 128 0 (l5.toNat)) = l1 then
       (if 0 ≤ l5 ∧ l5 < 320 then
        (if (gD S 129 0 (l5.toNat)) = l2 then
         (if 0 ≤ l5 ∧ l5 < 320 then
          run o K false mi_274 n 48 [(0, vr (some (85, 0))), (1, vi l1), (2, vi l2), (3, vi 1), (4, vi l4), (5, vi (aw o (l5 + 1)))] [] (wD S 149 0 ((l5).toNat) (gD S 85 0 79))
         else none)
        else
         run o K false mi_274 n 48 [(0, vr (some (85, 0))), (1, vi l1), (2, vi l2), (3, vi l3), (4, vi l4), (5, vi (aw o (l5 + 1)))] [] S)
       else none)
      else
       run o K false mi_274 n 48 [(0, vr (some (85, 0))), (1, vi l1), (2, vi l2), (3, vi l3), (4, vi l4), (5, vi (aw o (l5 + 1)))] [] S)
     else none)
    else
     run o K false mi_274 n 27 [(0, vr (some (85, 0))), (1, vi l1), (2, vi l2), (3, vi l3), (4, vi (aw o (l4 + 1)))] [] S)
   else none)
  else none)
 else none) := rfl
set_option maxRecDepth 100000 in
theorem b275_0 (o : AR) (K : KT) (n : Nat) (S : SD) (a1 : Int) (a2 : Int) : run o K false mi_275 (n + 1) 0 [(0, vr (some (85, 0))), (1, vi a1), (2, vi a2)] [] S =
 (if 0 ≤ a1 ∧ a1 < 12 then
  (if 0 ≤ a1 ∧ a1 < 12 then
   (bI (K 201 [vr (some (85, 0)), vi (gD S 147 0 (a1.toNat)), vi (gD S 148 0 (a1.toNat))] S) (fun x2 S1 =>
    (if 0 ≤ a1 ∧ a1 < 12 then
     (bI (K 202 [vr (some (85, 0)), vi (gD S 147 0 (a1.toNat)), vi (gD S1 148 0 (a1.toNat))] S1) (fun x4 S3 =>
      (bI (K 192 [vl a2, vl x2, vl x4] S3) (fun x6 S5 =>
       (if x6 = 0 then
        some (vi 0, S5)
       else
        (if 0 ≤ a1 ∧ a1 < 12 then
         run o K false mi_275 n 48 [(0, vr (some (85, 0))), (1, vi a1), (2, vi a2), (4, vi (gD S5 150 0 (a1.toNat)))] [] S5
        else none))))))
    else none)))
  else none)
 else none) := rfl
set_option maxRecDepth 100000 in
theorem b275_48 (o : AR) (K : KT) (n : Nat) (S : SD) (l1 : Int) (l2 : Int) (l4 : Int) : run o K false mi_275 (n + 1) 48 [(0, vr (some (85, 0))), (1, vi l1), (2, vi l2), (4, vi l4)] [] S =
 (if 0 < l4 then
  (if 0 ≤ (aw o ((aw o ((aw o (1000 * l1)) + l4)) - 1)) ∧ (aw o ((aw o ((aw o (1000 * l1)) + l4)) - 1)) < 12000 then
   (if l2 < (gD S 151 0 ((aw o ((aw o ((aw o (1000 * l1)) + l4)) - 1)).toNat)) then
    run o K false mi_275 n 48 [(0, vr (some (85, 0))), (1, vi l1), (2, vi l2), (4, vi (aw o (l4 + (-1))))] [] S
   else
    (if 0 < l4 then
     (if 0 ≤ (aw o ((aw o ((aw o (1000 * l1)) + l4)) - 1)) ∧ (aw o ((aw o ((aw o (1000 * l1)) + l4)) - 1)) < 12000 then
      (if (gD S 151 0 ((aw o ((aw o ((aw o (1000 * l1)) + l4)) - 1)).toNat)) = l2 then
       some (vi 0, S)
      else
       (if 0 ≤ l1 ∧ l1 < 12 then
        run o K false mi_275 n 111 [(0, vr (some (85, 0))), (1, vi l1), (2, vi l2), (4, vi l4), (5, vi (gD S 150 0 (l1.toNat)))] [] S
       else none))
     else none)
    else
     (if 0 ≤ l1 ∧ l1 < 12 then
      run o K false mi_275 n 111 [(0, vr (some (85, 0))), (1, vi l1), (2, vi l2), (4, vi l4), (5, vi (gD S 150 0 (l1.toNat)))] [] S
     else none)))
  else none)
 else
  (if 0 < l4 then
   (if 0 ≤ (aw o ((aw o ((aw o (1000 * l1)) + l4)) - 1)) ∧ (aw o ((aw o ((aw o (1000 * l1)) + l4)) - 1)) < 12000 then
    (if (gD S 151 0 ((aw o ((aw o ((aw o (1000 * l1)) + l4)) - 1)).toNat)) = l2 then
     some (vi 0, S)
    else
     (if 0 ≤ l1 ∧ l1 < 12 then
      run o K false mi_275 n 111 [(0, vr (some (85, 0))), (1, vi l1), (2, vi l2), (4, vi l4), (5, vi (gD S 150 0 (l1.toNat)))] [] S
     else none))
   else none)
  else
   (if 0 ≤ l1 ∧ l1 < 12 then
    run o K false mi_275 n 111 [(0, vr (some (85, 0))), (1, vi l1), (2, vi l2), (4, vi l4), (5, vi (gD S 150 0 (l1.toNat)))] [] S
   else none))) := rfl
set_option maxRecDepth 100000 in
theorem b275_111 (o : AR) (K : KT) (n : Nat) (S : SD) (l1 : Int) (l2 : Int) (l4 : Int) (l5 : Int) : run o K false mi_275 (n + 1) 111 [(0, vr (some (85, 0))), (1, vi l1), (2, vi l2), (4, vi l4), (5, vi l5)] [] S =
 (if l4 < l5 then
  (if 0 ≤ (aw o ((aw o ((aw o (1000 * l1)) + l5)) - 1)) ∧ (aw o ((aw o ((aw o (1000 * l1)) + l5)) - 1)) < 12000 then
   (if 0 ≤ (aw o ((aw o (1000 * l1)) + l5)) ∧ (aw o ((aw o (1000 * l1)) + l5)) < 12000 then
    run o K false mi_275 n 111 [(0, vr (some (85, 0))), (1, vi l1), (2, vi l2), (4, vi l4), (5, vi (aw o (l5 + (-1))))] [] (wD S 151 0 (((aw o ((aw o (1000 * l1)) + l5))).toNat) (gD S 151 0 ((aw o ((aw o ((aw o (1000 * l1)) + l5)) - 1)).toNat)))
   else none)
  else none)
 else
  (if 0 ≤ (aw o ((aw o (1000 * l1)) + l4)) ∧ (aw o ((aw o (1000 * l1)) + l4)) < 12000 then
   (if 0 ≤ l1 ∧ l1 < 12 then
    (if 0 ≤ l1 ∧ l1 < 12 then
     some (vi 0, wD (wD S 151 0 (((aw o ((aw o (1000 * l1)) + l4))).toNat) l2) 150 0 ((l1).toNat) (aw o ((gD (wD S 151 0 (((aw o ((aw o (1000 * l1)) + l4))).toNat) l2) 150 0 (l1.toNat)) + 1)))
    else none)
   else none)
  else none)) := rfl
set_option maxRecDepth 100000 in
theorem b276_0 (o : AR) (K : KT) (n : Nat) (S : SD) : run o K false mi_276 (n + 1) 0 [(0, vr (some (85, 0)))] [] S =
 run o K false mi_276 n 4 [(0, vr (some (85, 0))), (1, vi 1), (2, vi 0)] [] S := rfl
set_option maxRecDepth 100000 in
theorem b276_4 (o : AR) (K : KT) (n : Nat) (S : SD) (l1 : Int) (l2 : Int) : run o K false mi_276 (n + 1) 4 [(0, vr (some (85, 0))), (1, vi l1), (2, vi l2)] [] S =
 (if l2 < (gD S 85 0 79) then
  (if 0 ≤ l2 ∧ l2 < 12 then
   (if 0 ≤ l2 ∧ l2 < 12 then
    (if 0 ≤ l2 ∧ l2 < 12 then
     (bI (K 201 [vr (some (85, 0)), vi (gD (wD S 150 0 ((l2).toNat) 0) 147 0 (l2.toNat)), vi (gD (wD S 150 0 ((l2).toNat) 0) 148 0 (l2.toNat))] (wD S 150 0 ((l2).toNat) 0)) (fun x2 S1 =>
      (bV (K 275 [vr (some (85, 0)), vi l2, vi x2] S1) (fun S3 =>
       (if 0 ≤ l2 ∧ l2 < 12 then
        (if 0 ≤ l2 ∧ l2 < 12 then
         (bI (K 202 [vr (some (85, 0)), vi (gD S3 147 0 (l2.toNat)), vi (gD S3 148 0 (l2.toNat))] S3) (fun x5 S4 =>
          (bV (K 275 [vr (some (85, 0)), vi l2, vi x5] S4) (fun S6 =>
           run o K false mi_276 n 63 [(0, vr (some (85, 0))), (1, vi l1), (2, vi l2), (3, vi 0)] [] S6))))
        else none)
       else none)))))
    else none)
   else none)
  else none)
 else
  some (vi l1, S)) := rfl
set_option maxRecDepth 100000 in
theorem b276_63 (o : AR) (K : KT) (n : Nat) (S : SD) (l1 : Int) (l2 : Int) (l3 : Int) : run o K false mi_276 (n + 1) 63 [(0, vr (some (85, 0))), (1, vi l1), (2, vi l2), (3, vi l3)] [] S =
 (if l3 < (gD S 85 0 90) then
  (if 0 ≤ l3 ∧ l3 < 20 then
   run o K false mi_276 n 82 [(0, vr (some (85, 0))), (1, vi l1), (2, vi l2), (3, vi l3), (4, vi (aw o (16 * (gD S 156 0 (l3.toNat)))))] [] S
  else none)
 else
  (if 0 ≤ l2 ∧ l2 < 12 then
   (bI (K 194 [vi 20001, vi (aw o (l1 * (gD S 150 0 (l2.toNat))))] S) (fun x2 S1 =>
    run o K false mi_276 n 4 [(0, vr (some (85, 0))), (1, vi x2), (2, vi (aw o (l2 + 1)))] [] S1))
  else none)) := rfl
set_option maxRecDepth 100000 in
theorem b276_82 (o : AR) (K : KT) (n : Nat) (S : SD) (l1 : Int) (l2 : Int) (l3 : Int) (l4 : Int) : run o K false mi_276 (n + 1) 82 [(0, vr (some (85, 0))), (1, vi l1), (2, vi l2), (3, vi l3), (4, vi l4)] [] S =
 (if 0 ≤ l3 ∧ l3 < 20 then
  (if 0 ≤ l3 ∧ l3 < 20 then
   (if 0 ≤ (gD S 156 0 (l3.toNat)) ∧ (gD S 156 0 (l3.toNat)) < 20 then
    (if l4 < (aw o ((aw o (16 * (gD S 156 0 (l3.toNat)))) + (gD S 123 0 ((gD S 156 0 (l3.toNat)).toNat)))) then
     (if 0 ≤ l4 ∧ l4 < 320 then
      (if (gD S 149 0 (l4.toNat)) = l2 then
       (if 0 ≤ l4 ∧ l4 < 320 then
        (if 0 ≤ l2 ∧ l2 < 12 then
         (if (gD S 128 0 (l4.toNat)) = (gD S 147 0 (l2.toNat)) then
          (if 0 ≤ l4 ∧ l4 < 320 then
           (if 0 ≤ l2 ∧ l2 < 12 then
            (if (gD S 129 0 (l4.toNat)) = (gD S 148 0 (l2.toNat)) then
             run o K false mi_276 n 157 [(0, vr (some (85, 0))), (1, vi l1), (2, vi l2), (3, vi l3), (4, vi l4), (5, vi (-1))] [] S
            else
             run o K false mi_276 n 82 [(0, vr (some (85, 0))), (1, vi l1), (2, vi l2), (3, vi l3), (4, vi (aw o (l4 + 1)))] [] S)
           else none)
          else none)
         else
          run o K false mi_276 n 82 [(0, vr (some (85, 0))), (1, vi l1), (2, vi l2), (3, vi l3), (4, vi (aw o (l4 + 1)))] [] S)
        else none)
       else none)
      else
       run o K false mi_276 n 82 [(0, vr (some (85, 0))), (1, vi l1), (2, vi l2), (3, vi l3), (4, vi (aw o (l4 + 1)))] [] S)
     else none)
    else
     run o K false mi_276 n 63 [(0, vr (some (85, 0))), (1, vi l1), (2, vi l2), (3, vi (aw o (l3 + 1)))] [] S)
   else none)
  else none)
 else none) := rfl
set_option maxRecDepth 100000 in
theorem b276_157 (o : AR) (K : KT) (n : Nat) (S : SD) (l1 : Int) (l2 : Int) (l3 : Int) (l4 : Int) (l5 : Int) : run o K false mi_276 (n + 1) 157 [(0, vr (some (85, 0))), (1, vi l1), (2, vi l2), (3, vi l3), (4, vi l4), (5, vi l5)] [] S =
 (if 1 < l5 then
  run o K false mi_276 n 82 [(0, vr (some (85, 0))), (1, vi l1), (2, vi l2), (3, vi l3), (4, vi (aw o (l4 + 1)))] [] S
 else
  (if 0 ≤ l4 ∧ l4 < 320 then
   (bV (K 275 [vr (some (85, 0)), vi l2, vi (aw o ((gD S 132 0 (l4.toNat)) + l5))] S) (fun S1 =>
    run o K false mi_276 n 157 [(0, vr (some (85, 0))), (1, vi l1), (2, vi l2), (3, vi l3), (4, vi l4), (5, vi (aw o (l5 + 1)))] [] S1))
  else none)) := rfl
set_option maxRecDepth 100000 in
theorem b277_0 (o : AR) (K : KT) (n : Nat) (S : SD) (a1 : Int) : run o K false mi_277 (n + 1) 0 [(0, vr (some (85, 0))), (1, vi a1)] [] S =
 run o K false mi_277 n 9 [(0, vr (some (85, 0))), (2, vi a1), (3, vi (aw o ((gD S 85 0 79) - 1)))] [] S := rfl
set_option maxRecDepth 100000 in
theorem b277_9 (o : AR) (K : KT) (n : Nat) (S : SD) (l2 : Int) (l3 : Int) : run o K false mi_277 (n + 1) 9 [(0, vr (some (85, 0))), (2, vi l2), (3, vi l3)] [] S =
 (if l3 < 0 then
  some (vi 0, S)
 else
  (if 0 ≤ l3 ∧ l3 < 12 then
   (if (gD S 150 0 (l3.toNat)) = 0 then none else
    (if 0 ≤ l3 ∧ l3 < 12 then
     (if 0 ≤ l3 ∧ l3 < 12 then
      (if (gD (wD S 152 0 ((l3).toNat) (aw o (l2 - ab o 12 l2 (gD S 150 0 (l3.toNat)) * (gD S 150 0 (l3.toNat))))) 150 0 (l3.toNat)) = 0 then none else
       (if 0 ≤ l3 ∧ l3 < 12 then
        (if 0 ≤ (aw o ((aw o (1000 * l3)) + (gD (wD S 152 0 ((l3).toNat) (aw o (l2 - ab o 12 l2 (gD S 150 0 (l3.toNat)) * (gD S 150 0 (l3.toNat))))) 152 0 (l3.toNat)))) ∧ (aw o ((aw o (1000 * l3)) + (gD (wD S 152 0 ((l3).toNat) (aw o (l2 - ab o 12 l2 (gD S 150 0 (l3.toNat)) * (gD S 150 0 (l3.toNat))))) 152 0 (l3.toNat)))) < 12000 then
         (if 0 ≤ l3 ∧ l3 < 32 then
          run o K false mi_277 n 9 [(0, vr (some (85, 0))), (2, vi (aw o (ab o 12 l2 (gD (wD S 152 0 ((l3).toNat) (aw o (l2 - ab o 12 l2 (gD S 150 0 (l3.toNat)) * (gD S 150 0 (l3.toNat))))) 150 0 (l3.toNat))))), (3, vi (aw o (l3 + (-1))))] [] (wD (wD S 152 0 ((l3).toNat) (aw o (l2 - ab o 12 l2 (gD S 150 0 (l3.toNat)) * (gD S 150 0 (l3.toNat))))) 153 0 ((l3).toNat) (gD (wD S 152 0 ((l3).toNat) (aw o (l2 - ab o 12 l2 (gD S 150 0 (l3.toNat)) * (gD S 150 0 (l3.toNat))))) 151 0 ((aw o ((aw o (1000 * l3)) + (gD (wD S 152 0 ((l3).toNat) (aw o (l2 - ab o 12 l2 (gD S 150 0 (l3.toNat)) * (gD S 150 0 (l3.toNat))))) 152 0 (l3.toNat)))).toNat)))
         else none)
        else none)
       else none))
     else none)
    else none))
  else none)) := rfl
set_option maxRecDepth 100000 in
theorem b278_0 (o : AR) (K : KT) (n : Nat) (S : SD) (a1 : Int) : run o K false mi_278 (n + 1) 0 [(0, vr (some (85, 0))), (1, vi a1)] [] S =
 (bI (K 253 [vr (some (85, 0)), vi a1, vi 0, vi 0] (wD S 85 0 63 1)) (fun x2 S1 =>
  (if x2 = 0 then
   some (vi 0, wD S1 85 0 63 0)
  else
   (bI (K 254 [vr (some (85, 0)), vi a1] S1) (fun x4 S3 =>
    (if x4 = 0 then
     some (vi 1, wD S3 85 0 63 0)
    else
     (bI (K 253 [vr (some (85, 0)), vi a1, vi 1, vi 0] S3) (fun x6 S5 =>
      (if x6 = 0 then
       some (vi 1, wD S5 85 0 63 0)
      else
       some (vi 0, wD S5 85 0 63 0)))))))))) := rfl
set_option maxRecDepth 100000 in
theorem b279_0 (o : AR) (K : KT) (n : Nat) (S : SD) : run o K false mi_279 (n + 1) 0 [(0, vr (some (85, 0)))] [] S =
 run o K false mi_279 n 10 [(0, vr (some (85, 0))), (1, vi 0)] [] (wD S 85 0 92 (gD S 85 0 79)) := rfl
set_option maxRecDepth 100000 in
theorem b279_10 (o : AR) (K : KT) (n : Nat) (S : SD) (l1 : Int) : run o K false mi_279 (n + 1) 10 [(0, vr (some (85, 0))), (1, vi l1)] [] S =
 (if l1 < (gD S 85 0 79) then
  (if 0 ≤ l1 ∧ l1 < 12 then
   (if 0 ≤ l1 ∧ l1 < 12 then
    (if 0 ≤ l1 ∧ l1 < 12 then
     (if 0 ≤ l1 ∧ l1 < 12 then
      (if 0 ≤ l1 ∧ l1 < 12 then
       (if 0 ≤ (aw o ((aw o (1000 * l1)) + (gD (wD (wD S 157 0 ((l1).toNat) (gD S 147 0 (l1.toNat))) 158 0 ((l1).toNat) (gD (wD S 157 0 ((l1).toNat) (gD S 147 0 (l1.toNat))) 148 0 (l1.toNat))) 152 0 (l1.toNat)))) ∧ (aw o ((aw o (1000 * l1)) + (gD (wD (wD S 157 0 ((l1).toNat) (gD S 147 0 (l1.toNat))) 158 0 ((l1).toNat) (gD (wD S 157 0 ((l1).toNat) (gD S 147 0 (l1.toNat))) 148 0 (l1.toNat))) 152 0 (l1.toNat)))) < 12000 then
        (if 0 ≤ l1 ∧ l1 < 12 then
         run o K false mi_279 n 10 [(0, vr (some (85, 0))), (1, vi (aw o (l1 + 1)))] [] (wD (wD (wD S 157 0 ((l1).toNat) (gD S 147 0 (l1.toNat))) 158 0 ((l1).toNat) (gD (wD S 157 0 ((l1).toNat) (gD S 147 0 (l1.toNat))) 148 0 (l1.toNat))) 159 0 ((l1).toNat) (gD (wD (wD S 157 0 ((l1).toNat) (gD S 147 0 (l1.toNat))) 158 0 ((l1).toNat) (gD (wD S 157 0 ((l1).toNat) (gD S 147 0 (l1.toNat))) 148 0 (l1.toNat))) 151 0 ((aw o ((aw o (1000 * l1)) + (gD (wD (wD S 157 0 ((l1).toNat) (gD S 147 0 (l1.toNat))) 158 0 ((l1).toNat) (gD (wD S 157 0 ((l1).toNat) (gD S 147 0 (l1.toNat))) 148 0 (l1.toNat))) 152 0 (l1.toNat)))).toNat)))
        else none)
       else none)
      else none)
     else none)
    else none)
   else none)
  else none)
 else
  some (vi 0, S)) := rfl
set_option maxRecDepth 100000 in
theorem b280_0 (o : AR) (K : KT) (n : Nat) (S : SD) (a1 : Int) (a2 : Int) : run o K false mi_280 (n + 1) 0 [(0, vr (some (85, 0))), (1, vi a1), (2, vi a2)] [] S =
 (bI (K 247 [vr (some (85, 0)), vi a1] S) (fun x2 S1 =>
  (if x2 = 0 then
   some (vi (-1), S1)
  else
   (bI (K 247 [vr (some (85, 0)), vi a2] S1) (fun x4 S3 =>
    (if x4 = 0 then
     some (vi (-1), S3)
    else
     (if a1 = a2 then
      some (vi (-1), S3)
     else
      (bI (K 273 [vr (some (85, 0)), vi a1] S3) (fun x6 S5 =>
       (if x6 = 0 then
        some (vi (-1), S5)
       else
        (bI (K 273 [vr (some (85, 0)), vi a2] S5) (fun x8 S7 =>
         (if x8 = 0 then
          some (vi (-1), S7)
         else
          (if 0 ≤ a1 ∧ a1 < 20 then
           (if 0 ≤ a2 ∧ a2 < 20 then
            (if (gD S7 120 0 (a1.toNat)) = (gD S7 120 0 (a2.toNat)) then
             (if 0 ≤ a1 ∧ a1 < 20 then
              (if 0 ≤ a2 ∧ a2 < 20 then
               (if (gD S7 121 0 (a1.toNat)) = (gD S7 121 0 (a2.toNat)) then
                (if 0 ≤ a1 ∧ a1 < 20 then
                 (if 0 ≤ a2 ∧ a2 < 20 then
                  (if (gD S7 122 0 (a1.toNat)) = (gD S7 122 0 (a2.toNat)) then
                   (bI (K 194 [vi a1, vi a2] (wD S7 85 0 90 2)) (fun x10 S9 =>
                    (bI (K 195 [vi a1, vi a2] (wD S9 156 0 0 x10)) (fun x12 S11 =>
                     some (vi 0, wD (wD (wD S11 156 0 1 x12) 85 0 96 0) 85 0 92 0)))))
                  else
                   (bI (K 194 [vi a1, vi a2] (wD S7 85 0 90 2)) (fun x14 S13 =>
                    (bI (K 195 [vi a1, vi a2] (wD S13 156 0 0 x14)) (fun x16 S15 =>
                     (bI (K 274 [vr (some (85, 0))] (wD S15 156 0 1 x16)) (fun x18 S17 =>
                      (if x18 = 0 then
                       some (vi (-2), S17)
                      else
                       (bI (K 276 [vr (some (85, 0))] S17) (fun x20 S19 =>
                        (if 20000 < x20 then
                         some (vi (-2), S19)
                        else
                         run o K false mi_280 n 151 [(0, vr (some (85, 0))), (1, vi a1), (2, vi a2), (4, vi x20), (5, vi 0)] [] S19)))))))))))
                 else none)
                else none)
               else
                (bI (K 194 [vi a1, vi a2] (wD S7 85 0 90 2)) (fun x22 S21 =>
                 (bI (K 195 [vi a1, vi a2] (wD S21 156 0 0 x22)) (fun x24 S23 =>
                  some (vi 0, wD (wD (wD S23 156 0 1 x24) 85 0 96 0) 85 0 92 0))))))
              else none)
             else none)
            else
             (bI (K 194 [vi a1, vi a2] (wD S7 85 0 90 2)) (fun x26 S25 =>
              (bI (K 195 [vi a1, vi a2] (wD S25 156 0 0 x26)) (fun x28 S27 =>
               some (vi 0, wD (wD (wD S27 156 0 1 x28) 85 0 96 0) 85 0 92 0))))))
           else none)
          else none)))))))))))))) := rfl
set_option maxRecDepth 100000 in
theorem b280_151 (o : AR) (K : KT) (n : Nat) (S : SD) (l1 : Int) (l2 : Int) (l4 : Int) (l5 : Int) : run o K false mi_280 (n + 1) 151 [(0, vr (some (85, 0))), (1, vi l1), (2, vi l2), (4, vi l4), (5, vi l5)] [] S =
 (if l5 < l4 then
  (bV (K 277 [vr (some (85, 0)), vi l5] S) (fun S1 =>
   (bI (K 278 [vr (some (85, 0)), vi l1] S1) (fun x3 S2 =>
    (if x3 = 0 then
     run o K false mi_280 n 151 [(0, vr (some (85, 0))), (1, vi l1), (2, vi l2), (4, vi l4), (5, vi (aw o (l5 + 1)))] [] S2
    else
     (bI (K 278 [vr (some (85, 0)), vi l2] S2) (fun x5 S4 =>
      (if x5 = 0 then
       run o K false mi_280 n 151 [(0, vr (some (85, 0))), (1, vi l1), (2, vi l2), (4, vi l4), (5, vi (aw o (l5 + 1)))] [] S4
      else
       (bV (K 279 [vr (some (85, 0))] (wD S4 85 0 96 0)) (fun S6 =>
        some (vi 1, S6)))))))))))
 else
  some (vi 0, wD (wD S 85 0 96 0) 85 0 92 0)) := rfl
set_option maxRecDepth 100000 in
theorem b281_0 (o : AR) (K : KT) (n : Nat) (S : SD) : run o K false mi_281 (n + 1) 0 [(0, vr (some (85, 0)))] [] S =
 run o K false mi_281 n 7 [(0, vr (some (85, 0))), (1, vi 0)] [] (wD S 85 0 87 0) := rfl
set_option maxRecDepth 100000 in
theorem b281_7 (o : AR) (K : KT) (n : Nat) (S : SD) (l1 : Int) : run o K false mi_281 (n + 1) 7 [(0, vr (some (85, 0))), (1, vi l1)] [] S =
 (if l1 < (gD S 85 0 79) then
  (if 0 ≤ l1 ∧ l1 < 12 then
   (if 0 ≤ (gD S 85 0 87) ∧ (gD S 85 0 87) < 32 then
    (if 0 ≤ l1 ∧ l1 < 12 then
     (if 0 ≤ (gD (wD S 154 0 (((gD S 85 0 87)).toNat) (gD S 147 0 (l1.toNat))) 85 0 87) ∧ (gD (wD S 154 0 (((gD S 85 0 87)).toNat) (gD S 147 0 (l1.toNat))) 85 0 87) < 32 then
      run o K false mi_281 n 7 [(0, vr (some (85, 0))), (1, vi (aw o (l1 + 1)))] [] (wD (wD (wD S 154 0 (((gD S 85 0 87)).toNat) (gD S 147 0 (l1.toNat))) 155 0 (((gD (wD S 154 0 (((gD S 85 0 87)).toNat) (gD S 147 0 (l1.toNat))) 85 0 87)).toNat) (gD (wD S 154 0 (((gD S 85 0 87)).toNat) (gD S 147 0 (l1.toNat))) 148 0 (l1.toNat))) 85 0 87 (aw o ((gD (wD (wD S 154 0 (((gD S 85 0 87)).toNat) (gD S 147 0 (l1.toNat))) 155 0 (((gD (wD S 154 0 (((gD S 85 0 87)).toNat) (gD S 147 0 (l1.toNat))) 85 0 87)).toNat) (gD (wD S 154 0 (((gD S 85 0 87)).toNat) (gD S 147 0 (l1.toNat))) 148 0 (l1.toNat))) 85 0 87) + 1)))
     else none)
    else none)
   else none)
  else none)
 else
  run o K false mi_281 n 63 [(0, vr (some (85, 0))), (1, vi 0)] [] S) := rfl
set_option maxRecDepth 100000 in
theorem b281_63 (o : AR) (K : KT) (n : Nat) (S : SD) (l1 : Int) : run o K false mi_281 (n + 1) 63 [(0, vr (some (85, 0))), (1, vi l1)] [] S =
 (if l1 < (gD S 85 0 90) then
  (if 0 ≤ l1 ∧ l1 < 20 then
   (bI (K 282 [vr (some (85, 0)), vi (gD S 156 0 (l1.toNat))] S) (fun x2 S1 =>
    (if x2 < 0 then
     (if 0 ≤ l1 ∧ l1 < 20 then
      (if 0 ≤ (gD S1 156 0 (l1.toNat)) ∧ (gD S1 156 0 (l1.toNat)) < 20 then
       (if 0 ≤ (gD S1 85 0 87) ∧ (gD S1 85 0 87) < 32 then
        (if 0 ≤ l1 ∧ l1 < 20 then
         (if 0 ≤ (gD (wD S1 154 0 (((gD S1 85 0 87)).toNat) (gD S1 120 0 ((gD S1 156 0 (l1.toNat)).toNat))) 156 0 (l1.toNat)) ∧ (gD (wD S1 154 0 (((gD S1 85 0 87)).toNat) (gD S1 120 0 ((gD S1 156 0 (l1.toNat)).toNat))) 156 0 (l1.toNat)) < 20 then
          (if 0 ≤ (gD (wD S1 154 0 (((gD S1 85 0 87)).toNat) (gD S1 120 0 ((gD S1 156 0 (l1.toNat)).toNat))) 85 0 87) ∧ (gD (wD S1 154 0 (((gD S1 85 0 87)).toNat) (gD S1 120 0 ((gD S1 156 0 (l1.toNat)).toNat))) 85 0 87) < 32 then
           run o K false mi_281 n 63 [(0, vr (some (85, 0))), (1, vi (aw o (l1 + 1)))] [] (wD (wD (wD S1 154 0 (((gD S1 85 0 87)).toNat) (gD S1 120 0 ((gD S1 156 0 (l1.toNat)).toNat))) 155 0 (((gD (wD S1 154 0 (((gD S1 85 0 87)).toNat) (gD S1 120 0 ((gD S1 156 0 (l1.toNat)).toNat))) 85 0 87)).toNat) (gD (wD S1 154 0 (((gD S1 85 0 87)).toNat) (gD S1 120 0 ((gD S1 156 0 (l1.toNat)).toNat))) 121 0 ((gD (wD S1 154 0 (((gD S1 85 0 87)).toNat) (gD S1 120 0 ((gD S1 156 0 (l1.toNat)).toNat))) 156 0 (l1.toNat)).toNat))) 85 0 87 (aw o ((gD (wD (wD S1 154 0 (((gD S1 85 0 87)).toNat) (gD S1 120 0 ((gD S1 156 0 (l1.toNat)).toNat))) 155 0 (((gD (wD S1 154 0 (((gD S1 85 0 87)).toNat) (gD S1 120 0 ((gD S1 156 0 (l1.toNat)).toNat))) 85 0 87)).toNat) (gD (wD S1 154 0 (((gD S1 85 0 87)).toNat) (gD S1 120 0 ((gD S1 156 0 (l1.toNat)).toNat))) 121 0 ((gD (wD S1 154 0 (((gD S1 85 0 87)).toNat) (gD S1 120 0 ((gD S1 156 0 (l1.toNat)).toNat))) 156 0 (l1.toNat)).toNat))) 85 0 87) + 1)))
          else none)
         else none)
        else none)
       else none)
      else none)
     else none)
    else
     run o K false mi_281 n 63 [(0, vr (some (85, 0))), (1, vi (aw o (l1 + 1)))] [] S1)))
  else none)
 else
  some (vi 0, S)) := rfl
set_option maxRecDepth 100000 in
theorem b282_0 (o : AR) (K : KT) (n : Nat) (S : SD) (a1 : Int) : run o K false mi_282 (n + 1) 0 [(0, vr (some (85, 0))), (1, vi a1)] [] S =
 run o K false mi_282 n 2 [(0, vr (some (85, 0))), (1, vi a1), (2, vi 0)] [] S := rfl
set_option maxRecDepth 100000 in
theorem b282_2 (o : AR) (K : KT) (n : Nat) (S : SD) (l1 : Int) (l2 : Int) : run o K false mi_282 (n + 1) 2 [(0, vr (some (85, 0))), (1, vi l1), (2, vi l2)] [] S =
 (if l2 < (gD S 85 0 87) then
  (if 0 ≤ l2 ∧ l2 < 32 then
   (if 0 ≤ l1 ∧ l1 < 20 then
    (if (gD S 154 0 (l2.toNat)) = (gD S 120 0 (l1.toNat)) then
     (if 0 ≤ l2 ∧ l2 < 32 then
      (if 0 ≤ l1 ∧ l1 < 20 then
       (if (gD S 155 0 (l2.toNat)) = (gD S 121 0 (l1.toNat)) then
        some (vi l2, S)
       else
        run o K false mi_282 n 2 [(0, vr (some (85, 0))), (1, vi l1), (2, vi (aw o (l2 + 1)))] [] S)
      else none)
     else none)
    else
     run o K false mi_282 n 2 [(0, vr (some (85, 0))), (1, vi l1), (2, vi (aw o (l2 + 1)))] [] S)
   else none)
  else none)
 else
  some (vi (-1), S)) := rfl
set_option maxRecDepth 100000 in
theorem b283_0 (o : AR) (K : KT) (n : Nat) (S : SD) : run o K false mi_283 (n + 1) 0 [(0, vr (some (85, 0)))] [] S =
 run o K false mi_283 n 2 [(0, vr (some (85, 0))), (1, vi 0)] [] S := rfl
set_option maxRecDepth 100000 in
theorem b283_2 (o : AR) (K : KT) (n : Nat) (S : SD) (l1 : Int) : run o K false mi_283 (n + 1) 2 [(0, vr (some (85, 0))), (1, vi l1)] [] S =
 (if l1 < (gD S 85 0 90) then
  (if 0 ≤ l1 ∧ l1 < 20 then
   (bI (K 282 [vr (some (85, 0)), vi (gD S 156 0 (l1.toNat))] S) (fun x2 S1 =>
    (if 0 ≤ x2 ∧ x2 < 32 then
     (if 0 ≤ l1 ∧ l1 < 20 then
      (if 0 ≤ (gD S1 156 0 (l1.toNat)) ∧ (gD S1 156 0 (l1.toNat)) < 20 then
       (if (gD S1 153 0 (x2.toNat)) = (gD S1 122 0 ((gD S1 156 0 (l1.toNat)).toNat)) then
        run o K false mi_283 n 2 [(0, vr (some (85, 0))), (1, vi (aw o (l1 + 1)))] [] S1
       else
        (if 0 ≤ l1 ∧ l1 < 20 then
         (bI (K 278 [vr (some (85, 0)), vi (gD S1 156 0 (l1.toNat))] S1) (fun x4 S3 =>
          (if x4 = 0 then
           run o K false mi_283 n 2 [(0, vr (some (85, 0))), (1, vi (aw o (l1 + 1)))] [] S3
          else
           (if 0 ≤ l1 ∧ l1 < 20 then
            some (vi (gD S3 156 0 (l1.toNat)), S3)
           else none))))
        else none))
      else none)
     else none)
    else none)))
  else none)
 else
  some (vi (-1), S)) := rfl
set_option maxRecDepth 100000 in
theorem b284_0 (o : AR) (K : KT) (n : Nat) (S : SD) (a1 : Int) : run o K false mi_284 (n + 1) 0 [(0, vr (some (85, 0))), (1, vi a1)] [] S =
 run o K false mi_284 n 2 [(0, vr (some (85, 0))), (1, vi a1), (2, vi 0)] [] S := rfl
set_option maxRecDepth 100000 in
theorem b284_2 (o : AR) (K : KT) (n : Nat) (S : SD) (l1 : Int) (l2 : Int) : run o K false mi_284 (n + 1) 2 [(0, vr (some (85, 0))), (1, vi l1), (2, vi l2)] [] S =
 (if l2 < l1 then
  run o K false mi_284 n 12 [(0, vr (some (85, 0))), (1, vi l1), (2, vi l2), (3, vi 1), (4, vi 0)] [] S
 else
  some (vi (-1), S)) := rfl
set_option maxRecDepth 100000 in
theorem b284_12 (o : AR) (K : KT) (n : Nat) (S : SD) (l1 : Int) (l2 : Int) (l3 : Int) (l4 : Int) : run o K false mi_284 (n + 1) 12 [(0, vr (some (85, 0))), (1, vi l1), (2, vi l2), (3, vi l3), (4, vi l4)] [] S =
 (if l4 < (gD S 85 0 87) then
  (if l3 = 0 then
   (if l3 = 0 then
    run o K false mi_284 n 2 [(0, vr (some (85, 0))), (1, vi l1), (2, vi (aw o (l2 + 1)))] [] S
   else
    some (vi l2, S))
  else
   (if 0 ≤ (aw o ((aw o (32 * l2)) + l4)) ∧ (aw o ((aw o (32 * l2)) + l4)) < 6464 then
    (if 0 ≤ l4 ∧ l4 < 32 then
     (if (gD S 161 0 ((aw o ((aw o (32 * l2)) + l4)).toNat)) = (gD S 153 0 (l4.toNat)) then
      run o K false mi_284 n 12 [(0, vr (some (85, 0))), (1, vi l1), (2, vi l2), (3, vi 1), (4, vi (aw o (l4 + 1)))] [] S
     else
      run o K false mi_284 n 12 [(0, vr (some (85, 0))), (1, vi l1), (2, vi l2), (3, vi 0), (4, vi (aw o (l4 + 1)))] [] S)
    else none)
   else none))
 else
  (if l3 = 0 then
   run o K false mi_284 n 2 [(0, vr (some (85, 0))), (1, vi l1), (2, vi (aw o (l2 + 1)))] [] S
  else
   some (vi l2, S))) := rfl
set_option maxRecDepth 100000 in
theorem b285_0 (o : AR) (K : KT) (n : Nat) (S : SD) : run o K false mi_285 (n + 1) 0 [(0, vr (some (85, 0)))] [] S =
 run o K false mi_285 n 5 [(0, vr (some (85, 0))), (1, vi (gD S 85 0 79))] [] S := rfl
set_option maxRecDepth 100000 in
theorem b285_5 (o : AR) (K : KT) (n : Nat) (S : SD) (l1 : Int) : run o K false mi_285 (n + 1) 5 [(0, vr (some (85, 0))), (1, vi l1)] [] S =
 (if l1 < (gD S 85 0 87) then
  (if 0 ≤ l1 ∧ l1 < 32 then
   run o K false mi_285 n 5 [(0, vr (some (85, 0))), (1, vi (aw o (l1 + 1)))] [] (wD S 153 0 ((l1).toNat) (-1000000))
  else none)
 else
  run o K false mi_285 n 30 [(0, vr (some (85, 0))), (1, vi 0)] [] S) := rfl
set_option maxRecDepth 100000 in
theorem b285_30 (o : AR) (K : KT) (n : Nat) (S : SD) (l1 : Int) : run o K false mi_285 (n + 1) 30 [(0, vr (some (85, 0))), (1, vi l1)] [] S =
 (if 200 < l1 then
  some (vi (-2), S)
 else
  (bI (K 284 [vr (some (85, 0)), vi l1] S) (fun x2 S1 =>
   (if x2 < 0 then
    (bI (K 283 [vr (some (85, 0))] S1) (fun x4 S3 =>
     (if x4 < 0 then
      some (vi 0, S3)
     else
      (if l1 = 200 then
       some (vi (-2), S3)
      else
       run o K false mi_285 n 109 [(0, vr (some (85, 0))), (1, vi l1), (3, vi x4), (4, vi 0)] [] S3))))
   else
    run o K false mi_285 n 56 [(0, vr (some (85, 0))), (1, vi l1), (2, vi x2), (3, vi x2)] [] (wD S1 85 0 96 (aw o (l1 - x2))))))) := rfl
set_option maxRecDepth 100000 in
theorem b285_109 (o : AR) (K : KT) (n : Nat) (S : SD) (l1 : Int) (l3 : Int) (l4 : Int) : run o K false mi_285 (n + 1) 109 [(0, vr (some (85, 0))), (1, vi l1), (3, vi l3), (4, vi l4)] [] S =
 (if l4 < (gD S 85 0 87) then
  (if 0 ≤ l4 ∧ l4 < 32 then
   (if 0 ≤ (aw o ((aw o (32 * l1)) + l4)) ∧ (aw o ((aw o (32 * l1)) + l4)) < 6464 then
    run o K false mi_285 n 109 [(0, vr (some (85, 0))), (1, vi l1), (3, vi l3), (4, vi (aw o (l4 + 1)))] [] (wD S 161 0 (((aw o ((aw o (32 * l1)) + l4))).toNat) (gD S 153 0 (l4.toNat)))
   else none)
  else none)
 else
  (if 0 ≤ l1 ∧ l1 < 201 then
   (bI (K 282 [vr (some (85, 0)), vi l3] (wD S 162 0 ((l1).toNat) l3)) (fun x2 S1 =>
    (if 0 ≤ l3 ∧ l3 < 20 then
     (if 0 ≤ x2 ∧ x2 < 32 then
      run o K false mi_285 n 30 [(0, vr (some (85, 0))), (1, vi (aw o (l1 + 1)))] [] (wD S1 153 0 ((x2).toNat) (gD S1 122 0 (l3.toNat)))
     else none)
    else none)))
  else none)) := rfl
set_option maxRecDepth 100000 in
theorem b285_56 (o : AR) (K : KT) (n : Nat) (S : SD) (l1 : Int) (l2 : Int) (l3 : Int) : run o K false mi_285 (n + 1) 56 [(0, vr (some (85, 0))), (1, vi l1), (2, vi l2), (3, vi l3)] [] S =
 (if l3 < l1 then
  (if 0 ≤ l3 ∧ l3 < 201 then
   (if 0 ≤ (aw o (l3 - l2)) ∧ (aw o (l3 - l2)) < 201 then
    run o K false mi_285 n 56 [(0, vr (some (85, 0))), (1, vi l1), (2, vi l2), (3, vi (aw o (l3 + 1)))] [] (wD S 160 0 (((aw o (l3 - l2))).toNat) (gD S 162 0 (l3.toNat)))
   else none)
  else none)
 else
  some (vi (aw o (l1 - l2)), S)) := rfl
set_option maxRecDepth 100000 in
theorem b286_0 (o : AR) (K : KT) (n : Nat) (S : SD) : run o K false mi_286 (n + 1) 0 [(0, vr (some (85, 0)))] [] S =
 run o K false mi_286 n 7 [(0, vr (some (85, 0))), (1, vi 0)] [] (wD S 85 0 90 0) := rfl
set_option maxRecDepth 100000 in
theorem b286_7 (o : AR) (K : KT) (n : Nat) (S : SD) (l1 : Int) : run o K false mi_286 (n + 1) 7 [(0, vr (some (85, 0))), (1, vi l1)] [] S =
 (if l1 < (gD S 85 0 32) then
  (if 0 ≤ l1 ∧ l1 < 20 then
   (if (gD S 117 0 (l1.toNat)) = 0 then
    run o K false mi_286 n 7 [(0, vr (some (85, 0))), (1, vi (aw o (l1 + 1)))] [] S
   else
    (bI (K 273 [vr (some (85, 0)), vi l1] S) (fun x2 S1 =>
     (if x2 = 0 then
      run o K false mi_286 n 7 [(0, vr (some (85, 0))), (1, vi (aw o (l1 + 1)))] [] S1
     else
      (if 0 ≤ (gD S1 85 0 90) ∧ (gD S1 85 0 90) < 20 then
       run o K false mi_286 n 7 [(0, vr (some (85, 0))), (1, vi (aw o (l1 + 1)))] [] (wD (wD S1 156 0 (((gD S1 85 0 90)).toNat) l1) 85 0 90 (aw o ((gD (wD S1 156 0 (((gD S1 85 0 90)).toNat) l1) 85 0 90) + 1)))
      else none)))))
  else none)
 else
  (if 0 < (gD S 85 0 90) then
   (bI (K 274 [vr (some (85, 0))] S) (fun x4 S3 =>
    (if x4 = 0 then
     some (vi (-2), S3)
    else
     (if (gD S3 85 0 90) = 0 then
      (if 0 < (gD S3 85 0 90) then
       (bV (K 281 [vr (some (85, 0))] S3) (fun S5 =>
        run o K false mi_286 n 117 [(0, vr (some (85, 0))), (1, vi 0), (2, vi 0)] [] S5))
      else
       run o K false mi_286 n 117 [(0, vr (some (85, 0))), (1, vi 0), (2, vi 0)] [] S3)
     else
      (bI (K 276 [vr (some (85, 0))] S3) (fun x7 S6 =>
       (if 2000 < x7 then
        some (vi (-2), S6)
       else
        (if 0 < (gD S6 85 0 90) then
         (bV (K 281 [vr (some (85, 0))] S6) (fun S8 =>
          run o K false mi_286 n 117 [(0, vr (some (85, 0))), (1, vi x7), (2, vi 0)] [] S8))
        else
         run o K false mi_286 n 117 [(0, vr (some (85, 0))), (1, vi x7), (2, vi 0)] [] S6))))))))
  else
   (if (gD S 85 0 90) = 0 then
    (if 0 < (gD S 85 0 90) then
     (bV (K 281 [vr (some (85, 0))] S) (fun S9 =>
      run o K false mi_286 n 117 [(0, vr (some (85, 0))), (1, vi 0), (2, vi 0)] [] S9))
    else
     run o K false mi_286 n 117 [(0, vr (some (85, 0))), (1, vi 0), (2, vi 0)] [] S)
   else
    (bI (K 276 [vr (some (85, 0))] S) (fun x11 S10 =>
     (if 2000 < x11 then
      some (vi (-2), S10)
     else
      (if 0 < (gD S10 85 0 90) then
       (bV (K 281 [vr (some (85, 0))] S10) (fun S12 =>
        run o K false mi_286 n 117 [(0, vr (some (85, 0))), (1, vi x11), (2, vi 0)] [] S12))
      else
       run o K false mi_286 n 117 [(0, vr (some (85, 0))), (1, vi x11), (2, vi 0)] [] S10))))))) := rfl
set_option maxRecDepth 100000 in
theorem b286_117 (o : AR) (K : KT) (n : Nat) (S : SD) (l1 : Int) (l2 : Int) : run o K false mi_286 (n + 1) 117 [(0, vr (some (85, 0))), (1, vi l1), (2, vi l2)] [] S =
 (if l2 < l1 then
  (bV (K 277 [vr (some (85, 0)), vi l2] S) (fun S1 =>
   (bI (K 285 [vr (some (85, 0))] S1) (fun x3 S2 =>
    (if x3 = (-2) then
     some (vi (-2), S2)
    else
     (if x3 = 0 then
      run o K false mi_286 n 117 [(0, vr (some (85, 0))), (1, vi l1), (2, vi (aw o (l2 + 1)))] [] S2
     else
      (bV (K 277 [vr (some (85, 0)), vi l2] S2) (fun S4 =>
       (bV (K 279 [vr (some (85, 0))] S4) (fun S5 =>
        some (vi x3, S5)))))))))))
 else
  some (vi 0, wD (wD S 85 0 92 0) 85 0 96 0)) := rfl
set_option maxRecDepth 100000 in
theorem b287_0 (o : AR) (K : KT) (n : Nat) (S : SD) (a1 : Int) (a2 : Int) : run o K false mi_287 (n + 1) 0 [(0, vr (some (85, 0))), (1, vi a1), (2, vi a2)] [] S =
 (if a2 = 3 then
  (bI (K 192 [vl a1, vl 0, vl (aw o ((gD S 85 0 96) - 1))] S) (fun x2 S1 =>
   (if x2 = 0 then
    some (vi (-1000000), S1)
   else
    (if 0 ≤ a1 ∧ a1 < 201 then
     some (vi (gD S1 160 0 (a1.toNat)), S1)
    else none))))
 else
  (bI (K 192 [vl a1, vl 0, vl (aw o ((gD S 85 0 92) - 1))] S) (fun x4 S3 =>
   (if x4 = 0 then
    some (vi (-1000000), S3)
   else
    (if a2 = 0 then
     (if 0 ≤ a1 ∧ a1 < 12 then
      some (vi (gD S3 157 0 (a1.toNat)), S3)
     else none)
    else (if a2 = 1 then
     (if 0 ≤ a1 ∧ a1 < 12 then
      some (vi (gD S3 158 0 (a1.toNat)), S3)
     else none)
    else (if a2 = 2 then
     (if 0 ≤ a1 ∧ a1 < 12 then
      some (vi (gD S3 159 0 (a1.toNat)), S3)
     else none)
    else 
     some (vi (-1000000), S3)))))))) := rfl
set_option maxRecDepth 100000 in
theorem b288_0 (o : AR) (K : KT) (n : Nat) (S : SD) (a1 : Int) (a2 : Int) (a4 : Int) : run o K false mi_288 (n + 1) 0 [(0, vr (some (85, 0))), (1, vi a1), (2, vl a2), (4, vi a4)] [] S =
 (if (gD S 85 0 100) = 8 then
  some (vi (-1), S)
 else
  (bI (K 196 [vi a1] S) (fun x2 S1 =>
   (if x2 = 0 then
    some (vi (-1), S1)
   else
    (if 0 < (ab o 9 a2 0) then
     (if (ab o 9 (ab o 8 a2 (gD S1 85 0 6)) 0) = 0 then
      (bI (K 192 [vl a4, vl 0, vl 1000000000] S1) (fun x4 S3 =>
       (if x4 = 0 then
        some (vi (-1), S3)
       else
        (if 0 ≤ (gD S3 85 0 100) ∧ (gD S3 85 0 100) < 8 then
         (if 0 ≤ (gD (wD S3 163 0 (((gD S3 85 0 100)).toNat) a1) 85 0 100) ∧ (gD (wD S3 163 0 (((gD S3 85 0 100)).toNat) a1) 85 0 100) < 8 then
          (if 0 ≤ (gD (wD (wD S3 163 0 (((gD S3 85 0 100)).toNat) a1) 164 0 (((gD (wD S3 163 0 (((gD S3 85 0 100)).toNat) a1) 85 0 100)).toNat) a2) 85 0 100) ∧ (gD (wD (wD S3 163 0 (((gD S3 85 0 100)).toNat) a1) 164 0 (((gD (wD S3 163 0 (((gD S3 85 0 100)).toNat) a1) 85 0 100)).toNat) a2) 85 0 100) < 8 then
           some (vi (aw o ((gD (wD (wD (wD (wD S3 163 0 (((gD S3 85 0 100)).toNat) a1) 164 0 (((gD (wD S3 163 0 (((gD S3 85 0 100)).toNat) a1) 85 0 100)).toNat) a2) 165 0 (((gD (wD (wD S3 163 0 (((gD S3 85 0 100)).toNat) a1) 164 0 (((gD (wD S3 163 0 (((gD S3 85 0 100)).toNat) a1) 85 0 100)).toNat) a2) 85 0 100)).toNat) a4) 85 0 100 (aw o ((gD (wD (wD (wD S3 163 0 (((gD S3 85 0 100)).toNat) a1) 164 0 (((gD (wD S3 163 0 (((gD S3 85 0 100)).toNat) a1) 85 0 100)).toNat) a2) 165 0 (((gD (wD (wD S3 163 0 (((gD S3 85 0 100)).toNat) a1) 164 0 (((gD (wD S3 163 0 (((gD S3 85 0 100)).toNat) a1) 85 0 100)).toNat) a2) 85 0 100)).toNat) a4) 85 0 100) + 1))) 85 0 100) - 1)), wD (wD (wD (wD S3 163 0 (((gD S3 85 0 100)).toNat) a1) 164 0 (((gD (wD S3 163 0 (((gD S3 85 0 100)).toNat) a1) 85 0 100)).toNat) a2) 165 0 (((gD (wD (wD S3 163 0 (((gD S3 85 0 100)).toNat) a1) 164 0 (((gD (wD S3 163 0 (((gD S3 85 0 100)).toNat) a1) 85 0 100)).toNat) a2) 85 0 100)).toNat) a4) 85 0 100 (aw o ((gD (wD (wD (wD S3 163 0 (((gD S3 85 0 100)).toNat) a1) 164 0 (((gD (wD S3 163 0 (((gD S3 85 0 100)).toNat) a1) 85 0 100)).toNat) a2) 165 0 (((gD (wD (wD S3 163 0 (((gD S3 85 0 100)).toNat) a1) 164 0 (((gD (wD S3 163 0 (((gD S3 85 0 100)).toNat) a1) 85 0 100)).toNat) a2) 85 0 100)).toNat) a4) 85 0 100) + 1)))
          else none)
         else none)
        else none))))
     else
      some (vi (-1), S1))
    else
     some (vi (-1), S1)))))) := rfl
set_option maxRecDepth 100000 in
theorem b289_0 (o : AR) (K : KT) (n : Nat) (S : SD) (a1 : Int) (a2 : Int) (a3 : Int) (a4 : Int) : run o K false mi_289 (n + 1) 0 [(0, vr (some (85, 0))), (1, vi a1), (2, vi a2), (3, vi a3), (4, vi a4)] [] S =
 (bI (K 217 [vr (some (85, 0)), vi a1, vi a2, vi a3, vi (gD S 85 0 0)] S) (fun x2 S1 =>
  (bI (K 202 [vr (some (85, 0)), vi a1, vi a2] S1) (fun x4 S3 =>
   (bI (K 201 [vr (some (85, 0)), vi a1, vi a2] S3) (fun x6 S5 =>
    (if x2 < 0 then
     (if a4 = 0 then
      some (vi (aw o (x4 - x6)), S5)
     else
      (bI (K 203 [vr (some (85, 0)), vi a1, vi a2] S5) (fun x8 S7 =>
       (bI (K 194 [vi (aw o (x4 - x6)), vi (aw o ((aw o (2 * x8)) * (aw o (a3 - (gD S7 85 0 0)))))] S7) (fun x10 S9 =>
        (bI (K 194 [vi (aw o (x4 - x6)), vi x10] S9) (fun x12 S11 =>
         some (vi x12, S11))))))))
    else
     (bI (K 208 [vr (some (85, 0)), vi a1, vi a2, vi x2, vi a3] S5) (fun x14 S13 =>
      (bI (K 207 [vr (some (85, 0)), vi a1, vi a2, vi x2, vi a3] S13) (fun x16 S15 =>
       (if a4 = 0 then
        some (vi (aw o (x14 - x16)), S15)
       else
        (bI (K 203 [vr (some (85, 0)), vi a1, vi a2] S15) (fun x18 S17 =>
         (bI (K 194 [vi (aw o (x4 - x6)), vi (aw o ((aw o (2 * x18)) * (aw o (a3 - (gD S17 85 0 0)))))] S17) (fun x20 S19 =>
          (bI (K 194 [vi (aw o (x14 - x16)), vi x20] S19) (fun x22 S21 =>
           some (vi x22, S21))))))))))))))))))) := rfl
set_option maxRecDepth 100000 in
theorem b290_0 (o : AR) (K : KT) (n : Nat) (S : SD) (a1 : Int) (a2 : Int) (a3 : Int) : run o K false mi_290 (n + 1) 0 [(0, vr (some (85, 0))), (1, vi a1), (2, vi a2), (3, vl a3)] [] S =
 run o K false mi_290 n 6 [(0, vr (some (85, 0))), (1, vi a1), (2, vi a2), (3, vl a3), (5, vi 0), (6, vi 0)] [] S := rfl
set_option maxRecDepth 100000 in
theorem b290_6 (o : AR) (K : KT) (n : Nat) (S : SD) (l1 : Int) (l2 : Int) (l3 : Int) (l5 : Int) (l6 : Int) : run o K false mi_290 (n + 1) 6 [(0, vr (some (85, 0))), (1, vi l1), (2, vi l2), (3, vl l3), (5, vi l5), (6, vi l6)] [] S =
 (if l6 < (gD S 85 0 6) then
  (if 0 ≤ l1 ∧ l1 < 8 then
   (if (ab o 9 (ab o 5 (ab o 8 (gD S 164 0 (l1.toNat)) l6) 1) 1) = 0 then
    (if 0 ≤ l1 ∧ l1 < 8 then
     (if (ab o 9 (ab o 5 (ab o 8 l3 l6) 1) 1) = 0 then
      (bI (K 289 [vr (some (85, 0)), vi l6, vi (gD S 163 0 (l1.toNat)), vi l2, vi 1] S) (fun x2 S1 =>
       run o K false mi_290 n 6 [(0, vr (some (85, 0))), (1, vi l1), (2, vi l2), (3, vl l3), (5, vi (aw o (l5 + x2))), (6, vi (aw o (l6 + 1)))] [] S1))
     else
      (bI (K 289 [vr (some (85, 0)), vi l6, vi (gD S 163 0 (l1.toNat)), vi l2, vi 0] S) (fun x4 S3 =>
       run o K false mi_290 n 6 [(0, vr (some (85, 0))), (1, vi l1), (2, vi l2), (3, vl l3), (5, vi (aw o (l5 + x4))), (6, vi (aw o (l6 + 1)))] [] S3)))
    else none)
   else
    run o K false mi_290 n 6 [(0, vr (some (85, 0))), (1, vi l1), (2, vi l2), (3, vl l3), (5, vi l5), (6, vi (aw o (l6 + 1)))] [] S)
  else none)
 else
  some (vi l5, S)) := rfl
set_option maxRecDepth 100000 in
theorem b291_0 (o : AR) (K : KT) (n : Nat) (S : SD) (a1 : Int) (a2 : Int) : run o K false mi_291 (n + 1) 0 [(0, vr (some (85, 0))), (1, vi a1), (2, vi a2)] [] S =
 (bI (K 192 [vl a1, vl 0, vl (aw o ((gD S 85 0 100) - 1))] S) (fun x2 S1 =>
  (if x2 = 0 then
   some (vi (-1), S1)
  else
   (bI (K 192 [vl a2, vl (gD S1 85 0 0), vl 3999] S1) (fun x4 S3 =>
    (if x4 = 0 then
     some (vi (-1), S3)
    else
     (bI (K 290 [vr (some (85, 0)), vi a1, vi a2, vl 0] S3) (fun x6 S5 =>
      some (vi x6, S5))))))))) := rfl
set_option maxRecDepth 100000 in
theorem b292_0 (o : AR) (K : KT) (n : Nat) (S : SD) (a1 : Int) : run o K false mi_292 (n + 1) 0 [(0, vr (some (85, 0))), (1, vi a1)] [] S =
 (if (gD S 85 0 100) = 0 then
  some (vi (-1), S)
 else
  (bI (K 192 [vl a1, vl (gD S 85 0 0), vl 3999] S) (fun x2 S1 =>
   (if x2 = 0 then
    some (vi (-1), S1)
   else
    run o K false mi_292 n 30 [(0, vr (some (85, 0))), (1, vi a1), (2, vl 0), (4, vi 0)] [] S1)))) := rfl
set_option maxRecDepth 100000 in
theorem b292_30 (o : AR) (K : KT) (n : Nat) (S : SD) (l1 : Int) (l2 : Int) (l4 : Int) : run o K false mi_292 (n + 1) 30 [(0, vr (some (85, 0))), (1, vi l1), (2, vl l2), (4, vi l4)] [] S =
 (if l4 < (gD S 85 0 100) then
  (if 0 ≤ l4 ∧ l4 < 8 then
   run o K false mi_292 n 30 [(0, vr (some (85, 0))), (1, vi l1), (2, vl (ab o 6 l2 (gD S 164 0 (l4.toNat)))), (4, vi (aw o (l4 + 1)))] [] S
  else none)
 else
  run o K false mi_292 n 61 [(0, vr (some (85, 0))), (1, vi l1), (2, vl l2), (4, vi 0), (5, vi 0)] [] S) := rfl
set_option maxRecDepth 100000 in
theorem b292_61 (o : AR) (K : KT) (n : Nat) (S : SD) (l1 : Int) (l2 : Int) (l4 : Int) (l5 : Int) : run o K false mi_292 (n + 1) 61 [(0, vr (some (85, 0))), (1, vi l1), (2, vl l2), (4, vi l4), (5, vi l5)] [] S =
 (if l5 < (gD S 85 0 6) then
  (if (ab o 9 (ab o 5 (ab o 8 l2 l5) 1) 0) = 0 then
   run o K false mi_292 n 61 [(0, vr (some (85, 0))), (1, vi l1), (2, vl l2), (4, vi l4), (5, vi (aw o (l5 + 1)))] [] S
  else
   (if l4 = 12 then
    some (vi (-2), S)
   else
    (if 0 ≤ l4 ∧ l4 < 12 then
     run o K false mi_292 n 61 [(0, vr (some (85, 0))), (1, vi l1), (2, vl l2), (4, vi (aw o (l4 + 1))), (5, vi (aw o (l5 + 1)))] [] (wD S 166 0 ((l4).toNat) l5)
    else none)))
 else
  run o K false mi_292 n 122 [(0, vr (some (85, 0))), (1, vi l1), (4, vi l4), (5, vi (-3)), (6, vl 0), (8, vi 0)] [] S) := rfl
set_option maxRecDepth 100000 in
theorem b292_122 (o : AR) (K : KT) (n : Nat) (S : SD) (l1 : Int) (l4 : Int) (l5 : Int) (l6 : Int) (l8 : Int) : run o K false mi_292 (n + 1) 122 [(0, vr (some (85, 0))), (1, vi l1), (4, vi l4), (5, vi l5), (6, vl l6), (8, vi l8)] [] S =
 (if l8 < (ab o 3 1 l4) then
  run o K false mi_292 n 140 [(0, vr (some (85, 0))), (1, vi l1), (4, vi l4), (5, vi l5), (6, vl l6), (8, vi l8), (9, vl 0), (11, vi 0), (12, vi 0)] [] S
 else
  (if l5 < 0 then
   some (vi l5, S)
  else
   some (vi l5, wD S 85 0 104 l6))) := rfl
set_option maxRecDepth 100000 in
theorem b292_140 (o : AR) (K : KT) (n : Nat) (S : SD) (l1 : Int) (l4 : Int) (l5 : Int) (l6 : Int) (l8 : Int) (l9 : Int) (l11 : Int) (l12 : Int) : run o K false mi_292 (n + 1) 140 [(0, vr (some (85, 0))), (1, vi l1), (4, vi l4), (5, vi l5), (6, vl l6), (8, vi l8), (9, vl l9), (11, vi l11), (12, vi l12)] [] S =
 (if l12 < l4 then
  (if (ab o 0 (ab o 4 l8 l12) 1) = 0 then
   run o K false mi_292 n 140 [(0, vr (some (85, 0))), (1, vi l1), (4, vi l4), (5, vi l5), (6, vl l6), (8, vi l8), (9, vl l9), (11, vi l11), (12, vi (aw o (l12 + 1)))] [] S
  else
   (if 0 ≤ l12 ∧ l12 < 12 then
    (if 0 ≤ l12 ∧ l12 < 12 then
     (if 0 ≤ (gD S 166 0 (l12.toNat)) ∧ (gD S 166 0 (l12.toNat)) < 40 then
      (if 0 ≤ (gD S 91 0 ((gD S 166 0 (l12.toNat)).toNat)) ∧ (gD S 91 0 ((gD S 166 0 (l12.toNat)).toNat)) < 8 then
       run o K false mi_292 n 140 [(0, vr (some (85, 0))), (1, vi l1), (4, vi l4), (5, vi l5), (6, vl l6), (8, vi l8), (9, vl (ab o 6 l9 (ab o 7 1 (gD S 166 0 (l12.toNat))))), (11, vi (aw o (l11 + (gD S 90 0 ((gD S 91 0 ((gD S 166 0 (l12.toNat)).toNat)).toNat))))), (12, vi (aw o (l12 + 1)))] [] S
      else none)
     else none)
    else none)
   else none))
 else
  (if l5 < 0 then
   run o K false mi_292 n 223 [(0, vr (some (85, 0))), (1, vi l1), (4, vi l4), (5, vi l5), (6, vl l6), (8, vi l8), (9, vl l9), (11, vi l11), (12, vi 1), (13, vi 0)] [] S
  else
   (if l11 < l5 then
    run o K false mi_292 n 223 [(0, vr (some (85, 0))), (1, vi l1), (4, vi l4), (5, vi l5), (6, vl l6), (8, vi l8), (9, vl l9), (11, vi l11), (12, vi 1), (13, vi 0)] [] S
   else
    run o K false mi_292 n 122 [(0, vr (some (85, 0))), (1, vi l1), (4, vi l4), (5, vi l5), (6, vl l6), (8, vi (aw o (l8 + 1)))] [] S))) := rfl
set_option maxRecDepth 100000 in
theorem b292_223 (o : AR) (K : KT) (n : Nat) (S : SD) (l1 : Int) (l4 : Int) (l5 : Int) (l6 : Int) (l8 : Int) (l9 : Int) (l11 : Int) (l12 : Int) (l13 : Int) : run o K false mi_292 (n + 1) 223 [(0, vr (some (85, 0))), (1, vi l1), (4, vi l4), (5, vi l5), (6, vl l6), (8, vi l8), (9, vl l9), (11, vi l11), (12, vi l12), (13, vi l13)] [] S =
 (if l13 < (gD S 85 0 100) then
  (if l12 = 0 then
   (if l12 = 0 then
    run o K false mi_292 n 122 [(0, vr (some (85, 0))), (1, vi l1), (4, vi l4), (5, vi l5), (6, vl l6), (8, vi (aw o (l8 + 1)))] [] S
   else
    run o K false mi_292 n 122 [(0, vr (some (85, 0))), (1, vi l1), (4, vi l4), (5, vi l11), (6, vl l9), (8, vi (aw o (l8 + 1)))] [] S)
  else
   (bI (K 290 [vr (some (85, 0)), vi l13, vi l1, vl l9] S) (fun x2 S1 =>
    (if 0 ≤ l13 ∧ l13 < 8 then
     (if (gD S1 165 0 (l13.toNat)) < x2 then
      run o K false mi_292 n 223 [(0, vr (some (85, 0))), (1, vi l1), (4, vi l4), (5, vi l5), (6, vl l6), (8, vi l8), (9, vl l9), (11, vi l11), (12, vi 0), (13, vi (aw o (l13 + 1)))] [] S1
     else
      run o K false mi_292 n 223 [(0, vr (some (85, 0))), (1, vi l1), (4, vi l4), (5, vi l5), (6, vl l6), (8, vi l8), (9, vl l9), (11, vi l11), (12, vi 1), (13, vi (aw o (l13 + 1)))] [] S1)
    else none))))
 else
  (if l12 = 0 then
   run o K false mi_292 n 122 [(0, vr (some (85, 0))), (1, vi l1), (4, vi l4), (5, vi l5), (6, vl l6), (8, vi (aw o (l8 + 1)))] [] S
  else
   run o K false mi_292 n 122 [(0, vr (some (85, 0))), (1, vi l1), (4, vi l4), (5, vi l11), (6, vl l9), (8, vi (aw o (l8 + 1)))] [] S)) := rfl
set_option maxRecDepth 100000 in
theorem b293_0 (o : AR) (K : KT) (n : Nat) (S : SD) : run o K false mi_293 (n + 1) 0 [(0, vr (some (85, 0)))] [] S =
 some (vl (gD S 85 0 104), S) := rfl
set_option maxRecDepth 100000 in
theorem b294_0 (o : AR) (K : KT) (n : Nat) (S : SD) (a0 : Int) : run o K false mi_294 (n + 1) 0 [(0, vi a0)] [] S =
 (if a0 < 0 then
  some (vi 0, S)
 else
  (if a0 < 8 then
   some (vi 1, S)
  else
   some (vi 0, S))) := rfl
set_option maxRecDepth 100000 in
theorem b295_0 (o : AR) (K : KT) (n : Nat) (S : SD) (a1 : Int) (a2 : Int) : run o K false mi_295 (n + 1) 0 [(0, vr (some (85, 0))), (1, vi a1), (2, vi a2)] [] S =
 (bI (K 197 [vr (some (85, 0)), vi a1] S) (fun x2 S1 =>
  (if x2 = 0 then
   some (vi 0, S1)
  else
   (bI (K 294 [vi a2] S1) (fun x4 S3 =>
    (if x4 = 0 then
     some (vi 0, S3)
    else
     (if 0 ≤ a1 ∧ a1 < 40 then
      (if (gD S3 95 0 (a1.toNat)) < 0 then
       (if 0 ≤ a2 ∧ a2 < 8 then
        (if 0 < (gD S3 167 0 (a2.toNat)) then
         some (vi 0, S3)
        else
         (if 0 ≤ a1 ∧ a1 < 40 then
          some (vi 1, wD S3 95 0 ((a1).toNat) a2)
         else none))
       else none)
      else
       some (vi 0, S3))
     else none))))))) := rfl
set_option maxRecDepth 100000 in
theorem b296_0 (o : AR) (K : KT) (n : Nat) (S : SD) (a1 : Int) (a2 : Int) (a3 : Int) : run o K false mi_296 (n + 1) 0 [(0, vr (some (85, 0))), (1, vi a1), (2, vi a2), (3, vi a3)] [] S =
 (bI (K 294 [vi a1] S) (fun x2 S1 =>
  (if x2 = 0 then
   some (vi 0, S1)
  else
   (bI (K 192 [vl a3, vl 1, vl 1000] S1) (fun x4 S3 =>
    (if x4 = 0 then
     some (vi 0, S3)
    else
     (bI (K 192 [vl a2, vl 0, vl a3] S3) (fun x6 S5 =>
      (if x6 = 0 then
       some (vi 0, S5)
      else
       (if 0 ≤ a1 ∧ a1 < 8 then
        (if 0 ≤ a1 ∧ a1 < 8 then
         some (vi 1, wD (wD S5 169 0 ((a1).toNat) a2) 170 0 ((a1).toNat) a3)
        else none)
       else none)))))))))) := rfl
set_option maxRecDepth 100000 in
theorem b297_0 (o : AR) (K : KT) (n : Nat) (S : SD) (a1 : Int) : run o K false mi_297 (n + 1) 0 [(0, vr (some (85, 0))), (1, vi a1)] [] S =
 run o K false mi_297 n 4 [(0, vr (some (85, 0))), (1, vi a1), (2, vi 0), (3, vi 0)] [] S := rfl
set_option maxRecDepth 100000 in
theorem b297_4 (o : AR) (K : KT) (n : Nat) (S : SD) (l1 : Int) (l2 : Int) (l3 : Int) : run o K false mi_297 (n + 1) 4 [(0, vr (some (85, 0))), (1, vi l1), (2, vi l2), (3, vi l3)] [] S =
 (if l3 < (gD S 85 0 6) then
  (if 0 ≤ l3 ∧ l3 < 40 then
   (if (gD S 95 0 (l3.toNat)) = l1 then
    run o K false mi_297 n 4 [(0, vr (some (85, 0))), (1, vi l1), (2, vi (aw o (l2 + 1))), (3, vi (aw o (l3 + 1)))] [] S
   else
    run o K false mi_297 n 4 [(0, vr (some (85, 0))), (1, vi l1), (2, vi (aw o (l2 + 0))), (3, vi (aw o (l3 + 1)))] [] S)
  else none)
 else
  some (vi l2, S)) := rfl
set_option maxRecDepth 100000 in
theorem b298_0 (o : AR) (K : KT) (n : Nat) (S : SD) (a0 : Int) (a1 : Int) : run o K false mi_298 (n + 1) 0 [(0, vi a0), (1, vi a1)] [] S =
 (if a1 < 0 then
  some (vl 0, S)
 else
  (if a0 < a1 then
   some (vl 0, S)
  else
   run o K false mi_298 n 16 [(0, vi a0), (1, vi a1), (2, vl 1), (4, vi 1)] [] S)) := rfl
set_option maxRecDepth 100000 in
theorem b298_16 (o : AR) (K : KT) (n : Nat) (S : SD) (l0 : Int) (l1 : Int) (l2 : Int) (l4 : Int) : run o K false mi_298 (n + 1) 16 [(0, vi l0), (1, vi l1), (2, vl l2), (4, vi l4)] [] S =
 (if l1 < l4 then
  some (vl l2, S)
 else
  (if l4 = 0 then none else
   run o K false mi_298 n 16 [(0, vi l0), (1, vi l1), (2, vl (al o (ab o 12 (al o (l2 * (aw o ((aw o (l0 - l1)) + l4)))) l4))), (4, vi (aw o (l4 + 1)))] [] S)) := rfl
set_option maxRecDepth 100000 in
theorem b299_0 (o : AR) (K : KT) (n : Nat) (S : SD) (a1 : Int) : run o K false mi_299 (n + 1) 0 [(0, vr (some (85, 0))), (1, vi a1)] [] S =
 run o K false mi_299 n 13 [(0, vr (some (85, 0))), (1, vi a1), (2, vi 0), (3, vi 0), (4, vi 0), (5, vi 0), (6, vi 0)] [] S := rfl
set_option maxRecDepth 100000 in
theorem b299_13 (o : AR) (K : KT) (n : Nat) (S : SD) (l1 : Int) (l2 : Int) (l3 : Int) (l4 : Int) (l5 : Int) (l6 : Int) : run o K false mi_299 (n + 1) 13 [(0, vr (some (85, 0))), (1, vi l1), (2, vi l2), (3, vi l3), (4, vi l4), (5, vi l5), (6, vi l6)] [] S =
 (if l6 < (gD S 85 0 6) then
  (if 0 ≤ l6 ∧ l6 < 40 then
   (if (gD S 96 0 (l6.toNat)) < 0 then
    run o K false mi_299 n 13 [(0, vr (some (85, 0))), (1, vi l1), (2, vi l2), (3, vi l3), (4, vi l4), (5, vi l5), (6, vi (aw o (l6 + 1)))] [] S
   else
    (if 0 ≤ l6 ∧ l6 < 40 then
     (if (gD S 96 0 (l6.toNat)) = 0 then
      (if 0 ≤ l6 ∧ l6 < 40 then
       (if (gD S 95 0 (l6.toNat)) = l1 then
        (if 0 ≤ l6 ∧ l6 < 40 then
         (if (gD S 95 0 (l6.toNat)) = l1 then
          (if 0 ≤ l6 ∧ l6 < 40 then
           (if (gD S 96 0 (l6.toNat)) = 0 then
            run o K false mi_299 n 13 [(0, vr (some (85, 0))), (1, vi l1), (2, vi (aw o (l2 + 1))), (3, vi (aw o (l3 + 1))), (4, vi (aw o (l4 + 1))), (5, vi (aw o (l5 + 1))), (6, vi (aw o (l6 + 1)))] [] S
           else
            run o K false mi_299 n 13 [(0, vr (some (85, 0))), (1, vi l1), (2, vi (aw o (l2 + 1))), (3, vi (aw o (l3 + 1))), (4, vi (aw o (l4 + 1))), (5, vi (aw o (l5 + 0))), (6, vi (aw o (l6 + 1)))] [] S)
          else none)
         else
          run o K false mi_299 n 13 [(0, vr (some (85, 0))), (1, vi l1), (2, vi (aw o (l2 + 1))), (3, vi (aw o (l3 + 1))), (4, vi (aw o (l4 + 1))), (5, vi (aw o (l5 + 0))), (6, vi (aw o (l6 + 1)))] [] S)
        else none)
       else
        (if 0 ≤ l6 ∧ l6 < 40 then
         (if (gD S 95 0 (l6.toNat)) = l1 then
          (if 0 ≤ l6 ∧ l6 < 40 then
           (if (gD S 96 0 (l6.toNat)) = 0 then
            run o K false mi_299 n 13 [(0, vr (some (85, 0))), (1, vi l1), (2, vi (aw o (l2 + 1))), (3, vi (aw o (l3 + 1))), (4, vi (aw o (l4 + 0))), (5, vi (aw o (l5 + 1))), (6, vi (aw o (l6 + 1)))] [] S
           else
            run o K false mi_299 n 13 [(0, vr (some (85, 0))), (1, vi l1), (2, vi (aw o (l2 + 1))), (3, vi (aw o (l3 + 1))), (4, vi (aw o (l4 + 0))), (5, vi (aw o (l5 + 0))), (6, vi (aw o (l6 + 1)))] [] S)
          else none)
         else
          run o K false mi_299 n 13 [(0, vr (some (85, 0))), (1, vi l1), (2, vi (aw o (l2 + 1))), (3, vi (aw o (l3 + 1))), (4, vi (aw o (l4 + 0))), (5, vi (aw o (l5 + 0))), (6, vi (aw o (l6 + 1)))] [] S)
        else none))
      else none)
     else
      (if 0 ≤ l6 ∧ l6 < 40 then
       (if (gD S 95 0 (l6.toNat)) = l1 then
        (if 0 ≤ l6 ∧ l6 < 40 then
         (if (gD S 95 0 (l6.toNat)) = l1 then
          (if 0 ≤ l6 ∧ l6 < 40 then
           (if (gD S 96 0 (l6.toNat)) = 0 then
            run o K false mi_299 n 13 [(0, vr (some (85, 0))), (1, vi l1), (2, vi (aw o (l2 + 1))), (3, vi (aw o (l3 + 0))), (4, vi (aw o (l4 + 1))), (5, vi (aw o (l5 + 1))), (6, vi (aw o (l6 + 1)))] [] S
           else
            run o K false mi_299 n 13 [(0, vr (some (85, 0))), (1, vi l1), (2, vi (aw o (l2 + 1))), (3, vi (aw o (l3 + 0))), (4, vi (aw o (l4 + 1))), (5, vi (aw o (l5 + 0))), (6, vi (aw o (l6 + 1)))] [] S)
          else none)
         else
          run o K false mi_299 n 13 [(0, vr (some (85, 0))), (1, vi l1), (2, vi (aw o (l2 + 1))), (3, vi (aw o (l3 + 0))), (4, vi (aw o (l4 + 1))), (5, vi (aw o (l5 + 0))), (6, vi (aw o (l6 + 1)))] [] S)
        else none)
       else
        (if 0 ≤ l6 ∧ l6 < 40 then
         (if (gD S 95 0 (l6.toNat)) = l1 then
          (if 0 ≤ l6 ∧ l6 < 40 then
           (if (gD S 96 0 (l6.toNat)) = 0 then
            run o K false mi_299 n 13 [(0, vr (some (85, 0))), (1, vi l1), (2, vi (aw o (l2 + 1))), (3, vi (aw o (l3 + 0))), (4, vi (aw o (l4 + 0))), (5, vi (aw o (l5 + 1))), (6, vi (aw o (l6 + 1)))] [] S
           else
            run o K false mi_299 n 13 [(0, vr (some (85, 0))), (1, vi l1), (2, vi (aw o (l2 + 1))), (3, vi (aw o (l3 + 0))), (4, vi (aw o (l4 + 0))), (5, vi (aw o (l5 + 0))), (6, vi (aw o (l6 + 1)))] [] S)
          else none)
         else
          run o K false mi_299 n 13 [(0, vr (some (85, 0))), (1, vi l1), (2, vi (aw o (l2 + 1))), (3, vi (aw o (l3 + 0))), (4, vi (aw o (l4 + 0))), (5, vi (aw o (l5 + 0))), (6, vi (aw o (l6 + 1)))] [] S)
        else none))
      else none))
    else none))
  else none)
 else
  (if l4 = 0 then
   some (vi 0, S)
  else
   run o K false mi_299 n 128 [(0, vr (some (85, 0))), (1, vi l1), (2, vi l2), (3, vi l3), (4, vi l4), (6, vl 0), (8, vi l5)] [] S)) := rfl
set_option maxRecDepth 100000 in
theorem b299_128 (o : AR) (K : KT) (n : Nat) (S : SD) (l1 : Int) (l2 : Int) (l3 : Int) (l4 : Int) (l6 : Int) (l8 : Int) : run o K false mi_299 (n + 1) 128 [(0, vr (some (85, 0))), (1, vi l1), (2, vi l2), (3, vi l3), (4, vi l4), (6, vl l6), (8, vi l8)] [] S =
 (if l3 < l8 then
  (if 0 ≤ l1 ∧ l1 < 8 then
   (bL (K 298 [vi l2, vi l4] S) (fun x2 S1 =>
    (if 0 ≤ l1 ∧ l1 < 8 then
     (if (ab o 9 (al o (l6 * (gD S 170 0 (l1.toNat)))) (al o (x2 * (gD S1 169 0 (l1.toNat))))) < 0 then
      some (vi 1, S1)
     else
      some (vi 0, S1))
    else none)))
  else none)
 else
  (if l4 < l8 then
   (if 0 ≤ l1 ∧ l1 < 8 then
    (bL (K 298 [vi l2, vi l4] S) (fun x4 S3 =>
     (if 0 ≤ l1 ∧ l1 < 8 then
      (if (ab o 9 (al o (l6 * (gD S 170 0 (l1.toNat)))) (al o (x4 * (gD S3 169 0 (l1.toNat))))) < 0 then
       some (vi 1, S3)
      else
       some (vi 0, S3))
     else none)))
   else none)
  else
   (bL (K 298 [vi l3, vi l8] S) (fun x6 S5 =>
    (bL (K 298 [vi (aw o (l2 - l3)), vi (aw o (l4 - l8))] S5) (fun x8 S7 =>
     run o K false mi_299 n 128 [(0, vr (some (85, 0))), (1, vi l1), (2, vi l2), (3, vi l3), (4, vi l4), (6, vl (al o (l6 + (al o (x6 * x8))))), (8, vi (aw o (l8 + 1)))] [] S7)))))) := rfl
set_option maxRecDepth 100000 in
theorem b300_0 (o : AR) (K : KT) (n : Nat) (S : SD) (a1 : Int) (a2 : Int) : run o K false mi_300 (n + 1) 0 [(0, vr (some (85, 0))), (1, vi a1), (2, vi a2)] [] S =
 (bI (K 294 [vi a1] S) (fun x2 S1 =>
  (if x2 = 0 then
   some (vi 0, S1)
  else
   (bI (K 192 [vl a2, vl 1, vl 999] S1) (fun x4 S3 =>
    (if x4 = 0 then
     some (vi 0, S3)
    else
     (bI (K 297 [vr (some (85, 0)), vi a1] S3) (fun x6 S5 =>
      (if x6 = 0 then
       some (vi 0, S5)
      else
       (if 0 ≤ a1 ∧ a1 < 8 then
        (if 0 < (gD S5 167 0 (a1.toNat)) then
         some (vi 0, S5)
        else
         (if 0 ≤ a1 ∧ a1 < 8 then
          (if (gD S5 168 0 (a1.toNat)) = 0 then
           run o K false mi_300 n 49 [(0, vr (some (85, 0))), (1, vi a1), (2, vi a2), (3, vi 0)] [] S5
          else
           some (vi 0, S5))
         else none))
       else none)))))))))) := rfl
set_option maxRecDepth 100000 in
theorem b300_49 (o : AR) (K : KT) (n : Nat) (S : SD) (l1 : Int) (l2 : Int) (l3 : Int) : run o K false mi_300 (n + 1) 49 [(0, vr (some (85, 0))), (1, vi l1), (2, vi l2), (3, vi l3)] [] S =
 (if l3 < l1 then
  (bI (K 297 [vr (some (85, 0)), vi l3] S) (fun x2 S1 =>
   (if 0 < x2 then
    (if 0 ≤ l3 ∧ l3 < 8 then
     (if (gD S1 167 0 (l3.toNat)) = 0 then
      some (vi 0, S1)
     else
      (if 0 ≤ l3 ∧ l3 < 8 then
       (if (gD S1 168 0 (l3.toNat)) = 0 then
        (bI (K 299 [vr (some (85, 0)), vi l3] S1) (fun x4 S3 =>
         (if x4 = 0 then
          run o K false mi_300 n 49 [(0, vr (some (85, 0))), (1, vi l1), (2, vi l2), (3, vi (aw o (l3 + 1)))] [] S3
         else
          some (vi 0, S3))))
       else
        some (vi 0, S1))
      else none))
    else none)
   else
    run o K false mi_300 n 49 [(0, vr (some (85, 0))), (1, vi l1), (2, vi l2), (3, vi (aw o (l3 + 1)))] [] S1)))
 else
  (if 0 ≤ l1 ∧ l1 < 8 then
   some (vi 1, wD S 167 0 ((l1).toNat) l2)
  else none)) := rfl
set_option maxRecDepth 100000 in
theorem b301_0 (o : AR) (K : KT) (n : Nat) (S : SD) (a1 : Int) (a2 : Int) : run o K false mi_301 (n + 1) 0 [(0, vr (some (85, 0))), (1, vi a1), (2, vi a2)] [] S =
 (bI (K 197 [vr (some (85, 0)), vi a1] S) (fun x2 S1 =>
  (if x2 = 0 then
   some (vi 0, S1)
  else
   (if 0 ≤ a1 ∧ a1 < 40 then
    (if (gD S1 95 0 (a1.toNat)) < 0 then
     some (vi 0, S1)
    else
     (if 0 ≤ a1 ∧ a1 < 40 then
      (if 0 ≤ (gD S1 95 0 (a1.toNat)) ∧ (gD S1 95 0 (a1.toNat)) < 8 then
       (if (gD S1 167 0 ((gD S1 95 0 (a1.toNat)).toNat)) = 0 then
        some (vi 0, S1)
       else
        (if 0 ≤ a1 ∧ a1 < 40 then
         (if (gD S1 96 0 (a1.toNat)) < 0 then
          (if a2 = 0 then
           (if 0 ≤ a1 ∧ a1 < 40 then
            (if a2 = 0 then
             some (vi 1, wD S1 96 0 ((a1).toNat) 0)
            else
             (if 0 ≤ a1 ∧ a1 < 40 then
              (if 0 ≤ a1 ∧ a1 < 40 then
               (if 0 ≤ a1 ∧ a1 < 40 then
                (if 0 ≤ (gD (wD (wD S1 96 0 ((a1).toNat) 0) 94 0 ((a1).toNat) (gD (wD S1 96 0 ((a1).toNat) 0) 93 0 (a1.toNat))) 95 0 (a1.toNat)) ∧ (gD (wD (wD S1 96 0 ((a1).toNat) 0) 94 0 ((a1).toNat) (gD (wD S1 96 0 ((a1).toNat) 0) 93 0 (a1.toNat))) 95 0 (a1.toNat)) < 8 then
                 (if 0 ≤ a1 ∧ a1 < 40 then
                  some (vi 1, wD (wD (wD S1 96 0 ((a1).toNat) 0) 94 0 ((a1).toNat) (gD (wD S1 96 0 ((a1).toNat) 0) 93 0 (a1.toNat))) 93 0 ((a1).toNat) (gD (wD (wD S1 96 0 ((a1).toNat) 0) 94 0 ((a1).toNat) (gD (wD S1 96 0 ((a1).toNat) 0) 93 0 (a1.toNat))) 167 0 ((gD (wD (wD S1 96 0 ((a1).toNat) 0) 94 0 ((a1).toNat) (gD (wD S1 96 0 ((a1).toNat) 0) 93 0 (a1.toNat))) 95 0 (a1.toNat)).toNat)))
                 else none)
                else none)
               else none)
              else none)
             else none))
           else none)
          else
           (if 0 ≤ a1 ∧ a1 < 40 then
            (if a2 = 0 then
             some (vi 1, wD S1 96 0 ((a1).toNat) 1)
            else
             (if 0 ≤ a1 ∧ a1 < 40 then
              (if 0 ≤ a1 ∧ a1 < 40 then
               (if 0 ≤ a1 ∧ a1 < 40 then
                (if 0 ≤ (gD (wD (wD S1 96 0 ((a1).toNat) 1) 94 0 ((a1).toNat) (gD (wD S1 96 0 ((a1).toNat) 1) 93 0 (a1.toNat))) 95 0 (a1.toNat)) ∧ (gD (wD (wD S1 96 0 ((a1).toNat) 1) 94 0 ((a1).toNat) (gD (wD S1 96 0 ((a1).toNat) 1) 93 0 (a1.toNat))) 95 0 (a1.toNat)) < 8 then
                 (if 0 ≤ a1 ∧ a1 < 40 then
                  some (vi 1, wD (wD (wD S1 96 0 ((a1).toNat) 1) 94 0 ((a1).toNat) (gD (wD S1 96 0 ((a1).toNat) 1) 93 0 (a1.toNat))) 93 0 ((a1).toNat) (gD (wD (wD S1 96 0 ((a1).toNat) 1) 94 0 ((a1).toNat) (gD (wD S1 96 0 ((a1).toNat) 1) 93 0 (a1.toNat))) 167 0 ((gD (wD (wD S1 96 0 ((a1).toNat) 1) 94 0 ((a1).toNat) (gD (wD S1 96 0 ((a1).toNat) 1) 93 0 (a1.toNat))) 95 0 (a1.toNat)).toNat)))
                 else none)
                else none)
               else none)
              else none)
             else none))
           else none))
         else
          some (vi 0, S1))
        else none))
      else none)
     else none))
   else none)))) := rfl
set_option maxRecDepth 100000 in
theorem b302_0 (o : AR) (K : KT) (n : Nat) (S : SD) (a1 : Int) : run o K false mi_302 (n + 1) 0 [(0, vr (some (85, 0))), (1, vi a1)] [] S =
 (bI (K 294 [vi a1] S) (fun x2 S1 =>
  (if x2 = 0 then
   some (vi (-1), S1)
  else
   (bI (K 299 [vr (some (85, 0)), vi a1] S1) (fun x4 S3 =>
    (if x4 = 0 then
     some (vi 0, S3)
    else
     some (vi 1, S3))))))) := rfl
set_option maxRecDepth 100000 in
theorem b303_0 (o : AR) (K : KT) (n : Nat) (S : SD) (a1 : Int) : run o K false mi_303 (n + 1) 0 [(0, vr (some (85, 0))), (1, vi a1)] [] S =
 (bI (K 294 [vi a1] S) (fun x2 S1 =>
  (if x2 = 0 then
   some (vi (-1), S1)
  else
   run o K false mi_303 n 13 [(0, vr (some (85, 0))), (2, vi 0), (3, vi a1)] [] S1))) := rfl
set_option maxRecDepth 100000 in
theorem b303_13 (o : AR) (K : KT) (n : Nat) (S : SD) (l2 : Int) (l3 : Int) : run o K false mi_303 (n + 1) 13 [(0, vr (some (85, 0))), (2, vi l2), (3, vi l3)] [] S =
 (if l3 < 8 then
  (if 0 ≤ l3 ∧ l3 < 8 then
   (if (gD S 168 0 (l3.toNat)) = 0 then
    (if 0 ≤ l3 ∧ l3 < 8 then
     run o K false mi_303 n 13 [(0, vr (some (85, 0))), (2, vi (aw o (l2 + 1))), (3, vi (aw o (l3 + 1)))] [] (wD S 168 0 ((l3).toNat) 1)
    else none)
   else
    (if 0 ≤ l3 ∧ l3 < 8 then
     run o K false mi_303 n 13 [(0, vr (some (85, 0))), (2, vi (aw o (l2 + 0))), (3, vi (aw o (l3 + 1)))] [] (wD S 168 0 ((l3).toNat) 1)
    else none))
  else none)
 else
  some (vi l2, S)) := rfl
set_option maxRecDepth 100000 in
theorem b304_0 (o : AR) (K : KT) (n : Nat) (S : SD) (a1 : Int) : run o K false mi_304 (n + 1) 0 [(0, vr (some (85, 0))), (1, vi a1)] [] S =
 (bI (K 294 [vi a1] S) (fun x2 S1 =>
  (if x2 = 0 then
   some (vi (-1), S1)
  else
   (if 0 ≤ a1 ∧ a1 < 8 then
    (if (gD S1 167 0 (a1.toNat)) = 0 then
     some (vi (-1), S1)
    else
     run o K false mi_304 n 22 [(0, vr (some (85, 0))), (1, vi a1), (2, vi 0), (3, vi 0)] [] S1)
   else none)))) := rfl
set_option maxRecDepth 100000 in
theorem b304_22 (o : AR) (K : KT) (n : Nat) (S : SD) (l1 : Int) (l2 : Int) (l3 : Int) : run o K false mi_304 (n + 1) 22 [(0, vr (some (85, 0))), (1, vi l1), (2, vi l2), (3, vi l3)] [] S =
 (if l3 < (gD S 85 0 6) then
  (if 0 ≤ l3 ∧ l3 < 40 then
   (if (gD S 95 0 (l3.toNat)) = l1 then
    (if 0 ≤ l3 ∧ l3 < 40 then
     (if (gD S 96 0 (l3.toNat)) = 1 then
      (if 0 ≤ l3 ∧ l3 < 40 then
       (if 0 ≤ l3 ∧ l3 < 40 then
        (if 0 ≤ l3 ∧ l3 < 40 then
         run o K false mi_304 n 22 [(0, vr (some (85, 0))), (1, vi l1), (2, vi (aw o (l2 + 1))), (3, vi (aw o (l3 + 1)))] [] (wD (wD S 93 0 ((l3).toNat) (gD S 94 0 (l3.toNat))) 96 0 ((l3).toNat) (-1))
        else none)
       else none)
      else none)
     else
      (if 0 ≤ l3 ∧ l3 < 40 then
       run o K false mi_304 n 22 [(0, vr (some (85, 0))), (1, vi l1), (2, vi l2), (3, vi (aw o (l3 + 1)))] [] (wD S 96 0 ((l3).toNat) (-1))
      else none))
    else none)
   else
    run o K false mi_304 n 22 [(0, vr (some (85, 0))), (1, vi l1), (2, vi l2), (3, vi (aw o (l3 + 1)))] [] S)
  else none)
 else
  (if 0 ≤ l1 ∧ l1 < 8 then
   some (vi l2, wD S 167 0 ((l1).toNat) 0)
  else none)) := rfl
set_option maxRecDepth 100000 in
theorem b305_0 (o : AR) (K : KT) (n : Nat) (S : SD) (a1 : Int) (a2 : Int) : run o K false mi_305 (n + 1) 0 [(0, vr (some (85, 0))), (1, vi a1), (2, vi a2)] [] S =
 (bI (K 197 [vr (some (85, 0)), vi a1] S) (fun x2 S1 =>
  (if x2 = 0 then
   some (vi (-1), S1)
  else
   (if a2 = 0 then
    (if 0 ≤ a1 ∧ a1 < 40 then
     some (vi (gD S1 91 0 (a1.toNat)), S1)
    else none)
   else (if a2 = 1 then
    (if 0 ≤ a1 ∧ a1 < 40 then
     some (vi (gD S1 92 0 (a1.toNat)), S1)
    else none)
   else (if a2 = 2 then
    (if 0 ≤ a1 ∧ a1 < 40 then
     some (vi (gD S1 93 0 (a1.toNat)), S1)
    else none)
   else (if a2 = 3 then
    (if 0 ≤ a1 ∧ a1 < 40 then
     some (vi (gD S1 95 0 (a1.toNat)), S1)
    else none)
   else (if a2 = 4 then
    (if 0 ≤ a1 ∧ a1 < 40 then
     some (vi (gD S1 109 0 (a1.toNat)), S1)
    else none)
   else (if a2 = 5 then
    (if 0 ≤ a1 ∧ a1 < 40 then
     some (vi (gD S1 96 0 (a1.toNat)), S1)
    else none)
   else (if a2 = 6 then
    run o K false mi_305 n 101 [(0, vr (some (85, 0))), (1, vi a1), (3, vi 0), (4, vi 0)] [] S1
   else 
    some (vi (-1), S1))))))))))) := rfl
set_option maxRecDepth 100000 in
theorem b305_101 (o : AR) (K : KT) (n : Nat) (S : SD) (l1 : Int) (l3 : Int) (l4 : Int) : run o K false mi_305 (n + 1) 101 [(0, vr (some (85, 0))), (1, vi l1), (3, vi l3), (4, vi l4)] [] S =
 (if l4 < (gD S 85 0 13) then
  (if 0 ≤ l4 ∧ l4 < 400 then
   (if (gD S 97 0 (l4.toNat)) = l1 then
    run o K false mi_305 n 101 [(0, vr (some (85, 0))), (1, vi l1), (3, vi (aw o (l3 + 1))), (4, vi (aw o (l4 + 1)))] [] S
   else
    run o K false mi_305 n 101 [(0, vr (some (85, 0))), (1, vi l1), (3, vi (aw o (l3 + 0))), (4, vi (aw o (l4 + 1)))] [] S)
  else none)
 else
  some (vi l3, S)) := rfl
set_option maxRecDepth 100000 in
theorem b306_0 (o : AR) (K : KT) (n : Nat) (S : SD) (a1 : Int) : run o K false mi_306 (n + 1) 0 [(0, vr (some (85, 0))), (1, vi a1)] [] S =
 (if a1 = 0 then
  some (vi (gD S 85 0 0), S)
 else (if a1 = 1 then
  some (vi (gD S 85 0 6), S)
 else (if a1 = 2 then
  some (vi (gD S 85 0 13), S)
 else (if a1 = 3 then
  some (vi (gD S 85 0 32), S)
 else (if a1 = 4 then
  some (vi (gD S 85 0 64), S)
 else (if a1 = 5 then
  some (vi (gD S 85 0 73), S)
 else (if a1 = 6 then
  some (vi (gD S 85 0 100), S)
 else (if a1 = 7 then
  some (vi (gD S 85 0 31), S)
 else 
  some (vi (-1), S))))))))) := rfl
