set_option maxRecDepth 100000 in
theorem b307_18 (o : AR) (K : KT) (n : Nat) (S : SD) (l3 : Int) : run o K false mi_307 (n + 1) 18 [(0, vr (some (0, 0))), (1, vr (some (2, 0))), (2, vr (some (85, 0))), (3, vi l3)] [] S =
 (if (aw o ((gD S 0 1 0) - 7)) < l3 then
  some (vi 1, S)
 else
  (if 0 ≤ l3 ∧ l3 < gD S 0 1 0 then
   (if (ab o 0 (gD S 0 0 (l3.toNat)) 63) = 0 then
    (if 0 ≤ (aw o (l3 + 1)) ∧ (aw o (l3 + 1)) < gD S 0 1 0 then
     (if 0 ≤ (aw o (l3 + 2)) ∧ (aw o (l3 + 2)) < gD S 0 1 0 then
      (if 0 ≤ (aw o (l3 + 3)) ∧ (aw o (l3 + 3)) < gD S 0 1 0 then
       (if 0 ≤ (aw o (l3 + 4)) ∧ (aw o (l3 + 4)) < gD S 0 1 0 then
        (if 0 ≤ (aw o (l3 + 5)) ∧ (aw o (l3 + 5)) < gD S 0 1 0 then
         (bI (K 148 [vr (some (2, 0)), vi (gD S 0 0 ((aw o (l3 + 1)).toNat)), vi (gD S 0 0 ((aw o (l3 + 2)).toNat)), vi (gD S 0 0 ((aw o (l3 + 3)).toNat)), vi (gD S 0 0 ((aw o (l3 + 4)).toNat)), vi (gD S 0 0 ((aw o (l3 + 5)).toNat))] S) (fun x2 S1 =>
          (if 0 ≤ (aw o (l3 + 1)) ∧ (aw o (l3 + 1)) < gD S1 0 1 0 then
           (if 0 ≤ (aw o (l3 + 2)) ∧ (aw o (l3 + 2)) < gD S1 0 1 0 then
            (if 0 ≤ (aw o (l3 + 3)) ∧ (aw o (l3 + 3)) < gD S1 0 1 0 then
             (if 0 ≤ (aw o (l3 + 4)) ∧ (aw o (l3 + 4)) < gD S1 0 1 0 then
              (if 0 ≤ (aw o (l3 + 5)) ∧ (aw o (l3 + 5)) < gD S1 0 1 0 then
               (bI (K 198 [vr (some (85, 0)), vi (gD S1 0 0 ((aw o (l3 + 1)).toNat)), vi (gD S1 0 0 ((aw o (l3 + 2)).toNat)), vi (gD S1 0 0 ((aw o (l3 + 3)).toNat)), vi (gD S1 0 0 ((aw o (l3 + 4)).toNat)), vi (gD S1 0 0 ((aw o (l3 + 5)).toNat))] S1) (fun x4 S3 =>
                (if x2 = x4 then
                 run o K false mi_307 n 18 [(0, vr (some (0, 0))), (1, vr (some (2, 0))), (2, vr (some (85, 0))), (3, vi (aw o (l3 + 7)))] [] S3
                else
                 some (vi 0, S3))))
              else none)
             else none)
            else none)
           else none)
          else none)))
        else none)
       else none)
      else none)
     else none)
    else none)
   else (if (ab o 0 (gD S 0 0 (l3.toNat)) 63) = 1 then
    (if 0 ≤ (aw o (l3 + 1)) ∧ (aw o (l3 + 1)) < gD S 0 1 0 then
     (if 0 ≤ (aw o (l3 + 2)) ∧ (aw o (l3 + 2)) < gD S 0 1 0 then
      (if 0 ≤ (aw o (l3 + 3)) ∧ (aw o (l3 + 3)) < gD S 0 1 0 then
       (bI (K 149 [vr (some (2, 0)), vi (gD S 0 0 ((aw o (l3 + 1)).toNat)), vi (gD S 0 0 ((aw o (l3 + 2)).toNat)), vi (gD S 0 0 ((aw o (l3 + 3)).toNat))] S) (fun x6 S5 =>
        (if 0 ≤ (aw o (l3 + 1)) ∧ (aw o (l3 + 1)) < gD S5 0 1 0 then
         (if 0 ≤ (aw o (l3 + 2)) ∧ (aw o (l3 + 2)) < gD S5 0 1 0 then
          (if 0 ≤ (aw o (l3 + 3)) ∧ (aw o (l3 + 3)) < gD S5 0 1 0 then
           (bI (K 199 [vr (some (85, 0)), vi (gD S5 0 0 ((aw o (l3 + 1)).toNat)), vi (gD S5 0 0 ((aw o (l3 + 2)).toNat)), vi (gD S5 0 0 ((aw o (l3 + 3)).toNat))] S5) (fun x8 S7 =>
            (if x6 = x8 then
             run o K false mi_307 n 18 [(0, vr (some (0, 0))), (1, vr (some (2, 0))), (2, vr (some (85, 0))), (3, vi (aw o (l3 + 7)))] [] S7
            else
             some (vi 0, S7))))
          else none)
         else none)
        else none)))
      else none)
     else none)
    else none)
   else (if (ab o 0 (gD S 0 0 (l3.toNat)) 63) = 2 then
    (if 0 ≤ (aw o (l3 + 1)) ∧ (aw o (l3 + 1)) < gD S 0 1 0 then
     (if 0 ≤ (aw o (l3 + 2)) ∧ (aw o (l3 + 2)) < gD S 0 1 0 then
      (bI (K 150 [vr (some (2, 0)), vi (gD S 0 0 ((aw o (l3 + 1)).toNat)), vi (gD S 0 0 ((aw o (l3 + 2)).toNat))] S) (fun x10 S9 =>
       (if 0 ≤ (aw o (l3 + 1)) ∧ (aw o (l3 + 1)) < gD S9 0 1 0 then
        (if 0 ≤ (aw o (l3 + 2)) ∧ (aw o (l3 + 2)) < gD S9 0 1 0 then
         (bI (K 200 [vr (some (85, 0)), vi (gD S9 0 0 ((aw o (l3 + 1)).toNat)), vi (gD S9 0 0 ((aw o (l3 + 2)).toNat))] S9) (fun x12 S11 =>
          (if x10 = x12 then
           run o K false mi_307 n 18 [(0, vr (some (0, 0))), (1, vr (some (2, 0))), (2, vr (some (85, 0))), (3, vi (aw o (l3 + 7)))] [] S11
          else
           some (vi 0, S11))))
        else none)
       else none)))
     else none)
    else none)
   else (if (ab o 0 (gD S 0 0 (l3.toNat)) 63) = 3 then
    (bI (K 151 [vr (some (2, 0))] S) (fun x14 S13 =>
     (bI (K 259 [vr (some (85, 0))] S13) (fun x16 S15 =>
      (if x14 = x16 then
       run o K false mi_307 n 18 [(0, vr (some (0, 0))), (1, vr (some (2, 0))), (2, vr (some (85, 0))), (3, vi (aw o (l3 + 7)))] [] S15
      else
       some (vi 0, S15))))))
   else (if (ab o 0 (gD S 0 0 (l3.toNat)) 63) = 4 then
    (if 0 ≤ (aw o (l3 + 1)) ∧ (aw o (l3 + 1)) < gD S 0 1 0 then
     (if 0 ≤ (aw o (l3 + 2)) ∧ (aw o (l3 + 2)) < gD S 0 1 0 then
      (if 0 ≤ (aw o (l3 + 3)) ∧ (aw o (l3 + 3)) < gD S 0 1 0 then
       (if 0 ≤ (aw o (l3 + 4)) ∧ (aw o (l3 + 4)) < gD S 0 1 0 then
        (if 0 ≤ (aw o (l3 + 5)) ∧ (aw o (l3 + 5)) < gD S 0 1 0 then
         (if 0 ≤ (aw o (l3 + 6)) ∧ (aw o (l3 + 6)) < gD S 0 1 0 then
          (bI (K 152 [vr (some (2, 0)), vi (gD S 0 0 ((aw o (l3 + 1)).toNat)), vi (gD S 0 0 ((aw o (l3 + 2)).toNat)), vi (gD S 0 0 ((aw o (l3 + 3)).toNat)), vi (gD S 0 0 ((aw o (l3 + 4)).toNat)), vi (gD S 0 0 ((aw o (l3 + 5)).toNat)), vi (gD S 0 0 ((aw o (l3 + 6)).toNat))] S) (fun x18 S17 =>
           (if 0 ≤ (aw o (l3 + 1)) ∧ (aw o (l3 + 1)) < gD S17 0 1 0 then
            (if 0 ≤ (aw o (l3 + 2)) ∧ (aw o (l3 + 2)) < gD S17 0 1 0 then
             (if 0 ≤ (aw o (l3 + 3)) ∧ (aw o (l3 + 3)) < gD S17 0 1 0 then
              (if 0 ≤ (aw o (l3 + 4)) ∧ (aw o (l3 + 4)) < gD S17 0 1 0 then
               (if 0 ≤ (aw o (l3 + 5)) ∧ (aw o (l3 + 5)) < gD S17 0 1 0 then
                (if 0 ≤ (aw o (l3 + 6)) ∧ (aw o (l3 + 6)) < gD S17 0 1 0 then
                 (bI (K 211 [vr (some (85, 0)), vi (gD S17 0 0 ((aw o (l3 + 1)).toNat)), vi (gD S17 0 0 ((aw o (l3 + 2)).toNat)), vi (gD S17 0 0 ((aw o (l3 + 3)).toNat)), vi (gD S17 0 0 ((aw o (l3 + 4)).toNat)), vi (gD S17 0 0 ((aw o (l3 + 5)).toNat)), vi (gD S17 0 0 ((aw o (l3 + 6)).toNat))] S17) (fun x20 S19 =>
                  (if x18 = x20 then
                   run o K false mi_307 n 18 [(0, vr (some (0, 0))), (1, vr (some (2, 0))), (2, vr (some (85, 0))), (3, vi (aw o (l3 + 7)))] [] S19
                  else
                   some (vi 0, S19))))
                else none)
               else none)
              else none)
             else none)
            else none)
           else none)))
         else none)
        else none)
       else none)
      else none)
     else none)
    else none)
   else (if (ab o 0 (gD S 0 0 (l3.toNat)) 63) = 5 then
    (if 0 ≤ (aw o (l3 + 1)) ∧ (aw o (l3 + 1)) < gD S 0 1 0 then
     (if 0 ≤ (aw o (l3 + 2)) ∧ (aw o (l3 + 2)) < gD S 0 1 0 then
      (bI (K 153 [vr (some (2, 0)), vi (gD S 0 0 ((aw o (l3 + 1)).toNat)), vi (gD S 0 0 ((aw o (l3 + 2)).toNat))] S) (fun x22 S21 =>
       (if 0 ≤ (aw o (l3 + 1)) ∧ (aw o (l3 + 1)) < gD S21 0 1 0 then
        (if 0 ≤ (aw o (l3 + 2)) ∧ (aw o (l3 + 2)) < gD S21 0 1 0 then
         (bI (K 212 [vr (some (85, 0)), vi (gD S21 0 0 ((aw o (l3 + 1)).toNat)), vi (gD S21 0 0 ((aw o (l3 + 2)).toNat))] S21) (fun x24 S23 =>
          (if x22 = x24 then
           run o K false mi_307 n 18 [(0, vr (some (0, 0))), (1, vr (some (2, 0))), (2, vr (some (85, 0))), (3, vi (aw o (l3 + 7)))] [] S23
          else
           some (vi 0, S23))))
        else none)
       else none)))
     else none)
    else none)
   else (if (ab o 0 (gD S 0 0 (l3.toNat)) 63) = 6 then
    (if 0 ≤ (aw o (l3 + 1)) ∧ (aw o (l3 + 1)) < gD S 0 1 0 then
     (if 0 ≤ (aw o (l3 + 2)) ∧ (aw o (l3 + 2)) < gD S 0 1 0 then
      (bI (K 154 [vr (some (2, 0)), vi (gD S 0 0 ((aw o (l3 + 1)).toNat)), vi (gD S 0 0 ((aw o (l3 + 2)).toNat))] S) (fun x26 S25 =>
       (if 0 ≤ (aw o (l3 + 1)) ∧ (aw o (l3 + 1)) < gD S25 0 1 0 then
        (if 0 ≤ (aw o (l3 + 2)) ∧ (aw o (l3 + 2)) < gD S25 0 1 0 then
         (bI (K 204 [vr (some (85, 0)), vi (gD S25 0 0 ((aw o (l3 + 1)).toNat)), vi (gD S25 0 0 ((aw o (l3 + 2)).toNat))] S25) (fun x28 S27 =>
          (if x26 = x28 then
           run o K false mi_307 n 18 [(0, vr (some (0, 0))), (1, vr (some (2, 0))), (2, vr (some (85, 0))), (3, vi (aw o (l3 + 7)))] [] S27
          else
           some (vi 0, S27))))
        else none)
       else none)))
     else none)
    else none)
   else (if (ab o 0 (gD S 0 0 (l3.toNat)) 63) = 7 then
    (if 0 ≤ (aw o (l3 + 1)) ∧ (aw o (l3 + 1)) < gD S 0 1 0 then
     (if 0 ≤ (aw o (l3 + 2)) ∧ (aw o (l3 + 2)) < gD S 0 1 0 then
      (bI (K 155 [vr (some (2, 0)), vi (gD S 0 0 ((aw o (l3 + 1)).toNat)), vi (gD S 0 0 ((aw o (l3 + 2)).toNat))] S) (fun x30 S29 =>
       (if 0 ≤ (aw o (l3 + 1)) ∧ (aw o (l3 + 1)) < gD S29 0 1 0 then
        (if 0 ≤ (aw o (l3 + 2)) ∧ (aw o (l3 + 2)) < gD S29 0 1 0 then
         (bI (K 214 [vr (some (85, 0)), vi (gD S29 0 0 ((aw o (l3 + 1)).toNat)), vi (gD S29 0 0 ((aw o (l3 + 2)).toNat))] S29) (fun x32 S31 =>
          (if x30 = x32 then
           run o K false mi_307 n 18 [(0, vr (some (0, 0))), (1, vr (some (2, 0))), (2, vr (some (85, 0))), (3, vi (aw o (l3 + 7)))] [] S31
          else
           some (vi 0, S31))))
        else none)
       else none)))
     else none)
    else none)
   else (if (ab o 0 (gD S 0 0 (l3.toNat)) 63) = 8 then
    (if 0 ≤ (aw o (l3 + 1)) ∧ (aw o (l3 + 1)) < gD S 0 1 0 then
     (if 0 ≤ (aw o (l3 + 2)) ∧ (aw o (l3 + 2)) < gD S 0 1 0 then
      (bI (K 156 [vr (some (2, 0)), vi (gD S 0 0 ((aw o (l3 + 1)).toNat)), vi (gD S 0 0 ((aw o (l3 + 2)).toNat))] S) (fun x34 S33 =>
       (if 0 ≤ (aw o (l3 + 1)) ∧ (aw o (l3 + 1)) < gD S33 0 1 0 then
        (if 0 ≤ (aw o (l3 + 2)) ∧ (aw o (l3 + 2)) < gD S33 0 1 0 then
         (bI (K 215 [vr (some (85, 0)), vi (gD S33 0 0 ((aw o (l3 + 1)).toNat)), vi (gD S33 0 0 ((aw o (l3 + 2)).toNat))] S33) (fun x36 S35 =>
          (if x34 = x36 then
           run o K false mi_307 n 18 [(0, vr (some (0, 0))), (1, vr (some (2, 0))), (2, vr (some (85, 0))), (3, vi (aw o (l3 + 7)))] [] S35
          else
           some (vi 0, S35))))
        else none)
       else none)))
     else none)
    else none)
   else (if (ab o 0 (gD S 0 0 (l3.toNat)) 63) = 9 then
    (if 0 ≤ (aw o (l3 + 1)) ∧ (aw o (l3 + 1)) < gD S 0 1 0 then
     (bI (K 157 [vr (some (2, 0)), vi (gD S 0 0 ((aw o (l3 + 1)).toNat))] S) (fun x38 S37 =>
      (if 0 ≤ (aw o (l3 + 1)) ∧ (aw o (l3 + 1)) < gD S37 0 1 0 then
       (bI (K 216 [vr (some (85, 0)), vi (gD S37 0 0 ((aw o (l3 + 1)).toNat))] S37) (fun x40 S39 =>
        (if x38 = x40 then
         run o K false mi_307 n 18 [(0, vr (some (0, 0))), (1, vr (some (2, 0))), (2, vr (some (85, 0))), (3, vi (aw o (l3 + 7)))] [] S39
        else
         some (vi 0, S39))))
      else none)))
    else none)
   else (if (ab o 0 (gD S 0 0 (l3.toNat)) 63) = 10 then
    (if 0 ≤ (aw o (l3 + 1)) ∧ (aw o (l3 + 1)) < gD S 0 1 0 then
     (if 0 ≤ (aw o (l3 + 2)) ∧ (aw o (l3 + 2)) < gD S 0 1 0 then
      (if 0 ≤ (aw o (l3 + 3)) ∧ (aw o (l3 + 3)) < gD S 0 1 0 then
       (if 0 ≤ (aw o (l3 + 4)) ∧ (aw o (l3 + 4)) < gD S 0 1 0 then
        (bI (K 158 [vr (some (2, 0)), vi (gD S 0 0 ((aw o (l3 + 1)).toNat)), vi (gD S 0 0 ((aw o (l3 + 2)).toNat)), vi (gD S 0 0 ((aw o (l3 + 3)).toNat)), vi (gD S 0 0 ((aw o (l3 + 4)).toNat))] S) (fun x42 S41 =>
         (if 0 ≤ (aw o (l3 + 1)) ∧ (aw o (l3 + 1)) < gD S41 0 1 0 then
          (if 0 ≤ (aw o (l3 + 2)) ∧ (aw o (l3 + 2)) < gD S41 0 1 0 then
           (if 0 ≤ (aw o (l3 + 3)) ∧ (aw o (l3 + 3)) < gD S41 0 1 0 then
            (if 0 ≤ (aw o (l3 + 4)) ∧ (aw o (l3 + 4)) < gD S41 0 1 0 then
             (bI (K 219 [vr (some (85, 0)), vi (gD S41 0 0 ((aw o (l3 + 1)).toNat)), vi (gD S41 0 0 ((aw o (l3 + 2)).toNat)), vi (gD S41 0 0 ((aw o (l3 + 3)).toNat)), vi (gD S41 0 0 ((aw o (l3 + 4)).toNat))] S41) (fun x44 S43 =>
              (if x42 = x44 then
               run o K false mi_307 n 18 [(0, vr (some (0, 0))), (1, vr (some (2, 0))), (2, vr (some (85, 0))), (3, vi (aw o (l3 + 7)))] [] S43
              else
               some (vi 0, S43))))
            else none)
           else none)
          else none)
         else none)))
       else none)
      else none)
     else none)
    else none)
   else (if (ab o 0 (gD S 0 0 (l3.toNat)) 63) = 11 then
    (if 0 ≤ (aw o (l3 + 1)) ∧ (aw o (l3 + 1)) < gD S 0 1 0 then
     (if 0 ≤ (aw o (l3 + 2)) ∧ (aw o (l3 + 2)) < gD S 0 1 0 then
      (if 0 ≤ (aw o (l3 + 3)) ∧ (aw o (l3 + 3)) < gD S 0 1 0 then
       (if 0 ≤ (aw o (l3 + 4)) ∧ (aw o (l3 + 4)) < gD S 0 1 0 then
        (if 0 ≤ (aw o (l3 + 5)) ∧ (aw o (l3 + 5)) < gD S 0 1 0 then
         (bI (K 159 [vr (some (2, 0)), vi (gD S 0 0 ((aw o (l3 + 1)).toNat)), vi (gD S 0 0 ((aw o (l3 + 2)).toNat)), vi (gD S 0 0 ((aw o (l3 + 3)).toNat)), vi (gD S 0 0 ((aw o (l3 + 4)).toNat)), vi (gD S 0 0 ((aw o (l3 + 5)).toNat))] S) (fun x46 S45 =>
          (if 0 ≤ (aw o (l3 + 1)) ∧ (aw o (l3 + 1)) < gD S45 0 1 0 then
           (if 0 ≤ (aw o (l3 + 2)) ∧ (aw o (l3 + 2)) < gD S45 0 1 0 then
            (if 0 ≤ (aw o (l3 + 3)) ∧ (aw o (l3 + 3)) < gD S45 0 1 0 then
             (if 0 ≤ (aw o (l3 + 4)) ∧ (aw o (l3 + 4)) < gD S45 0 1 0 then
              (if 0 ≤ (aw o (l3 + 5)) ∧ (aw o (l3 + 5)) < gD S45 0 1 0 then
               (bI (K 220 [vr (some (85, 0)), vi (gD S45 0 0 ((aw o (l3 + 1)).toNat)), vi (gD S45 0 0 ((aw o (l3 + 2)).toNat)), vi (gD S45 0 0 ((aw o (l3 + 3)).toNat)), vi (gD S45 0 0 ((aw o (l3 + 4)).toNat)), vi (gD S45 0 0 ((aw o (l3 + 5)).toNat))] S45) (fun x48 S47 =>
                (if x46 = x48 then
                 run o K false mi_307 n 18 [(0, vr (some (0, 0))), (1, vr (some (2, 0))), (2, vr (some (85, 0))), (3, vi (aw o (l3 + 7)))] [] S47
                else
                 some (vi 0, S47))))
              else none)
             else none)
            else none)
           else none)
          else none)))
        else none)
       else none)
      else none)
     else none)
    else none)
   else (if (ab o 0 (gD S 0 0 (l3.toNat)) 63) = 12 then
    (if 0 ≤ (aw o (l3 + 1)) ∧ (aw o (l3 + 1)) < gD S 0 1 0 then
     (if 0 ≤ (aw o (l3 + 2)) ∧ (aw o (l3 + 2)) < gD S 0 1 0 then
      (if 0 ≤ (aw o (l3 + 3)) ∧ (aw o (l3 + 3)) < gD S 0 1 0 then
       (if 0 ≤ (aw o (l3 + 4)) ∧ (aw o (l3 + 4)) < gD S 0 1 0 then
        (if 0 ≤ (aw o (l3 + 5)) ∧ (aw o (l3 + 5)) < gD S 0 1 0 then
         (bI (K 160 [vr (some (2, 0)), vi (gD S 0 0 ((aw o (l3 + 1)).toNat)), vi (gD S 0 0 ((aw o (l3 + 2)).toNat)), vi (gD S 0 0 ((aw o (l3 + 3)).toNat)), vi (gD S 0 0 ((aw o (l3 + 4)).toNat)), vi (gD S 0 0 ((aw o (l3 + 5)).toNat))] S) (fun x50 S49 =>
          (if 0 ≤ (aw o (l3 + 1)) ∧ (aw o (l3 + 1)) < gD S49 0 1 0 then
           (if 0 ≤ (aw o (l3 + 2)) ∧ (aw o (l3 + 2)) < gD S49 0 1 0 then
            (if 0 ≤ (aw o (l3 + 3)) ∧ (aw o (l3 + 3)) < gD S49 0 1 0 then
             (if 0 ≤ (aw o (l3 + 4)) ∧ (aw o (l3 + 4)) < gD S49 0 1 0 then
              (if 0 ≤ (aw o (l3 + 5)) ∧ (aw o (l3 + 5)) < gD S49 0 1 0 then
               (bI (K 222 [vr (some (85, 0)), vi (gD S49 0 0 ((aw o (l3 + 1)).toNat)), vi (gD S49 0 0 ((aw o (l3 + 2)).toNat)), vi (gD S49 0 0 ((aw o (l3 + 3)).toNat)), vi (gD S49 0 0 ((aw o (l3 + 4)).toNat)), vi (gD S49 0 0 ((aw o (l3 + 5)).toNat))] S49) (fun x52 S51 =>
                (if x50 = x52 then
                 run o K false mi_307 n 18 [(0, vr (some (0, 0))), (1, vr (some (2, 0))), (2, vr (some (85, 0))), (3, vi (aw o (l3 + 7)))] [] S51
                else
                 some (vi 0, S51))))
              else none)
             else none)
            else none)
           else none)
          else none)))
        else none)
       else none)
      else none)
     else none)
    else none)
   else (if (ab o 0 (gD S 0 0 (l3.toNat)) 63) = 13 then
    (if 0 ≤ (aw o (l3 + 1)) ∧ (aw o (l3 + 1)) < gD S 0 1 0 then
     (bI (K 161 [vr (some (2, 0)), vi (gD S 0 0 ((aw o (l3 + 1)).toNat))] S) (fun x54 S53 =>
      (if 0 ≤ (aw o (l3 + 1)) ∧ (aw o (l3 + 1)) < gD S53 0 1 0 then
       (bI (K 223 [vr (some (85, 0)), vi (gD S53 0 0 ((aw o (l3 + 1)).toNat))] S53) (fun x56 S55 =>
        (if x54 = x56 then
         run o K false mi_307 n 18 [(0, vr (some (0, 0))), (1, vr (some (2, 0))), (2, vr (some (85, 0))), (3, vi (aw o (l3 + 7)))] [] S55
        else
         some (vi 0, S55))))
      else none)))
    else none)
   else (if (ab o 0 (gD S 0 0 (l3.toNat)) 63) = 14 then
    (if 0 ≤ (aw o (l3 + 1)) ∧ (aw o (l3 + 1)) < gD S 0 1 0 then
     (bI (K 162 [vr (some (2, 0)), vi (gD S 0 0 ((aw o (l3 + 1)).toNat))] S) (fun x58 S57 =>
      (if 0 ≤ (aw o (l3 + 1)) ∧ (aw o (l3 + 1)) < gD S57 0 1 0 then
       (bI (K 246 [vr (some (85, 0)), vi (gD S57 0 0 ((aw o (l3 + 1)).toNat))] S57) (fun x60 S59 =>
        (if x58 = x60 then
         run o K false mi_307 n 18 [(0, vr (some (0, 0))), (1, vr (some (2, 0))), (2, vr (some (85, 0))), (3, vi (aw o (l3 + 7)))] [] S59
        else
         some (vi 0, S59))))
      else none)))
    else none)
   else (if (ab o 0 (gD S 0 0 (l3.toNat)) 63) = 15 then
    (if 0 ≤ (aw o (l3 + 1)) ∧ (aw o (l3 + 1)) < gD S 0 1 0 then
     (if 0 ≤ (aw o (l3 + 2)) ∧ (aw o (l3 + 2)) < gD S 0 1 0 then
      (if (gD S 0 0 ((aw o (l3 + 2)).toNat)) = 0 then
       (bI (K 163 [vr (some (2, 0)), vi (gD S 0 0 ((aw o (l3 + 1)).toNat)), vi 0] S) (fun x62 S61 =>
        (if 0 ≤ (aw o (l3 + 1)) ∧ (aw o (l3 + 1)) < gD S61 0 1 0 then
         (if 0 ≤ (aw o (l3 + 2)) ∧ (aw o (l3 + 2)) < gD S61 0 1 0 then
          (if (gD S61 0 0 ((aw o (l3 + 2)).toNat)) = 0 then
           (bI (K 248 [vr (some (85, 0)), vi (gD S61 0 0 ((aw o (l3 + 1)).toNat)), vi 0] S61) (fun x64 S63 =>
            (if x62 = x64 then
             run o K false mi_307 n 18 [(0, vr (some (0, 0))), (1, vr (some (2, 0))), (2, vr (some (85, 0))), (3, vi (aw o (l3 + 7)))] [] S63
            else
             some (vi 0, S63))))
          else
           (bI (K 248 [vr (some (85, 0)), vi (gD S61 0 0 ((aw o (l3 + 1)).toNat)), vi 1] S61) (fun x66 S65 =>
            (if x62 = x66 then
             run o K false mi_307 n 18 [(0, vr (some (0, 0))), (1, vr (some (2, 0))), (2, vr (some (85, 0))), (3, vi (aw o (l3 + 7)))] [] S65
            else
             some (vi 0, S65)))))
         else none)
        else none)))
      else
       (bI (K 163 [vr (some (2, 0)), vi (gD S 0 0 ((aw o (l3 + 1)).toNat)), vi 1] S) (fun x68 S67 =>
        (if 0 ≤ (aw o (l3 + 1)) ∧ (aw o (l3 + 1)) < gD S67 0 1 0 then
         (if 0 ≤ (aw o (l3 + 2)) ∧ (aw o (l3 + 2)) < gD S67 0 1 0 then
          (if (gD S67 0 0 ((aw o (l3 + 2)).toNat)) = 0 then
           (bI (K 248 [vr (some (85, 0)), vi (gD S67 0 0 ((aw o (l3 + 1)).toNat)), vi 0] S67) (fun x70 S69 =>
            (if x68 = x70 then
             run o K false mi_307 n 18 [(0, vr (some (0, 0))), (1, vr (some (2, 0))), (2, vr (some (85, 0))), (3, vi (aw o (l3 + 7)))] [] S69
            else
             some (vi 0, S69))))
          else
           (bI (K 248 [vr (some (85, 0)), vi (gD S67 0 0 ((aw o (l3 + 1)).toNat)), vi 1] S67) (fun x72 S71 =>
            (if x68 = x72 then
             run o K false mi_307 n 18 [(0, vr (some (0, 0))), (1, vr (some (2, 0))), (2, vr (some (85, 0))), (3, vi (aw o (l3 + 7)))] [] S71
            else
             some (vi 0, S71)))))
         else none)
        else none))))
     else none)
    else none)
   else (if (ab o 0 (gD S 0 0 (l3.toNat)) 63) = 16 then
    (if 0 ≤ (aw o (l3 + 1)) ∧ (aw o (l3 + 1)) < gD S 0 1 0 then
     (if 0 ≤ (aw o (l3 + 2)) ∧ (aw o (l3 + 2)) < gD S 0 1 0 then
      (if 0 ≤ (aw o (l3 + 3)) ∧ (aw o (l3 + 3)) < gD S 0 1 0 then
       (bI (K 164 [vr (some (2, 0)), vi (gD S 0 0 ((aw o (l3 + 1)).toNat)), vi (gD S 0 0 ((aw o (l3 + 2)).toNat)), vi (gD S 0 0 ((aw o (l3 + 3)).toNat))] S) (fun x74 S73 =>
        (if 0 ≤ (aw o (l3 + 1)) ∧ (aw o (l3 + 1)) < gD S73 0 1 0 then
         (if 0 ≤ (aw o (l3 + 2)) ∧ (aw o (l3 + 2)) < gD S73 0 1 0 then
          (if 0 ≤ (aw o (l3 + 3)) ∧ (aw o (l3 + 3)) < gD S73 0 1 0 then
           (bI (K 256 [vr (some (85, 0)), vi (gD S73 0 0 ((aw o (l3 + 1)).toNat)), vi (gD S73 0 0 ((aw o (l3 + 2)).toNat)), vi (gD S73 0 0 ((aw o (l3 + 3)).toNat))] S73) (fun x76 S75 =>
            (if x74 = x76 then
             run o K false mi_307 n 18 [(0, vr (some (0, 0))), (1, vr (some (2, 0))), (2, vr (some (85, 0))), (3, vi (aw o (l3 + 7)))] [] S75
            else
             some (vi 0, S75))))
          else none)
         else none)
        else none)))
      else none)
     else none)
    else none)
   else (if (ab o 0 (gD S 0 0 (l3.toNat)) 63) = 17 then
    (if 0 ≤ (aw o (l3 + 1)) ∧ (aw o (l3 + 1)) < gD S 0 1 0 then
     (if 0 ≤ (aw o (l3 + 2)) ∧ (aw o (l3 + 2)) < gD S 0 1 0 then
      (bI (K 165 [vr (some (2, 0)), vi (gD S 0 0 ((aw o (l3 + 1)).toNat)), vi (gD S 0 0 ((aw o (l3 + 2)).toNat))] S) (fun x78 S77 =>
       (if 0 ≤ (aw o (l3 + 1)) ∧ (aw o (l3 + 1)) < gD S77 0 1 0 then
        (if 0 ≤ (aw o (l3 + 2)) ∧ (aw o (l3 + 2)) < gD S77 0 1 0 then
         (bI (K 260 [vr (some (85, 0)), vi (gD S77 0 0 ((aw o (l3 + 1)).toNat)), vi (gD S77 0 0 ((aw o (l3 + 2)).toNat))] S77) (fun x80 S79 =>
          (if x78 = x80 then
           run o K false mi_307 n 18 [(0, vr (some (0, 0))), (1, vr (some (2, 0))), (2, vr (some (85, 0))), (3, vi (aw o (l3 + 7)))] [] S79
          else
           some (vi 0, S79))))
        else none)
       else none)))
     else none)
    else none)
   else (if (ab o 0 (gD S 0 0 (l3.toNat)) 63) = 18 then
    (if 0 ≤ (aw o (l3 + 1)) ∧ (aw o (l3 + 1)) < gD S 0 1 0 then
     (if 0 ≤ (aw o (l3 + 2)) ∧ (aw o (l3 + 2)) < gD S 0 1 0 then
      (if 0 ≤ (aw o (l3 + 3)) ∧ (aw o (l3 + 3)) < gD S 0 1 0 then
       (bI (K 166 [vr (some (2, 0)), vi (gD S 0 0 ((aw o (l3 + 1)).toNat)), vi (gD S 0 0 ((aw o (l3 + 2)).toNat)), vi (gD S 0 0 ((aw o (l3 + 3)).toNat))] S) (fun x82 S81 =>
        (if 0 ≤ (aw o (l3 + 1)) ∧ (aw o (l3 + 1)) < gD S81 0 1 0 then
         (if 0 ≤ (aw o (l3 + 2)) ∧ (aw o (l3 + 2)) < gD S81 0 1 0 then
          (if 0 ≤ (aw o (l3 + 3)) ∧ (aw o (l3 + 3)) < gD S81 0 1 0 then
           (bI (K 261 [vr (some (85, 0)), vi (gD S81 0 0 ((aw o (l3 + 1)).toNat)), vi (gD S81 0 0 ((aw o (l3 + 2)).toNat)), vi (gD S81 0 0 ((aw o (l3 + 3)).toNat))] S81) (fun x84 S83 =>
            (if x82 = x84 then
             run o K false mi_307 n 18 [(0, vr (some (0, 0))), (1, vr (some (2, 0))), (2, vr (some (85, 0))), (3, vi (aw o (l3 + 7)))] [] S83
            else
             some (vi 0, S83))))
          else none)
         else none)
        else none)))
      else none)
     else none)
    else none)
   else (if (ab o 0 (gD S 0 0 (l3.toNat)) 63) = 19 then
    (if 0 ≤ (aw o (l3 + 1)) ∧ (aw o (l3 + 1)) < gD S 0 1 0 then
     (if 0 ≤ (aw o (l3 + 2)) ∧ (aw o (l3 + 2)) < gD S 0 1 0 then
      (if 0 ≤ (aw o (l3 + 3)) ∧ (aw o (l3 + 3)) < gD S 0 1 0 then
       (if 0 ≤ (aw o (l3 + 4)) ∧ (aw o (l3 + 4)) < gD S 0 1 0 then
        (bI (K 167 [vr (some (2, 0)), vi (gD S 0 0 ((aw o (l3 + 1)).toNat)), vi (gD S 0 0 ((aw o (l3 + 2)).toNat)), vi (gD S 0 0 ((aw o (l3 + 3)).toNat)), vi (gD S 0 0 ((aw o (l3 + 4)).toNat))] S) (fun x86 S85 =>
         (if 0 ≤ (aw o (l3 + 1)) ∧ (aw o (l3 + 1)) < gD S85 0 1 0 then
          (if 0 ≤ (aw o (l3 + 2)) ∧ (aw o (l3 + 2)) < gD S85 0 1 0 then
           (if 0 ≤ (aw o (l3 + 3)) ∧ (aw o (l3 + 3)) < gD S85 0 1 0 then
            (if 0 ≤ (aw o (l3 + 4)) ∧ (aw o (l3 + 4)) < gD S85 0 1 0 then
             (bI (K 263 [vr (some (85, 0)), vi (gD S85 0 0 ((aw o (l3 + 1)).toNat)), vi (gD S85 0 0 ((aw o (l3 + 2)).toNat)), vi (gD S85 0 0 ((aw o (l3 + 3)).toNat)), vi (gD S85 0 0 ((aw o (l3 + 4)).toNat))] S85) (fun x88 S87 =>
              (if x86 = x88 then
               run o K false mi_307 n 18 [(0, vr (some (0, 0))), (1, vr (some (2, 0))), (2, vr (some (85, 0))), (3, vi (aw o (l3 + 7)))] [] S87
              else
               some (vi 0, S87))))
            else none)
           else none)
          else none)
         else none)))
       else none)
      else none)
     else none)
    else none)
   else (if (ab o 0 (gD S 0 0 (l3.toNat)) 63) = 20 then
    (if 0 ≤ (aw o (l3 + 1)) ∧ (aw o (l3 + 1)) < gD S 0 1 0 then
     (if 0 ≤ (aw o (l3 + 2)) ∧ (aw o (l3 + 2)) < gD S 0 1 0 then
      (if 0 ≤ (aw o (l3 + 3)) ∧ (aw o (l3 + 3)) < gD S 0 1 0 then
       (bI (K 168 [vr (some (2, 0)), vi (gD S 0 0 ((aw o (l3 + 1)).toNat)), vi (gD S 0 0 ((aw o (l3 + 2)).toNat)), vi (gD S 0 0 ((aw o (l3 + 3)).toNat))] S) (fun x90 S89 =>
        (if 0 ≤ (aw o (l3 + 1)) ∧ (aw o (l3 + 1)) < gD S89 0 1 0 then
         (if 0 ≤ (aw o (l3 + 2)) ∧ (aw o (l3 + 2)) < gD S89 0 1 0 then
          (if 0 ≤ (aw o (l3 + 3)) ∧ (aw o (l3 + 3)) < gD S89 0 1 0 then
           (bI (K 265 [vr (some (85, 0)), vi (gD S89 0 0 ((aw o (l3 + 1)).toNat)), vi (gD S89 0 0 ((aw o (l3 + 2)).toNat)), vi (gD S89 0 0 ((aw o (l3 + 3)).toNat))] S89) (fun x92 S91 =>
            (if x90 = x92 then
             run o K false mi_307 n 18 [(0, vr (some (0, 0))), (1, vr (some (2, 0))), (2, vr (some (85, 0))), (3, vi (aw o (l3 + 7)))] [] S91
            else
             some (vi 0, S91))))
          else none)
         else none)
        else none)))
      else none)
     else none)
    else none)
   else (if (ab o 0 (gD S 0 0 (l3.toNat)) 63) = 21 then
    (if 0 ≤ (aw o (l3 + 1)) ∧ (aw o (l3 + 1)) < gD S 0 1 0 then
     (if 0 ≤ (aw o (l3 + 2)) ∧ (aw o (l3 + 2)) < gD S 0 1 0 then
      (if 0 ≤ (aw o (l3 + 3)) ∧ (aw o (l3 + 3)) < gD S 0 1 0 then
       (bI (K 169 [vr (some (2, 0)), vi (gD S 0 0 ((aw o (l3 + 1)).toNat)), vi (gD S 0 0 ((aw o (l3 + 2)).toNat)), vi (gD S 0 0 ((aw o (l3 + 3)).toNat))] S) (fun x94 S93 =>
        (if 0 ≤ (aw o (l3 + 1)) ∧ (aw o (l3 + 1)) < gD S93 0 1 0 then
         (if 0 ≤ (aw o (l3 + 2)) ∧ (aw o (l3 + 2)) < gD S93 0 1 0 then
          (if 0 ≤ (aw o (l3 + 3)) ∧ (aw o (l3 + 3)) < gD S93 0 1 0 then
           (bI (K 267 [vr (some (85, 0)), vi (gD S93 0 0 ((aw o (l3 + 1)).toNat)), vi (gD S93 0 0 ((aw o (l3 + 2)).toNat)), vi (gD S93 0 0 ((aw o (l3 + 3)).toNat))] S93) (fun x96 S95 =>
            (if x94 = x96 then
             run o K false mi_307 n 18 [(0, vr (some (0, 0))), (1, vr (some (2, 0))), (2, vr (some (85, 0))), (3, vi (aw o (l3 + 7)))] [] S95
            else
             some (vi 0, S95))))
          else none)
         else none)
        else none)))
      else none)
     else none)
    else none)
   else (if (ab o 0 (gD S 0 0 (l3.toNat)) 63) = 22 then
    (if 0 ≤ (aw o (l3 + 1)) ∧ (aw o (l3 + 1)) < gD S 0 1 0 then
     (bI (K 170 [vr (some (2, 0)), vi (gD S 0 0 ((aw o (l3 + 1)).toNat))] S) (fun x98 S97 =>
      (if 0 ≤ (aw o (l3 + 1)) ∧ (aw o (l3 + 1)) < gD S97 0 1 0 then
       (bI (K 270 [vr (some (85, 0)), vi (gD S97 0 0 ((aw o (l3 + 1)).toNat))] S97) (fun x100 S99 =>
        (if x98 = x100 then
         run o K false mi_307 n 18 [(0, vr (some (0, 0))), (1, vr (some (2, 0))), (2, vr (some (85, 0))), (3, vi (aw o (l3 + 7)))] [] S99
        else
         some (vi 0, S99))))
      else none)))
    else none)
   else (if (ab o 0 (gD S 0 0 (l3.toNat)) 63) = 23 then
    (if 0 ≤ (aw o (l3 + 1)) ∧ (aw o (l3 + 1)) < gD S 0 1 0 then
     (if 0 ≤ (aw o (l3 + 2)) ∧ (aw o (l3 + 2)) < gD S 0 1 0 then
      (if (gD S 0 0 ((aw o (l3 + 2)).toNat)) = 0 then
       (bI (K 171 [vr (some (2, 0)), vi (gD S 0 0 ((aw o (l3 + 1)).toNat)), vi 0] S) (fun x102 S101 =>
        (if 0 ≤ (aw o (l3 + 1)) ∧ (aw o (l3 + 1)) < gD S101 0 1 0 then
         (if 0 ≤ (aw o (l3 + 2)) ∧ (aw o (l3 + 2)) < gD S101 0 1 0 then
          (if (gD S101 0 0 ((aw o (l3 + 2)).toNat)) = 0 then
           (bI (K 271 [vr (some (85, 0)), vi (gD S101 0 0 ((aw o (l3 + 1)).toNat)), vi 0] S101) (fun x104 S103 =>
            (if x102 = x104 then
             run o K false mi_307 n 18 [(0, vr (some (0, 0))), (1, vr (some (2, 0))), (2, vr (some (85, 0))), (3, vi (aw o (l3 + 7)))] [] S103
            else
             some (vi 0, S103))))
          else
           (bI (K 271 [vr (some (85, 0)), vi (gD S101 0 0 ((aw o (l3 + 1)).toNat)), vi 1] S101) (fun x106 S105 =>
            (if x102 = x106 then
             run o K false mi_307 n 18 [(0, vr (some (0, 0))), (1, vr (some (2, 0))), (2, vr (some (85, 0))), (3, vi (aw o (l3 + 7)))] [] S105
            else
             some (vi 0, S105)))))
         else none)
        else none)))
      else
       (bI (K 171 [vr (some (2, 0)), vi (gD S 0 0 ((aw o (l3 + 1)).toNat)), vi 1] S) (fun x108 S107 =>
        (if 0 ≤ (aw o (l3 + 1)) ∧ (aw o (l3 + 1)) < gD S107 0 1 0 then
         (if 0 ≤ (aw o (l3 + 2)) ∧ (aw o (l3 + 2)) < gD S107 0 1 0 then
          (if (gD S107 0 0 ((aw o (l3 + 2)).toNat)) = 0 then
           (bI (K 271 [vr (some (85, 0)), vi (gD S107 0 0 ((aw o (l3 + 1)).toNat)), vi 0] S107) (fun x110 S109 =>
            (if x108 = x110 then
             run o K false mi_307 n 18 [(0, vr (some (0, 0))), (1, vr (some (2, 0))), (2, vr (some (85, 0))), (3, vi (aw o (l3 + 7)))] [] S109
            else
             some (vi 0, S109))))
          else
           (bI (K 271 [vr (some (85, 0)), vi (gD S107 0 0 ((aw o (l3 + 1)).toNat)), vi 1] S107) (fun x112 S111 =>
            (if x108 = x112 then
             run o K false mi_307 n 18 [(0, vr (some (0, 0))), (1, vr (some (2, 0))), (2, vr (some (85, 0))), (3, vi (aw o (l3 + 7)))] [] S111
            else
             some (vi 0, S111)))))
         else none)
        else none))))
     else none)
    else none)
   else (if (ab o 0 (gD S 0 0 (l3.toNat)) 63) = 24 then
    (if 0 ≤ (aw o (l3 + 1)) ∧ (aw o (l3 + 1)) < gD S 0 1 0 then
     (if 0 ≤ (aw o (l3 + 2)) ∧ (aw o (l3 + 2)) < gD S 0 1 0 then
      (bI (K 172 [vr (some (2, 0)), vi (gD S 0 0 ((aw o (l3 + 1)).toNat)), vi (gD S 0 0 ((aw o (l3 + 2)).toNat))] S) (fun x114 S113 =>
       (if 0 ≤ (aw o (l3 + 1)) ∧ (aw o (l3 + 1)) < gD S113 0 1 0 then
        (if 0 ≤ (aw o (l3 + 2)) ∧ (aw o (l3 + 2)) < gD S113 0 1 0 then
         (bI (K 272 [vr (some (85, 0)), vi (gD S113 0 0 ((aw o (l3 + 1)).toNat)), vi (gD S113 0 0 ((aw o (l3 + 2)).toNat))] S113) (fun x116 S115 =>
          (if x114 = x116 then
           run o K false mi_307 n 18 [(0, vr (some (0, 0))), (1, vr (some (2, 0))), (2, vr (some (85, 0))), (3, vi (aw o (l3 + 7)))] [] S115
          else
           some (vi 0, S115))))
        else none)
       else none)))
     else none)
    else none)
   else (if (ab o 0 (gD S 0 0 (l3.toNat)) 63) = 25 then
    (if 0 ≤ (aw o (l3 + 1)) ∧ (aw o (l3 + 1)) < gD S 0 1 0 then
     (if 0 ≤ (aw o (l3 + 2)) ∧ (aw o (l3 + 2)) < gD S 0 1 0 then
      (bI (K 173 [vr (some (2, 0)), vi (gD S 0 0 ((aw o (l3 + 1)).toNat)), vi (gD S 0 0 ((aw o (l3 + 2)).toNat))] S) (fun x118 S117 =>
       (if 0 ≤ (aw o (l3 + 1)) ∧ (aw o (l3 + 1)) < gD S117 0 1 0 then
        (if 0 ≤ (aw o (l3 + 2)) ∧ (aw o (l3 + 2)) < gD S117 0 1 0 then
         (bI (K 280 [vr (some (85, 0)), vi (gD S117 0 0 ((aw o (l3 + 1)).toNat)), vi (gD S117 0 0 ((aw o (l3 + 2)).toNat))] S117) (fun x120 S119 =>
          (if x118 = x120 then
           run o K false mi_307 n 18 [(0, vr (some (0, 0))), (1, vr (some (2, 0))), (2, vr (some (85, 0))), (3, vi (aw o (l3 + 7)))] [] S119
          else
           some (vi 0, S119))))
        else none)
       else none)))
     else none)
    else none)
   else (if (ab o 0 (gD S 0 0 (l3.toNat)) 63) = 26 then
    (bI (K 174 [vr (some (2, 0))] S) (fun x122 S121 =>
     (bI (K 286 [vr (some (85, 0))] S121) (fun x124 S123 =>
      (if x122 = x124 then
       run o K false mi_307 n 18 [(0, vr (some (0, 0))), (1, vr (some (2, 0))), (2, vr (some (85, 0))), (3, vi (aw o (l3 + 7)))] [] S123
      else
       some (vi 0, S123))))))
   else (if (ab o 0 (gD S 0 0 (l3.toNat)) 63) = 27 then
    (if 0 ≤ (aw o (l3 + 1)) ∧ (aw o (l3 + 1)) < gD S 0 1 0 then
     (if 0 ≤ (aw o (l3 + 2)) ∧ (aw o (l3 + 2)) < gD S 0 1 0 then
      (bI (K 175 [vr (some (2, 0)), vi (gD S 0 0 ((aw o (l3 + 1)).toNat)), vi (gD S 0 0 ((aw o (l3 + 2)).toNat))] S) (fun x126 S125 =>
       (if 0 ≤ (aw o (l3 + 1)) ∧ (aw o (l3 + 1)) < gD S125 0 1 0 then
        (if 0 ≤ (aw o (l3 + 2)) ∧ (aw o (l3 + 2)) < gD S125 0 1 0 then
         (bI (K 287 [vr (some (85, 0)), vi (gD S125 0 0 ((aw o (l3 + 1)).toNat)), vi (gD S125 0 0 ((aw o (l3 + 2)).toNat))] S125) (fun x128 S127 =>
          (if x126 = x128 then
           run o K false mi_307 n 18 [(0, vr (some (0, 0))), (1, vr (some (2, 0))), (2, vr (some (85, 0))), (3, vi (aw o (l3 + 7)))] [] S127
          else
           some (vi 0, S127))))
        else none)
       else none)))
     else none)
    else none)
   else (if (ab o 0 (gD S 0 0 (l3.toNat)) 63) = 28 then
    (if 0 ≤ (aw o (l3 + 1)) ∧ (aw o (l3 + 1)) < gD S 0 1 0 then
     (if 0 ≤ (aw o (l3 + 2)) ∧ (aw o (l3 + 2)) < gD S 0 1 0 then
      (if 0 ≤ (aw o (l3 + 3)) ∧ (aw o (l3 + 3)) < gD S 0 1 0 then
       (if 0 ≤ (aw o (l3 + 4)) ∧ (aw o (l3 + 4)) < gD S 0 1 0 then
        (bI (K 176 [vr (some (2, 0)), vi (gD S 0 0 ((aw o (l3 + 1)).toNat)), vl (ab o 6 (ab o 7 (gD S 0 0 ((aw o (l3 + 2)).toNat)) 32) (ab o 5 (gD S 0 0 ((aw o (l3 + 3)).toNat)) 4294967295)), vi (gD S 0 0 ((aw o (l3 + 4)).toNat))] S) (fun x130 S129 =>
         (if 0 ≤ (aw o (l3 + 1)) ∧ (aw o (l3 + 1)) < gD S129 0 1 0 then
          (if 0 ≤ (aw o (l3 + 2)) ∧ (aw o (l3 + 2)) < gD S129 0 1 0 then
           (if 0 ≤ (aw o (l3 + 3)) ∧ (aw o (l3 + 3)) < gD S129 0 1 0 then
            (if 0 ≤ (aw o (l3 + 4)) ∧ (aw o (l3 + 4)) < gD S129 0 1 0 then
             (bI (K 288 [vr (some (85, 0)), vi (gD S129 0 0 ((aw o (l3 + 1)).toNat)), vl (ab o 6 (ab o 7 (gD S129 0 0 ((aw o (l3 + 2)).toNat)) 32) (ab o 5 (gD S129 0 0 ((aw o (l3 + 3)).toNat)) 4294967295)), vi (gD S129 0 0 ((aw o (l3 + 4)).toNat))] S129) (fun x132 S131 =>
              (if x130 = x132 then
               run o K false mi_307 n 18 [(0, vr (some (0, 0))), (1, vr (some (2, 0))), (2, vr (some (85, 0))), (3, vi (aw o (l3 + 7)))] [] S131
              else
               some (vi 0, S131))))
            else none)
           else none)
          else none)
         else none)))
       else none)
      else none)
     else none)
    else none)
   else (if (ab o 0 (gD S 0 0 (l3.toNat)) 63) = 29 then
    (if 0 ≤ (aw o (l3 + 1)) ∧ (aw o (l3 + 1)) < gD S 0 1 0 then
     (if 0 ≤ (aw o (l3 + 2)) ∧ (aw o (l3 + 2)) < gD S 0 1 0 then
      (bI (K 177 [vr (some (2, 0)), vi (gD S 0 0 ((aw o (l3 + 1)).toNat)), vi (gD S 0 0 ((aw o (l3 + 2)).toNat))] S) (fun x134 S133 =>
       (if 0 ≤ (aw o (l3 + 1)) ∧ (aw o (l3 + 1)) < gD S133 0 1 0 then
        (if 0 ≤ (aw o (l3 + 2)) ∧ (aw o (l3 + 2)) < gD S133 0 1 0 then
         (bI (K 291 [vr (some (85, 0)), vi (gD S133 0 0 ((aw o (l3 + 1)).toNat)), vi (gD S133 0 0 ((aw o (l3 + 2)).toNat))] S133) (fun x136 S135 =>
          (if x134 = x136 then
           run o K false mi_307 n 18 [(0, vr (some (0, 0))), (1, vr (some (2, 0))), (2, vr (some (85, 0))), (3, vi (aw o (l3 + 7)))] [] S135
          else
           some (vi 0, S135))))
        else none)
       else none)))
     else none)
    else none)
   else (if (ab o 0 (gD S 0 0 (l3.toNat)) 63) = 30 then
    (if 0 ≤ (aw o (l3 + 1)) ∧ (aw o (l3 + 1)) < gD S 0 1 0 then
     (bI (K 178 [vr (some (2, 0)), vi (gD S 0 0 ((aw o (l3 + 1)).toNat))] S) (fun x138 S137 =>
      (if 0 ≤ (aw o (l3 + 1)) ∧ (aw o (l3 + 1)) < gD S137 0 1 0 then
       (bI (K 292 [vr (some (85, 0)), vi (gD S137 0 0 ((aw o (l3 + 1)).toNat))] S137) (fun x140 S139 =>
        (if x138 = x140 then
         run o K false mi_307 n 18 [(0, vr (some (0, 0))), (1, vr (some (2, 0))), (2, vr (some (85, 0))), (3, vi (aw o (l3 + 7)))] [] S139
        else
         some (vi 0, S139))))
      else none)))
    else none)
   else (if (ab o 0 (gD S 0 0 (l3.toNat)) 63) = 31 then
    (bL (K 179 [vr (some (2, 0))] S) (fun x142 S141 =>
     (bL (K 293 [vr (some (85, 0))] S141) (fun x144 S143 =>
      (if (ab o 9 x142 x144) = 0 then
       run o K false mi_307 n 18 [(0, vr (some (0, 0))), (1, vr (some (2, 0))), (2, vr (some (85, 0))), (3, vi (aw o (l3 + 7)))] [] S143
      else
       some (vi 0, S143))))))
   else (if (ab o 0 (gD S 0 0 (l3.toNat)) 63) = 32 then
    (if 0 ≤ (aw o (l3 + 1)) ∧ (aw o (l3 + 1)) < gD S 0 1 0 then
     (if 0 ≤ (aw o (l3 + 2)) ∧ (aw o (l3 + 2)) < gD S 0 1 0 then
      (bI (K 180 [vr (some (2, 0)), vi (gD S 0 0 ((aw o (l3 + 1)).toNat)), vi (gD S 0 0 ((aw o (l3 + 2)).toNat))] S) (fun x146 S145 =>
       (if 0 ≤ (aw o (l3 + 1)) ∧ (aw o (l3 + 1)) < gD S145 0 1 0 then
        (if 0 ≤ (aw o (l3 + 2)) ∧ (aw o (l3 + 2)) < gD S145 0 1 0 then
         (bI (K 295 [vr (some (85, 0)), vi (gD S145 0 0 ((aw o (l3 + 1)).toNat)), vi (gD S145 0 0 ((aw o (l3 + 2)).toNat))] S145) (fun x148 S147 =>
          (if x146 = x148 then
           run o K false mi_307 n 18 [(0, vr (some (0, 0))), (1, vr (some (2, 0))), (2, vr (some (85, 0))), (3, vi (aw o (l3 + 7)))] [] S147
          else
           some (vi 0, S147))))
        else none)
       else none)))
     else none)
    else none)
   else (if (ab o 0 (gD S 0 0 (l3.toNat)) 63) = 33 then
    (if 0 ≤ (aw o (l3 + 1)) ∧ (aw o (l3 + 1)) < gD S 0 1 0 then
     (if 0 ≤ (aw o (l3 + 2)) ∧ (aw o (l3 + 2)) < gD S 0 1 0 then
      (if 0 ≤ (aw o (l3 + 3)) ∧ (aw o (l3 + 3)) < gD S 0 1 0 then
       (bI (K 181 [vr (some (2, 0)), vi (gD S 0 0 ((aw o (l3 + 1)).toNat)), vi (gD S 0 0 ((aw o (l3 + 2)).toNat)), vi (gD S 0 0 ((aw o (l3 + 3)).toNat))] S) (fun x150 S149 =>
        (if 0 ≤ (aw o (l3 + 1)) ∧ (aw o (l3 + 1)) < gD S149 0 1 0 then
         (if 0 ≤ (aw o (l3 + 2)) ∧ (aw o (l3 + 2)) < gD S149 0 1 0 then
          (if 0 ≤ (aw o (l3 + 3)) ∧ (aw o (l3 + 3)) < gD S149 0 1 0 then
           (bI (K 296 [vr (some (85, 0)), vi (gD S149 0 0 ((aw o (l3 + 1)).toNat)), vi (gD S149 0 0 ((aw o (l3 + 2)).toNat)), vi (gD S149 0 0 ((aw o (l3 + 3)).toNat))] S149) (fun x152 S151 =>
            (if x150 = x152 then
             run o K false mi_307 n 18 [(0, vr (some (0, 0))), (1, vr (some (2, 0))), (2, vr (some (85, 0))), (3, vi (aw o (l3 + 7)))] [] S151
            else
             some (vi 0, S151))))
          else none)
         else none)
        else none)))
      else none)
     else none)
    else none)
   else (if (ab o 0 (gD S 0 0 (l3.toNat)) 63) = 34 then
    (if 0 ≤ (aw o (l3 + 1)) ∧ (aw o (l3 + 1)) < gD S 0 1 0 then
     (if 0 ≤ (aw o (l3 + 2)) ∧ (aw o (l3 + 2)) < gD S 0 1 0 then
      (bI (K 182 [vr (some (2, 0)), vi (gD S 0 0 ((aw o (l3 + 1)).toNat)), vi (gD S 0 0 ((aw o (l3 + 2)).toNat))] S) (fun x154 S153 =>
       (if 0 ≤ (aw o (l3 + 1)) ∧ (aw o (l3 + 1)) < gD S153 0 1 0 then
        (if 0 ≤ (aw o (l3 + 2)) ∧ (aw o (l3 + 2)) < gD S153 0 1 0 then
         (bI (K 300 [vr (some (85, 0)), vi (gD S153 0 0 ((aw o (l3 + 1)).toNat)), vi (gD S153 0 0 ((aw o (l3 + 2)).toNat))] S153) (fun x156 S155 =>
          (if x154 = x156 then
           run o K false mi_307 n 18 [(0, vr (some (0, 0))), (1, vr (some (2, 0))), (2, vr (some (85, 0))), (3, vi (aw o (l3 + 7)))] [] S155
          else
           some (vi 0, S155))))
        else none)
       else none)))
     else none)
    else none)
   else (if (ab o 0 (gD S 0 0 (l3.toNat)) 63) = 35 then
    (if 0 ≤ (aw o (l3 + 1)) ∧ (aw o (l3 + 1)) < gD S 0 1 0 then
     (if 0 ≤ (aw o (l3 + 2)) ∧ (aw o (l3 + 2)) < gD S 0 1 0 then
      (if (gD S 0 0 ((aw o (l3 + 2)).toNat)) = 0 then
       (bI (K 183 [vr (some (2, 0)), vi (gD S 0 0 ((aw o (l3 + 1)).toNat)), vi 0] S) (fun x158 S157 =>
        (if 0 ≤ (aw o (l3 + 1)) ∧ (aw o (l3 + 1)) < gD S157 0 1 0 then
         (if 0 ≤ (aw o (l3 + 2)) ∧ (aw o (l3 + 2)) < gD S157 0 1 0 then
          (if (gD S157 0 0 ((aw o (l3 + 2)).toNat)) = 0 then
           (bI (K 301 [vr (some (85, 0)), vi (gD S157 0 0 ((aw o (l3 + 1)).toNat)), vi 0] S157) (fun x160 S159 =>
            (if x158 = x160 then
             run o K false mi_307 n 18 [(0, vr (some (0, 0))), (1, vr (some (2, 0))), (2, vr (some (85, 0))), (3, vi (aw o (l3 + 7)))] [] S159
            else
             some (vi 0, S159))))
          else
           (bI (K 301 [vr (some (85, 0)), vi (gD S157 0 0 ((aw o (l3 + 1)).toNat)), vi 1] S157) (fun x162 S161 =>
            (if x158 = x162 then
             run o K false mi_307 n 18 [(0, vr (some (0, 0))), (1, vr (some (2, 0))), (2, vr (some (85, 0))), (3, vi (aw o (l3 + 7)))] [] S161
            else
             some (vi 0, S161)))))
         else none)
        else none)))
      else
       (bI (K 183 [vr (some (2, 0)), vi (gD S 0 0 ((aw o (l3 + 1)).toNat)), vi 1] S) (fun x164 S163 =>
        (if 0 ≤ (aw o (l3 + 1)) ∧ (aw o (l3 + 1)) < gD S163 0 1 0 then
         (if 0 ≤ (aw o (l3 + 2)) ∧ (aw o (l3 + 2)) < gD S163 0 1 0 then
          (if (gD S163 0 0 ((aw o (l3 + 2)).toNat)) = 0 then
           (bI (K 301 [vr (some (85, 0)), vi (gD S163 0 0 ((aw o (l3 + 1)).toNat)), vi 0] S163) (fun x166 S165 =>
            (if x164 = x166 then
             run o K false mi_307 n 18 [(0, vr (some (0, 0))), (1, vr (some (2, 0))), (2, vr (some (85, 0))), (3, vi (aw o (l3 + 7)))] [] S165
            else
             some (vi 0, S165))))
          else
           (bI (K 301 [vr (some (85, 0)), vi (gD S163 0 0 ((aw o (l3 + 1)).toNat)), vi 1] S163) (fun x168 S167 =>
            (if x164 = x168 then
             run o K false mi_307 n 18 [(0, vr (some (0, 0))), (1, vr (some (2, 0))), (2, vr (some (85, 0))), (3, vi (aw o (l3 + 7)))] [] S167
            else
             some (vi 0, S167)))))
         else none)
        else none))))
     else none)
    else none)
   else (if (ab o 0 (gD S 0 0 (l3.toNat)) 63) = 36 then
    (if 0 ≤ (aw o (l3 + 1)) ∧ (aw o (l3 + 1)) < gD S 0 1 0 then
     (bI (K 184 [vr (some (2, 0)), vi (gD S 0 0 ((aw o (l3 + 1)).toNat))] S) (fun x170 S169 =>
      (if 0 ≤ (aw o (l3 + 1)) ∧ (aw o (l3 + 1)) < gD S169 0 1 0 then
       (bI (K 302 [vr (some (85, 0)), vi (gD S169 0 0 ((aw o (l3 + 1)).toNat))] S169) (fun x172 S171 =>
        (if x170 = x172 then
         run o K false mi_307 n 18 [(0, vr (some (0, 0))), (1, vr (some (2, 0))), (2, vr (some (85, 0))), (3, vi (aw o (l3 + 7)))] [] S171
        else
         some (vi 0, S171))))
      else none)))
    else none)
   else (if (ab o 0 (gD S 0 0 (l3.toNat)) 63) = 37 then
    (if 0 ≤ (aw o (l3 + 1)) ∧ (aw o (l3 + 1)) < gD S 0 1 0 then
     (bI (K 185 [vr (some (2, 0)), vi (gD S 0 0 ((aw o (l3 + 1)).toNat))] S) (fun x174 S173 =>
      (if 0 ≤ (aw o (l3 + 1)) ∧ (aw o (l3 + 1)) < gD S173 0 1 0 then
       (bI (K 303 [vr (some (85, 0)), vi (gD S173 0 0 ((aw o (l3 + 1)).toNat))] S173) (fun x176 S175 =>
        (if x174 = x176 then
         run o K false mi_307 n 18 [(0, vr (some (0, 0))), (1, vr (some (2, 0))), (2, vr (some (85, 0))), (3, vi (aw o (l3 + 7)))] [] S175
        else
         some (vi 0, S175))))
      else none)))
    else none)
   else (if (ab o 0 (gD S 0 0 (l3.toNat)) 63) = 38 then
    (if 0 ≤ (aw o (l3 + 1)) ∧ (aw o (l3 + 1)) < gD S 0 1 0 then
     (bI (K 186 [vr (some (2, 0)), vi (gD S 0 0 ((aw o (l3 + 1)).toNat))] S) (fun x178 S177 =>
      (if 0 ≤ (aw o (l3 + 1)) ∧ (aw o (l3 + 1)) < gD S177 0 1 0 then
       (bI (K 304 [vr (some (85, 0)), vi (gD S177 0 0 ((aw o (l3 + 1)).toNat))] S177) (fun x180 S179 =>
        (if x178 = x180 then
         run o K false mi_307 n 18 [(0, vr (some (0, 0))), (1, vr (some (2, 0))), (2, vr (some (85, 0))), (3, vi (aw o (l3 + 7)))] [] S179
        else
         some (vi 0, S179))))
      else none)))
    else none)
   else (if (ab o 0 (gD S 0 0 (l3.toNat)) 63) = 39 then
    (if 0 ≤ (aw o (l3 + 1)) ∧ (aw o (l3 + 1)) < gD S 0 1 0 then
     (if 0 ≤ (aw o (l3 + 2)) ∧ (aw o (l3 + 2)) < gD S 0 1 0 then
      (bI (K 187 [vr (some (2, 0)), vi (gD S 0 0 ((aw o (l3 + 1)).toNat)), vi (gD S 0 0 ((aw o (l3 + 2)).toNat))] S) (fun x182 S181 =>
       (if 0 ≤ (aw o (l3 + 1)) ∧ (aw o (l3 + 1)) < gD S181 0 1 0 then
        (if 0 ≤ (aw o (l3 + 2)) ∧ (aw o (l3 + 2)) < gD S181 0 1 0 then
         (bI (K 305 [vr (some (85, 0)), vi (gD S181 0 0 ((aw o (l3 + 1)).toNat)), vi (gD S181 0 0 ((aw o (l3 + 2)).toNat))] S181) (fun x184 S183 =>
          (if x182 = x184 then
           run o K false mi_307 n 18 [(0, vr (some (0, 0))), (1, vr (some (2, 0))), (2, vr (some (85, 0))), (3, vi (aw o (l3 + 7)))] [] S183
          else
           some (vi 0, S183))))
        else none)
       else none)))
     else none)
    else none)
   else (if (ab o 0 (gD S 0 0 (l3.toNat)) 63) = 40 then
    (if 0 ≤ (aw o (l3 + 1)) ∧ (aw o (l3 + 1)) < gD S 0 1 0 then
     (bI (K 188 [vr (some (2, 0)), vi (gD S 0 0 ((aw o (l3 + 1)).toNat))] S) (fun x186 S185 =>
      (if 0 ≤ (aw o (l3 + 1)) ∧ (aw o (l3 + 1)) < gD S185 0 1 0 then
       (bI (K 306 [vr (some (85, 0)), vi (gD S185 0 0 ((aw o (l3 + 1)).toNat))] S185) (fun x188 S187 =>
        (if x186 = x188 then
         run o K false mi_307 n 18 [(0, vr (some (0, 0))), (1, vr (some (2, 0))), (2, vr (some (85, 0))), (3, vi (aw o (l3 + 7)))] [] S187
        else
         some (vi 0, S187))))
      else none)))
    else none)
   else 
    run o K false mi_307 n 18 [(0, vr (some (0, 0))), (1, vr (some (2, 0))), (2, vr (some (85, 0))), (3, vi (aw o (l3 + 7)))] [] S)))))))))))))))))))))))))))))))))))))))))
  else none)) := rfl
