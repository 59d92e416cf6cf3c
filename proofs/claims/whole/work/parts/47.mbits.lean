/-! numberOfLeadingZeros, numberOfTrailingZeros, bitCount -/
section BTS
variable {xs : Nat → Int32} {d : Nat} {h : AH} {Q : OU_ → AH → Prop}
def ur_ (x y : Int32) : Int32 := (x.toUInt32 >>> (y.toUInt32 &&& Int32.toUInt32 31)).toInt32
def nl5_ (x n : Int32) : Int32 := n - ur_ x 1
def nl4_ (x n : Int32) : Int32 := if x < 4 then nl5_ x n else nl5_ (ur_ x 2) (n + -2)
def nl3_ (x n : Int32) : Int32 := if x < 16 then nl4_ x n else nl4_ (ur_ x 4) (n + -4)
def nl2_ (x n : Int32) : Int32 := if x < 256 then nl3_ x n else nl3_ (ur_ x 8) (n + -8)
def nl1_ (x n : Int32) : Int32 := if x < 65536 then nl2_ x n else nl2_ (ur_ x 16) (n + -16)
theorem c_nl5 {x n : Int32} : V_ xs d 179 73 [vI x, vI n] [] h Q ↔ Q (some (some (vI (nl5_ x n)))) h := by
  rw [s179_73]
  simp (disch := first | omega | assumption | decide | (apply bT_; decide)) only [s179_0, s179_1, s179_4, s179_5, s179_8, s179_10, s179_13, s179_14, s179_15, s179_17, s179_18, s179_19, s179_22, s179_25, s179_28, s179_29, s179_31, s179_32, s179_33, s179_34, s179_37, s179_40, s179_43, s179_44, s179_46, s179_47, s179_48, s179_49, s179_51, s179_54, s179_57, s179_58, s179_59, s179_60, s179_61, s179_62, s179_63, s179_66, s179_69, s179_70, s179_71, s179_72, s179_74, s179_75, s179_76, s179_77, s179_78, K_v, K_0, acI, acA, acJ, acX, List.map_cons, List.map_nil, List.sum_cons, List.sum_nil, true_and, and_true, posT, b2_0, b2_1, bft, true_or, or_true, Nat.zero_le, Nat.reduceAdd, Nat.reduceLeDiff]
  rfl
theorem c_nl4 {x n : Int32} : V_ xs d 179 61 [vI x, vI n] [] h Q ↔ Q (some (some (vI (nl4_ x n)))) h := by
  rw [s179_61]
  simp (disch := first | omega | assumption | decide | (apply bT_; decide)) only [s179_0, s179_1, s179_4, s179_5, s179_8, s179_10, s179_13, s179_14, s179_15, s179_17, s179_18, s179_19, s179_22, s179_25, s179_28, s179_29, s179_31, s179_32, s179_33, s179_34, s179_37, s179_40, s179_43, s179_44, s179_46, s179_47, s179_48, s179_49, s179_51, s179_54, s179_57, s179_58, s179_59, s179_60, s179_62, s179_63, s179_66, s179_69, s179_70, s179_71, s179_72, s179_74, s179_75, s179_76, s179_77, s179_78, K_v, K_0, acI, acA, acJ, acX, List.map_cons, List.map_nil, List.sum_cons, List.sum_nil, true_and, and_true, posT, b2_0, b2_1, bft, true_or, or_true, Nat.zero_le, Nat.reduceAdd, Nat.reduceLeDiff, c_nl5]
  unfold nl4_
  split <;> rfl
theorem c_nl3 {x n : Int32} : V_ xs d 179 48 [vI x, vI n] [] h Q ↔ Q (some (some (vI (nl3_ x n)))) h := by
  rw [s179_48]
  simp (disch := first | omega | assumption | decide | (apply bT_; decide)) only [s179_0, s179_1, s179_4, s179_5, s179_8, s179_10, s179_13, s179_14, s179_15, s179_17, s179_18, s179_19, s179_22, s179_25, s179_28, s179_29, s179_31, s179_32, s179_33, s179_34, s179_37, s179_40, s179_43, s179_44, s179_46, s179_47, s179_49, s179_51, s179_54, s179_57, s179_58, s179_59, s179_60, s179_62, s179_63, s179_66, s179_69, s179_70, s179_71, s179_72, s179_73, s179_74, s179_75, s179_76, s179_77, s179_78, K_v, K_0, acI, acA, acJ, acX, List.map_cons, List.map_nil, List.sum_cons, List.sum_nil, true_and, and_true, posT, b2_0, b2_1, bft, true_or, or_true, Nat.zero_le, Nat.reduceAdd, Nat.reduceLeDiff, c_nl4]
  unfold nl3_
  split <;> rfl
theorem c_nl2 {x n : Int32} : V_ xs d 179 33 [vI x, vI n] [] h Q ↔ Q (some (some (vI (nl2_ x n)))) h := by
  rw [s179_33]
  simp (disch := first | omega | assumption | decide | (apply bT_; decide)) only [s179_0, s179_1, s179_4, s179_5, s179_8, s179_10, s179_13, s179_14, s179_15, s179_17, s179_18, s179_19, s179_22, s179_25, s179_28, s179_29, s179_31, s179_32, s179_34, s179_37, s179_40, s179_43, s179_44, s179_46, s179_47, s179_49, s179_51, s179_54, s179_57, s179_58, s179_59, s179_60, s179_61, s179_62, s179_63, s179_66, s179_69, s179_70, s179_71, s179_72, s179_73, s179_74, s179_75, s179_76, s179_77, s179_78, K_v, K_0, acI, acA, acJ, acX, List.map_cons, List.map_nil, List.sum_cons, List.sum_nil, true_and, and_true, posT, b2_0, b2_1, bft, true_or, or_true, Nat.zero_le, Nat.reduceAdd, Nat.reduceLeDiff, c_nl3]
  unfold nl2_
  split <;> rfl
theorem c_nl1 {x n : Int32} : V_ xs d 179 18 [vI x, vI n] [] h Q ↔ Q (some (some (vI (nl1_ x n)))) h := by
  rw [s179_18]
  simp (disch := first | omega | assumption | decide | (apply bT_; decide)) only [s179_0, s179_1, s179_4, s179_5, s179_8, s179_10, s179_13, s179_14, s179_15, s179_17, s179_19, s179_22, s179_25, s179_28, s179_29, s179_31, s179_32, s179_34, s179_37, s179_40, s179_43, s179_44, s179_46, s179_47, s179_48, s179_49, s179_51, s179_54, s179_57, s179_58, s179_59, s179_60, s179_61, s179_62, s179_63, s179_66, s179_69, s179_70, s179_71, s179_72, s179_73, s179_74, s179_75, s179_76, s179_77, s179_78, K_v, K_0, acI, acA, acJ, acX, List.map_cons, List.map_nil, List.sum_cons, List.sum_nil, true_and, and_true, posT, b2_0, b2_1, bft, true_or, or_true, Nat.zero_le, Nat.reduceAdd, Nat.reduceLeDiff, c_nl2]
  unfold nl1_
  split <;> rfl
theorem c_nlz {x : Int32} (hx : 0 < x) : V_ xs d 179 0 [vI x, vX 0] [] h Q ↔ Q (some (some (vI (nl1_ x 31)))) h := by
  simp (disch := first | omega | assumption | decide | (apply bT_; decide)) only [s179_0, s179_1, s179_4, s179_5, s179_8, s179_10, s179_13, s179_14, s179_15, s179_17, s179_19, s179_22, s179_25, s179_28, s179_29, s179_31, s179_32, s179_33, s179_34, s179_37, s179_40, s179_43, s179_44, s179_46, s179_47, s179_48, s179_49, s179_51, s179_54, s179_57, s179_58, s179_59, s179_60, s179_61, s179_62, s179_63, s179_66, s179_69, s179_70, s179_71, s179_72, s179_73, s179_74, s179_75, s179_76, s179_77, s179_78, K_v, K_0, acI, acA, acJ, acX, List.map_cons, List.map_nil, List.sum_cons, List.sum_nil, true_and, and_true, posT, b2_0, b2_1, bft, true_or, or_true, Nat.zero_le, Nat.reduceAdd, Nat.reduceLeDiff, c_nl1, hx, if_true]
def nt5_ (x n : Int32) : Int32 := n + ur_ x 1
def nt4_ (x n : Int32) : Int32 := if 4 < x then nt5_ (ur_ x 2) (n + 2) else nt5_ x n
def nt3_ (x n : Int32) : Int32 := if 16 < x then nt4_ (ur_ x 4) (n + 4) else nt4_ x n
def nt2_ (x n : Int32) : Int32 := if 256 < x then nt3_ (ur_ x 8) (n + 8) else nt3_ x n
def nt1_ (x n : Int32) : Int32 := if 65536 < x then nt2_ (ur_ x 16) (n + 16) else nt2_ x n
def nt0_ (x : Int32) : Int32 := if 0 < (x ^^^ -1) &&& (x - 1) then nt1_ ((x ^^^ -1) &&& (x - 1)) 1 else (x ^^^ -1) &&& (x - 1) &&& 32
theorem c_nt5 {x n : Int32} : V_ xs d 180 74 [vI x, vI n] [] h Q ↔ Q (some (some (vI (nt5_ x n)))) h := by
  rw [s180_74]
  simp (disch := first | omega | assumption | decide | (apply bT_; decide)) only [s180_0, s180_1, s180_2, s180_3, s180_4, s180_5, s180_6, s180_7, s180_8, s180_9, s180_12, s180_13, s180_15, s180_16, s180_17, s180_18, s180_19, s180_20, s180_23, s180_26, s180_29, s180_30, s180_32, s180_33, s180_34, s180_35, s180_38, s180_41, s180_44, s180_45, s180_47, s180_48, s180_49, s180_50, s180_52, s180_55, s180_58, s180_59, s180_60, s180_61, s180_62, s180_63, s180_64, s180_67, s180_70, s180_71, s180_72, s180_73, s180_75, s180_76, s180_77, s180_78, s180_79, K_v, K_0, acI, acA, acJ, acX, List.map_cons, List.map_nil, List.sum_cons, List.sum_nil, true_and, and_true, posT, b2_0, b2_1, bft, true_or, or_true, Nat.zero_le, Nat.reduceAdd, Nat.reduceLeDiff]
  rfl
theorem c_nt4 {x n : Int32} : V_ xs d 180 62 [vI x, vI n] [] h Q ↔ Q (some (some (vI (nt4_ x n)))) h := by
  rw [s180_62]
  simp (disch := first | omega | assumption | decide | (apply bT_; decide)) only [s180_0, s180_1, s180_2, s180_3, s180_4, s180_5, s180_6, s180_7, s180_8, s180_9, s180_12, s180_13, s180_15, s180_16, s180_17, s180_18, s180_19, s180_20, s180_23, s180_26, s180_29, s180_30, s180_32, s180_33, s180_34, s180_35, s180_38, s180_41, s180_44, s180_45, s180_47, s180_48, s180_49, s180_50, s180_52, s180_55, s180_58, s180_59, s180_60, s180_61, s180_63, s180_64, s180_67, s180_70, s180_71, s180_72, s180_73, s180_75, s180_76, s180_77, s180_78, s180_79, K_v, K_0, acI, acA, acJ, acX, List.map_cons, List.map_nil, List.sum_cons, List.sum_nil, true_and, and_true, posT, b2_0, b2_1, bft, true_or, or_true, Nat.zero_le, Nat.reduceAdd, Nat.reduceLeDiff, c_nt5]
  unfold nt4_
  split <;> rfl
theorem c_nt3 {x n : Int32} : V_ xs d 180 49 [vI x, vI n] [] h Q ↔ Q (some (some (vI (nt3_ x n)))) h := by
  rw [s180_49]
  simp (disch := first | omega | assumption | decide | (apply bT_; decide)) only [s180_0, s180_1, s180_2, s180_3, s180_4, s180_5, s180_6, s180_7, s180_8, s180_9, s180_12, s180_13, s180_15, s180_16, s180_17, s180_18, s180_19, s180_20, s180_23, s180_26, s180_29, s180_30, s180_32, s180_33, s180_34, s180_35, s180_38, s180_41, s180_44, s180_45, s180_47, s180_48, s180_50, s180_52, s180_55, s180_58, s180_59, s180_60, s180_61, s180_63, s180_64, s180_67, s180_70, s180_71, s180_72, s180_73, s180_74, s180_75, s180_76, s180_77, s180_78, s180_79, K_v, K_0, acI, acA, acJ, acX, List.map_cons, List.map_nil, List.sum_cons, List.sum_nil, true_and, and_true, posT, b2_0, b2_1, bft, true_or, or_true, Nat.zero_le, Nat.reduceAdd, Nat.reduceLeDiff, c_nt4]
  unfold nt3_
  split <;> rfl
theorem c_nt2 {x n : Int32} : V_ xs d 180 34 [vI x, vI n] [] h Q ↔ Q (some (some (vI (nt2_ x n)))) h := by
  rw [s180_34]
  simp (disch := first | omega | assumption | decide | (apply bT_; decide)) only [s180_0, s180_1, s180_2, s180_3, s180_4, s180_5, s180_6, s180_7, s180_8, s180_9, s180_12, s180_13, s180_15, s180_16, s180_17, s180_18, s180_19, s180_20, s180_23, s180_26, s180_29, s180_30, s180_32, s180_33, s180_35, s180_38, s180_41, s180_44, s180_45, s180_47, s180_48, s180_50, s180_52, s180_55, s180_58, s180_59, s180_60, s180_61, s180_62, s180_63, s180_64, s180_67, s180_70, s180_71, s180_72, s180_73, s180_74, s180_75, s180_76, s180_77, s180_78, s180_79, K_v, K_0, acI, acA, acJ, acX, List.map_cons, List.map_nil, List.sum_cons, List.sum_nil, true_and, and_true, posT, b2_0, b2_1, bft, true_or, or_true, Nat.zero_le, Nat.reduceAdd, Nat.reduceLeDiff, c_nt3]
  unfold nt2_
  split <;> rfl
theorem c_nt1 {x n : Int32} : V_ xs d 180 19 [vI x, vI n] [] h Q ↔ Q (some (some (vI (nt1_ x n)))) h := by
  rw [s180_19]
  simp (disch := first | omega | assumption | decide | (apply bT_; decide)) only [s180_0, s180_1, s180_2, s180_3, s180_4, s180_5, s180_6, s180_7, s180_8, s180_9, s180_12, s180_13, s180_15, s180_16, s180_17, s180_18, s180_20, s180_23, s180_26, s180_29, s180_30, s180_32, s180_33, s180_35, s180_38, s180_41, s180_44, s180_45, s180_47, s180_48, s180_49, s180_50, s180_52, s180_55, s180_58, s180_59, s180_60, s180_61, s180_62, s180_63, s180_64, s180_67, s180_70, s180_71, s180_72, s180_73, s180_74, s180_75, s180_76, s180_77, s180_78, s180_79, K_v, K_0, acI, acA, acJ, acX, List.map_cons, List.map_nil, List.sum_cons, List.sum_nil, true_and, and_true, posT, b2_0, b2_1, bft, true_or, or_true, Nat.zero_le, Nat.reduceAdd, Nat.reduceLeDiff, c_nt2]
  unfold nt1_
  split <;> rfl
theorem c_nt0 {x : Int32} : V_ xs d 180 0 [vI x, vX 0] [] h Q ↔ Q (some (some (vI (nt0_ x)))) h := by
  simp (disch := first | omega | assumption | decide | (apply bT_; decide)) only [s180_0, s180_1, s180_2, s180_3, s180_4, s180_5, s180_6, s180_7, s180_8, s180_9, s180_12, s180_13, s180_15, s180_16, s180_17, s180_18, s180_20, s180_23, s180_26, s180_29, s180_30, s180_32, s180_33, s180_34, s180_35, s180_38, s180_41, s180_44, s180_45, s180_47, s180_48, s180_49, s180_50, s180_52, s180_55, s180_58, s180_59, s180_60, s180_61, s180_62, s180_63, s180_64, s180_67, s180_70, s180_71, s180_72, s180_73, s180_74, s180_75, s180_76, s180_77, s180_78, s180_79, K_v, K_0, acI, acA, acJ, acX, List.map_cons, List.map_nil, List.sum_cons, List.sum_nil, true_and, and_true, posT, b2_0, b2_1, bft, true_or, or_true, Nat.zero_le, Nat.reduceAdd, Nat.reduceLeDiff, c_nt1]
  unfold nt0_
  split <;> rfl
theorem nt_two : ∀ b, b < 8 → ∀ a, a < b → nt0_ (Int32.ofNat (2 ^ a ||| 2 ^ b)) = Int32.ofNat a := by decide +kernel
theorem nl_two : ∀ b, b < 8 → ∀ a, a < b → 31 - nl1_ (Int32.ofNat (2 ^ a ||| 2 ^ b)) 31 = Int32.ofNat b := by decide +kernel
/-- how many roles a set has -/
def pc_ (s : Nat) : Nat := sm_ (fun r => if s.testBit r = true then 1 else 0) 8
def bc1_ (x : Int32) : Int32 := x - (ur_ x 1 &&& 1431655765)
def bc2_ (x : Int32) : Int32 := (x &&& 858993459) + (ur_ x 2 &&& 858993459)
def bc3_ (x : Int32) : Int32 := (x + ur_ x 4) &&& 252645135
def bc4_ (x : Int32) : Int32 := x + ur_ x 8
def bc5_ (x : Int32) : Int32 := (x + ur_ x 16) &&& 63
theorem bc_pc : ∀ s, s < 256 → bc5_ (bc4_ (bc3_ (bc2_ (bc1_ (Int32.ofNat s))))) = Int32.ofNat (pc_ s) := by decide +kernel
theorem c_bitCount {s : Nat} (hs : s < 256) : V_ xs d 181 0 [vI (Int32.ofNat s)] [] h Q ↔ Q (some (some (vI (Int32.ofNat (pc_ s))))) h := by
  rw [← bc_pc s hs]
  simp (disch := first | omega | assumption | decide | (apply bT_; decide)) only [s181_0, s181_1, s181_2, s181_3, s181_4, s181_7, s181_8, s181_9, s181_10, s181_11, s181_14, s181_15, s181_16, s181_17, s181_18, s181_21, s181_22, s181_23, s181_24, s181_25, s181_26, s181_27, s181_28, s181_29, s181_32, s181_33, s181_34, s181_35, s181_36, s181_38, s181_39, s181_40, s181_41, s181_42, s181_43, s181_45, s181_46, s181_47, s181_48, s181_49, s181_51, s181_52, K_v, K_0, acI, acA, acJ, acX, List.map_cons, List.map_nil, List.sum_cons, List.sum_nil, true_and, and_true, posT, b2_0, b2_1, bft, true_or, or_true, Nat.zero_le, Nat.reduceAdd, Nat.reduceLeDiff]
  rfl
end BTS
