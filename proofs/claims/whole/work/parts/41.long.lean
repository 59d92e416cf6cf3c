/-! longs -/
theorem lgd_0 {x y : Int64} : lg_cmp x y = 0 ↔ x = y := by
  unfold lg_cmp
  simp only [gt_iff_lt, Int64.lt_iff_toInt_lt, ← Int64.toInt_inj]
  split
  · rename_i h1; constructor
    · intro z; exact absurd z (by decide)
    · intro z; omega
  · split
    · rename_i h2; exact ⟨fun _ => h2, fun _ => rfl⟩
    · rename_i h2; exact ⟨fun z => absurd z (by decide), fun z => absurd z h2⟩
theorem lgd_gt {x y : Int64} : 0 < lg_cmp x y ↔ y < x := by
  unfold lg_cmp
  simp only [gt_iff_lt, Int64.lt_iff_toInt_lt, ← Int64.toInt_inj]
  split
  · rename_i h1; exact ⟨fun _ => h1, fun _ => by decide⟩
  · rename_i h1
    split
    · exact ⟨fun z => absurd z (by decide), fun z => absurd z h1⟩
    · exact ⟨fun z => absurd z (by decide), fun z => absurd z h1⟩
theorem lgd_lt {x y : Int64} : lg_cmp x y < 0 ↔ x < y := by
  unfold lg_cmp
  simp only [gt_iff_lt, Int64.lt_iff_toInt_lt, ← Int64.toInt_inj]
  split
  · rename_i h1; constructor
    · intro z; exact absurd z (by decide)
    · intro z; omega
  · split
    · rename_i h2; constructor
      · intro z; exact absurd z (by decide)
      · intro z; omega
    · rename_i h2; constructor
      · intro _; omega
      · intro _; decide
theorem l_ti {a : Nat} (ha : a < 9223372036854775808) : (Int64.ofNat a).toInt = (a : Int) := Int64.toInt_ofNat_of_lt ha
theorem l_lt {a b : Nat} (ha : a < 9223372036854775808) (hb : b < 9223372036854775808) : (Int64.ofNat a < Int64.ofNat b) ↔ a < b := by
  rw [Int64.lt_iff_toInt_lt, l_ti ha, l_ti hb]; omega
theorem l_eq {a b : Nat} (ha : a < 9223372036854775808) (hb : b < 9223372036854775808) : (Int64.ofNat a = Int64.ofNat b) ↔ a = b := by
  rw [← Int64.toInt_inj, l_ti ha, l_ti hb]; omega
theorem l_add {a b : Nat} : Int64.ofNat a + Int64.ofNat b = Int64.ofNat (a + b) := (Int64.ofNat_add _ _).symm
theorem l_and {a b : Nat} : Int64.ofNat a &&& Int64.ofNat b = Int64.ofNat (a &&& b) := by
  apply Int64.toBitVec_inj.mp
  apply BitVec.eq_of_toNat_eq
  show ((BitVec.ofNat 64 a) &&& (BitVec.ofNat 64 b)).toNat = (BitVec.ofNat 64 (a &&& b)).toNat
  rw [BitVec.toNat_and, BitVec.toNat_ofNat, BitVec.toNat_ofNat, BitVec.toNat_ofNat, Nat.and_mod_two_pow]
theorem l_15 {a : Nat} : Int64.ofNat a &&& 15 = Int64.ofNat (a % 16) := by
  rw [show (15 : Int64) = Int64.ofNat 15 from rfl, l_and, show 15 = 2 ^ 4 - 1 from rfl, Nat.and_two_pow_sub_one_eq_mod]
theorem l_sa : ∀ k, k < 64 → (Int32.ofNat k).toInt64.toUInt64 &&& Int64.toUInt64 63 = UInt64.ofNat k := by decide +kernel
theorem l_us {a k : Nat} (ha : a < 9223372036854775808) (hk : k < 64) : us_ (Int64.ofNat a) (Int32.ofNat k) = Int64.ofNat (a / 2 ^ k) := by
  unfold us_
  rw [l_sa k hk]
  have h1 : a / 2 ^ k ≤ a := Nat.div_le_self _ _
  have e : (Int64.ofNat a).toUInt64 >>> UInt64.ofNat k = UInt64.ofNat (a / 2 ^ k) := by
    apply UInt64.toNat_inj.mp
    rw [UInt64.toNat_shiftRight, UInt64.toNat_ofNat', UInt64.toNat_ofNat', Nat.mod_eq_of_lt (show k < 2 ^ 64 by omega), Nat.mod_eq_of_lt hk, Nat.mod_eq_of_lt (show a / 2 ^ k < 2 ^ 64 by omega), Nat.shiftRight_eq_div_pow]
    show (UInt64.ofNat a).toNat / 2 ^ k = _
    rw [UInt64.toNat_ofNat', Nat.mod_eq_of_lt (show a < 2 ^ 64 by omega)]
  rw [e]
  rfl
theorem l_i32 {a : Nat} : (Int64.ofNat a).toInt32 = Int32.ofNat a := Int64.toInt32_ofNat
theorem l_i64 : ∀ k, k < 13 → (Int32.ofNat k).toInt64 = Int64.ofNat k := by decide +kernel
theorem l_shl : ∀ r, r < 8 → ∀ m, m < 13 → Int64.ofNat m <<< ((Int32.ofNat (4 * (7 - r))).toInt64 &&& 63) = Int64.ofNat (m * 16 ^ (7 - r)) := by decide +kernel
theorem w_plc : ∀ r, r < 8 → 4 * (7 - Int32.ofNat r) = Int32.ofNat (4 * (7 - r)) := by decide +kernel
theorem p16 : ∀ r, r < 8 → 2 ^ (4 * (7 - r)) = 16 ^ (7 - r) := by decide
/-- a row's value: none is -1 -/
def lv_ : Option Nat → Int64
  | none => -1
  | some v => Int64.ofNat v
/-- the digit of a role in a cast's number -/
def dg_ (c r : Nat) : Nat := c / 16 ^ (7 - r) % 16
/-- what it is worth that a role is given to an actor -/
def gw_ (c r : Nat) : Nat → Nat
  | 0 => 0
  | b + 1 => 4294967296 + (12 - b) * 16 ^ (7 - r) + (if dg_ c r = 12 - b then 68719476736 else 0)
section CFW
variable {xs : Nat → Int32} {d : Nat} {h : AH} {Q : OU_ → AH → Prop}
theorem c_worthOf {m a c : Nat} (hm : m < 256) (ha : a < 12) (hc : c < 9223372036854775808) (hd : 1 ≤ d) : V_ xs d 22 0 [vI (Int32.ofNat m), vJ (Int64.ofNat (12 - a)), vX 0, vJ (Int64.ofNat c), vX 0, vX 0, vX 0, vX 0, vX 0, vX 0] [] h Q ↔ Q (some (some (vJ (Int64.ofNat (pw_ 8 (gw_ c) a m))))) h := by
  have L9 := loop_ (P := fun r (x : AV × AV) => V_ xs d 22 6 [vI (Int32.ofNat m), vJ (Int64.ofNat (12 - a)), vX 0, vJ (Int64.ofNat c), vX 0, vJ (Int64.ofNat (pw_ r (gw_ c) a m)), vX 0, vI (Int32.ofNat r), x.1, x.2] [] h Q) (f := fun r (x : AV × AV) => if m.testBit r = true then (vI (Int32.ofNat (4 * (7 - r))), vI (b2_ (decide (dg_ c r = 12 - a)))) else x) (n := 8) (fun _ _ => True) (fun r x hr _ => ⟨by
    have h1 := w_bit (M := m) (m := r) (by omega) (by omega)
    have h2 := w_plc r hr
    have h3 := l_shl r hr (12 - a) (by omega)
    have h4 := l_us (k := 4 * (7 - r)) hc (by omega)
    unfold us_ at h4
    have hdl : dg_ c r < 16 := Nat.mod_lt _ (by omega)
    have h5 : Int64.ofNat (c / 16 ^ (7 - r)) &&& 15 = Int64.ofNat (dg_ c r) := l_15
    have hs : pw_ (r + 1) (gw_ c) a m = pw_ r (gw_ c) a m + (if m.testBit r = true then gw_ c r (a + 1) else 0) := rfl
    have i8 : Int32.ofNat r < 8 := (w_lt (b := 8) (by omega) (by omega)).mpr hr
    have k1 : (4294967296 : Int64) = Int64.ofNat 4294967296 := rfl
    have k2 : (68719476736 : Int64) = Int64.ofNat 68719476736 := rfl
    have k3 : ¬ ((1 : Int32) = 0) := by decide
    rw [s22_6, hs]
    cases hb : m.testBit r
    · rw [hb] at h1
      simp (disch := first | omega | assumption | decide | (apply bT_; decide)) only [s22_0, s22_1, s22_3, s22_4, s22_8, s22_10, s22_13, s22_14, s22_16, s22_17, s22_18, s22_19, s22_20, s22_23, s22_25, s22_28, s22_30, s22_31, s22_33, s22_34, s22_37, s22_38, s22_39, s22_40, s22_43, s22_44, s22_47, s22_48, s22_50, s22_52, s22_55, s22_56, s22_58, s22_59, s22_60, s22_62, s22_65, s22_68, s22_71, s22_72, s22_73, s22_74, s22_76, s22_79, s22_82, s22_84, K_v, K_0, acI, acA, acJ, acX, List.map_cons, List.map_nil, List.sum_cons, List.sum_nil, true_and, and_true, posT, b2_0, b2_1, bft, true_or, or_true, Nat.zero_le, Nat.reduceAdd, Nat.reduceLeDiff, hI_uI, hL_uI, hR_uI, nx_uI, sl_uI, hI_uL, hL_uL, hR_uL, nx_uL, sl_uL, hI_uR, hL_uR, hR_uR, nx_uR, sl_uR, st_eq, if_true, if_false, eq_self, Nat.reduceEqDiff, Nat.reduceMul, reduceIte, kdT, ixT, w_cl, w_ti, w_s1, w_a, w_m12, w_m8, w_m3, w_m4, h1, i8, Bool.false_eq_true, Nat.add_zero]
    · rw [hb] at h1
      by_cases q : dg_ c r = 12 - a
      · simp (disch := first | omega | assumption | decide | (apply bT_; decide)) only [s22_0, s22_1, s22_3, s22_4, s22_8, s22_10, s22_13, s22_14, s22_16, s22_17, s22_18, s22_19, s22_20, s22_23, s22_25, s22_28, s22_30, s22_31, s22_33, s22_34, s22_37, s22_38, s22_39, s22_40, s22_43, s22_44, s22_47, s22_48, s22_50, s22_52, s22_55, s22_56, s22_58, s22_59, s22_60, s22_62, s22_65, s22_68, s22_71, s22_72, s22_73, s22_74, s22_76, s22_79, s22_82, s22_84, K_v, K_0, acI, acA, acJ, acX, List.map_cons, List.map_nil, List.sum_cons, List.sum_nil, true_and, and_true, posT, b2_0, b2_1, bft, true_or, or_true, Nat.zero_le, Nat.reduceAdd, Nat.reduceLeDiff, hI_uI, hL_uI, hR_uI, nx_uI, sl_uI, hI_uL, hL_uL, hR_uL, nx_uL, sl_uL, hI_uR, hL_uR, hR_uR, nx_uR, sl_uR, st_eq, if_true, if_false, eq_self, Nat.reduceEqDiff, Nat.reduceMul, reduceIte, kdT, ixT, w_cl, w_ti, w_s1, w_a, w_m12, w_m8, w_m3, w_m4, h1, h2, h3, h4, h5, p16 r hr, c_placeOf, lgd_0, l_eq, i8, q, decide_true, gw_, k3]
        rw [k1, k2, l_add, l_add, l_add]; rfl
      · simp (disch := first | omega | assumption | decide | (apply bT_; decide)) only [s22_0, s22_1, s22_3, s22_4, s22_8, s22_10, s22_13, s22_14, s22_16, s22_17, s22_18, s22_19, s22_20, s22_23, s22_25, s22_28, s22_30, s22_31, s22_33, s22_34, s22_37, s22_38, s22_39, s22_40, s22_43, s22_44, s22_47, s22_48, s22_50, s22_52, s22_55, s22_56, s22_58, s22_59, s22_60, s22_62, s22_65, s22_68, s22_71, s22_72, s22_73, s22_74, s22_76, s22_79, s22_82, s22_84, K_v, K_0, acI, acA, acJ, acX, List.map_cons, List.map_nil, List.sum_cons, List.sum_nil, true_and, and_true, posT, b2_0, b2_1, bft, true_or, or_true, Nat.zero_le, Nat.reduceAdd, Nat.reduceLeDiff, hI_uI, hL_uI, hR_uI, nx_uI, sl_uI, hI_uL, hL_uL, hR_uL, nx_uL, sl_uL, hI_uR, hL_uR, hR_uR, nx_uR, sl_uR, st_eq, if_true, if_false, eq_self, Nat.reduceEqDiff, Nat.reduceMul, reduceIte, kdT, ixT, w_cl, w_ti, w_s1, w_a, w_m12, w_m8, w_m3, w_m4, h1, h2, h3, h4, h5, p16 r hr, c_placeOf, lgd_0, l_eq, i8, q, decide_false, gw_, Int64.add_zero]
        rw [k1, l_add, l_add]; rfl, trivial⟩) 8 0 (vX 0, vX 0) (by omega) trivial
  simp (disch := first | omega | assumption | decide | (apply bT_; decide)) only [s22_0, s22_1, s22_3, s22_4, s22_8, s22_10, s22_13, s22_14, s22_16, s22_17, s22_18, s22_19, s22_20, s22_23, s22_25, s22_28, s22_30, s22_31, s22_33, s22_34, s22_37, s22_38, s22_39, s22_40, s22_43, s22_44, s22_47, s22_48, s22_50, s22_52, s22_55, s22_56, s22_58, s22_59, s22_60, s22_62, s22_65, s22_68, s22_71, s22_72, s22_73, s22_74, s22_76, s22_79, s22_82, s22_84, K_v, K_0, acI, acA, acJ, acX, List.map_cons, List.map_nil, List.sum_cons, List.sum_nil, true_and, and_true, posT, b2_0, b2_1, bft, true_or, or_true, Nat.zero_le, Nat.reduceAdd, Nat.reduceLeDiff, hI_uI, hL_uI, hR_uI, nx_uI, sl_uI, hI_uL, hL_uL, hR_uL, nx_uL, sl_uL, hI_uR, hL_uR, hR_uR, nx_uR, sl_uR, st_eq, if_true, if_false, eq_self, Nat.reduceEqDiff, Nat.reduceMul, reduceIte, kdT, ixT, w_cl, w_ti, w_s1, w_a, w_m12, w_m8, w_m3, w_m4]
  refine (show V_ xs d 22 6 [vI (Int32.ofNat m), vJ (Int64.ofNat (12 - a)), vX 0, vJ (Int64.ofNat c), vX 0, vJ (Int64.ofNat 0), vX 0, vI (Int32.ofNat 0), vX 0, vX 0] [] h Q ↔ _ from L9.1).trans ?_
  have n8 : ¬ (Int32.ofNat 8 < 8) := by decide
  rw [s22_6]
  simp (disch := first | omega | assumption | decide | (apply bT_; decide)) only [s22_0, s22_1, s22_3, s22_4, s22_8, s22_10, s22_13, s22_14, s22_16, s22_17, s22_18, s22_19, s22_20, s22_23, s22_25, s22_28, s22_30, s22_31, s22_33, s22_34, s22_37, s22_38, s22_39, s22_40, s22_43, s22_44, s22_47, s22_48, s22_50, s22_52, s22_55, s22_56, s22_58, s22_59, s22_60, s22_62, s22_65, s22_68, s22_71, s22_72, s22_73, s22_74, s22_76, s22_79, s22_82, s22_84, K_v, K_0, acI, acA, acJ, acX, List.map_cons, List.map_nil, List.sum_cons, List.sum_nil, true_and, and_true, posT, b2_0, b2_1, bft, true_or, or_true, Nat.zero_le, Nat.reduceAdd, Nat.reduceLeDiff, hI_uI, hL_uI, hR_uI, nx_uI, sl_uI, hI_uL, hL_uL, hR_uL, nx_uL, sl_uL, hI_uR, hL_uR, hR_uR, nx_uR, sl_uR, st_eq, if_true, if_false, eq_self, Nat.reduceEqDiff, Nat.reduceMul, reduceIte, kdT, ixT, w_cl, w_ti, w_s1, w_a, w_m12, w_m8, w_m3, w_m4, n8]
end CFW
