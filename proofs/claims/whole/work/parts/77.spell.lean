/-! the spellings -/
def sref_ (j : Nat) : Nat := ((j + 24) * 4096 + (txt_.getD j []).length) * 64 + 33
def bref_ (j : Nat) : Nat := ((j + 60) * 4096 + (txt_.getD j []).length) * 64 + 34
def tref_ (j : Nat) : Nat := (j + 1) * 262144 + 32
def sln_ (j : Nat) : Nat := (txt_.getD j []).length
def sch_ (j k : Nat) : Int32 := (txt_.getD j []).getD k 0
theorem str_f : ∀ j, j < 36 → kd_ (sref_ j) = 33 ∧ cR_ (sref_ j) 0 = some (bref_ j) ∧ kd_ (bref_ j) = 34 ∧ ln_ (bref_ j) = sln_ j ∧ cI_ (sref_ j) 1 = 0 ∧ sln_ j ≤ 5 := by decide +kernel
theorem str_c : ∀ j, j < 36 → ∀ i, i < sln_ j → cI_ (bref_ j) i = sch_ j i ∧ ((sch_ j i &&& 255).toUInt32 % 65536).toInt32 = sch_ j i ∧ rb_ (some FieldType.char) (sch_ j i) = true := by decide +kernel
theorem tok_f : ∀ j, j < 22 → kd_ (tref_ j) = 32 ∧ cR_ (tref_ j) 1 = some (sref_ j) ∧ tkb_ (some (tref_ j)) = true := by decide +kernel
theorem toks_f : ∀ j, j < 22 → cR_ 6030755 j = some (tref_ j) := by decide +kernel
section STR
variable {xs : Nat → Int32} {d : Nat} {h : AH} {Q : OU_ → AH → Prop} {j : Nat}
theorem c_strlen (hj : j < 36) (hd : 1 ≤ d) : V_ xs d 187 0 [vA (some (sref_ j))] [] h Q ↔ Q (some (some (vI (Int32.ofNat (sln_ j))))) h := by
  obtain ⟨f1, f2, f3, f4, f5, f6⟩ := str_f j hj
  have k10 : ¬ ((1 : Int32) = 0) := by decide
  have r0 : rb_ (some FieldType.byte) 0 = true := by decide
  have hak : 16 ≤ kd_ (bref_ j) ∧ kd_ (bref_ j) ≤ 22 ∨ 34 ≤ kd_ (bref_ j) ∧ kd_ (bref_ j) ≤ 36 := by rw [f3]; decide
  have hsh : ∀ n, n ≤ 5 → Int32.ofNat n >>> ((0 : Int32) &&& 31) = Int32.ofNat n := by decide +kernel
  have h2 := hsh _ f6
  have hco : ∀ Q, V_ xs (d - 1) 189 0 [vA (some (sref_ j))] [] h Q ↔ Q (some (some (vI 0))) h := by
    intro Q
    simp (disch := first | omega | assumption | decide | (apply bT_; decide)) only [s189_0, s189_3, s189_6, s189_7, s189_10, s189_14, K_v, K_0, acI, acA, acJ, acX, List.map_cons, List.map_nil, List.sum_cons, List.sum_nil, true_and, and_true, posT, b2_0, b2_1, bft, true_or, or_true, Nat.zero_le, Nat.reduceAdd, Nat.reduceLeDiff, hI_uI, hL_uI, hR_uI, nx_uI, sl_uI, hI_uL, hL_uL, hR_uL, nx_uL, sl_uL, hI_uR, hL_uR, hR_uR, nx_uR, sl_uR, st_eq, if_true, if_false, eq_self, Nat.reduceEqDiff, Nat.reduceMul, reduceIte, kdT, ixT, w_cl, w_ti, w_s1, w_a, w_m12, w_m8, w_m3, w_m4, f1, f5, k10, r0]
  simp (disch := first | omega | assumption | decide | (apply bT_; decide)) only [s187_0, s187_1, s187_4, s187_5, s187_6, s187_9, s187_10, K_v, K_0, acI, acA, acJ, acX, List.map_cons, List.map_nil, List.sum_cons, List.sum_nil, true_and, and_true, posT, b2_0, b2_1, bft, true_or, or_true, Nat.zero_le, Nat.reduceAdd, Nat.reduceLeDiff, hI_uI, hL_uI, hR_uI, nx_uI, sl_uI, hI_uL, hL_uL, hR_uL, nx_uL, sl_uL, hI_uR, hL_uR, hR_uR, nx_uR, sl_uR, st_eq, if_true, if_false, eq_self, Nat.reduceEqDiff, Nat.reduceMul, reduceIte, kdT, ixT, w_cl, w_ti, w_s1, w_a, w_m12, w_m8, w_m3, w_m4, f1, f2, f4, hak, hco, h2]
theorem c_charAt {i : Nat} (hj : j < 36) (hi : i < sln_ j) (hd : 4 ≤ d) : V_ xs d 188 0 [vA (some (sref_ j)), vI (Int32.ofNat i)] [] h Q ↔ Q (some (some (vI (sch_ j i)))) h := by
  obtain ⟨f1, f2, f3, f4, f5, f6⟩ := str_f j hj
  obtain ⟨g1, g2, g3⟩ := str_c j hj i hi
  have k10 : ¬ ((1 : Int32) = 0) := by decide
  have hak : 16 ≤ kd_ (bref_ j) ∧ kd_ (bref_ j) ≤ 22 ∨ 34 ≤ kd_ (bref_ j) ∧ kd_ (bref_ j) ≤ 36 := by rw [f3]; decide
  have n0 := w_n0 (a := i) (by omega)
  have l0 : Int32.ofNat i < Int32.ofNat (sln_ j) := (w_lt (by omega) (by omega)).mpr hi
  have hix : ix_ (Int32.ofNat i) (sln_ j) := w_ix hi (by omega)
  have hcl := w_cl (a := i) (by omega)
  have hla : ∀ Q, V_ xs (d - 1) 190 0 [vA (some (sref_ j))] [] h Q ↔ Q (some (some (vI 1))) h := by
    intro Q
    simp (disch := first | omega | assumption | decide | (apply bT_; decide)) only [s190_0, s190_3, s190_6, s190_7, s190_10, s190_13, s190_14, s190_17, s190_18, K_v, K_0, acI, acA, acJ, acX, List.map_cons, List.map_nil, List.sum_cons, List.sum_nil, true_and, and_true, posT, b2_0, b2_1, bft, true_or, or_true, Nat.zero_le, Nat.reduceAdd, Nat.reduceLeDiff, hI_uI, hL_uI, hR_uI, nx_uI, sl_uI, hI_uL, hL_uL, hR_uL, nx_uL, sl_uL, hI_uR, hL_uR, hR_uR, nx_uR, sl_uR, st_eq, if_true, if_false, eq_self, Nat.reduceEqDiff, Nat.reduceMul, reduceIte, kdT, ixT, w_cl, w_ti, w_s1, w_a, w_m12, w_m8, w_m3, w_m4, f1, f5, k10, or_true, true_or]
  have hci : ∀ Q, V_ xs (d - 1 - 1) 191 0 [vI (Int32.ofNat i), vI (Int32.ofNat (sln_ j))] [] h Q ↔ Q (some none) h := by
    intro Q
    have h199 : ∀ Q, V_ xs (d - 1 - 1 - 1) 199 0 [vI (Int32.ofNat i), vI (Int32.ofNat (sln_ j)), vX 1] [] h Q ↔ Q (some (some (vI (Int32.ofNat i)))) h := by
      intro Q
      simp (disch := first | omega | assumption | decide | (apply bT_; decide)) only [s199_0, s199_1, s199_4, s199_5, s199_6, s199_10, s199_11, s199_16, s199_17, K_v, K_0, acI, acA, acJ, acX, List.map_cons, List.map_nil, List.sum_cons, List.sum_nil, true_and, and_true, posT, b2_0, b2_1, bft, true_or, or_true, Nat.zero_le, Nat.reduceAdd, Nat.reduceLeDiff, hI_uI, hL_uI, hR_uI, nx_uI, sl_uI, hI_uL, hL_uL, hR_uL, nx_uL, sl_uL, hI_uR, hL_uR, hR_uR, nx_uR, sl_uR, st_eq, if_true, if_false, eq_self, Nat.reduceEqDiff, Nat.reduceMul, reduceIte, kdT, ixT, w_cl, w_ti, w_s1, w_a, w_m12, w_m8, w_m3, w_m4, n0, l0]
    simp (disch := first | omega | assumption | decide | (apply bT_; decide)) only [s191_0, s191_1, s191_2, s191_5, s191_8, s191_8i, s191_9, K_v, K_0, acI, acA, acJ, acX, List.map_cons, List.map_nil, List.sum_cons, List.sum_nil, true_and, and_true, posT, b2_0, b2_1, bft, true_or, or_true, Nat.zero_le, Nat.reduceAdd, Nat.reduceLeDiff, hI_uI, hL_uI, hR_uI, nx_uI, sl_uI, hI_uL, hL_uL, hR_uL, nx_uL, sl_uL, hI_uR, hL_uR, hR_uR, nx_uR, sl_uR, st_eq, if_true, if_false, eq_self, Nat.reduceEqDiff, Nat.reduceMul, reduceIte, kdT, ixT, w_cl, w_ti, w_s1, w_a, w_m12, w_m8, w_m3, w_m4, h199]
  have h192 : ∀ Q, V_ xs (d - 1) 192 0 [vA (some (bref_ j)), vI (Int32.ofNat i)] [] h Q ↔ Q (some (some (vI (sch_ j i)))) h := by
    intro Q
    simp (disch := first | omega | assumption | decide | (apply bT_; decide)) only [s192_0, s192_1, s192_2, s192_3, s192_6, s192_7, s192_8, s192_9, s192_12, s192_13, s192_14, K_v, K_0, acI, acA, acJ, acX, List.map_cons, List.map_nil, List.sum_cons, List.sum_nil, true_and, and_true, posT, b2_0, b2_1, bft, true_or, or_true, Nat.zero_le, Nat.reduceAdd, Nat.reduceLeDiff, hI_uI, hL_uI, hR_uI, nx_uI, sl_uI, hI_uL, hL_uL, hR_uL, nx_uL, sl_uL, hI_uR, hL_uR, hR_uR, nx_uR, sl_uR, st_eq, if_true, if_false, eq_self, Nat.reduceEqDiff, Nat.reduceMul, reduceIte, kdT, ixT, w_cl, w_ti, w_s1, w_a, w_m12, w_m8, w_m3, w_m4, hak, f3, f4, hci, hix, hcl, g1, g2, g3]
  simp (disch := first | omega | assumption | decide | (apply bT_; decide)) only [s188_0, s188_1, s188_4, s188_7, s188_8, s188_11, s188_12, s188_15, s188_17, s188_20, s188_21, s188_24, K_v, K_0, acI, acA, acJ, acX, List.map_cons, List.map_nil, List.sum_cons, List.sum_nil, true_and, and_true, posT, b2_0, b2_1, bft, true_or, or_true, Nat.zero_le, Nat.reduceAdd, Nat.reduceLeDiff, hI_uI, hL_uI, hR_uI, nx_uI, sl_uI, hI_uL, hL_uL, hR_uL, nx_uL, sl_uL, hI_uR, hL_uR, hR_uR, nx_uR, sl_uR, st_eq, if_true, if_false, eq_self, Nat.reduceEqDiff, Nat.reduceMul, reduceIte, kdT, ixT, w_cl, w_ti, w_s1, w_a, w_m12, w_m8, w_m3, w_m4, f1, f2, hla, k10, h192, g3]
end STR
