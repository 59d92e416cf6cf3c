/-! small methods -/
theorem acI {x : Int32} : acat_ (vI x) = 1 := rfl
theorem acJ {x : Int64} : acat_ (vJ x) = 2 := rfl
theorem acA {x : Option Nat} : acat_ (vA x) = 1 := rfl
theorem acX {x : Nat} : acat_ (vX x) = 1 := rfl
theorem posT {d : Nat} (h : 0 < d) : (0 < d) ↔ True := ⟨fun _ => trivial, fun _ => h⟩
theorem ixT {a n : Nat} (h1 : a < n) (h2 : n ≤ 4096) : ix_ (Int32.ofNat a) n ↔ True := ⟨fun _ => trivial, fun _ => w_ix h1 h2⟩
def b2_ (b : Bool) : Int32 := if b = true then 1 else 0
theorem b2_t : b2_ true = 1 := rfl
theorem b2_f : b2_ false = 0 := rfl
theorem b2_0 {b : Bool} : b2_ b = 0 ↔ b = false := by cases b <;> decide
theorem b2_1 {b : Bool} : b2_ b = 1 ↔ b = true := by cases b <;> decide
theorem b2_01 {b : Bool} : (b2_ b = 0 ∨ b2_ b = 1) ↔ True := by cases b <;> decide
theorem bft {b : Bool} : (b = false ∨ b = true) ↔ True := by cases b <;> decide
theorem z01 : ((0 : Int32) = 0 ∨ (0 : Int32) = 1) ↔ True := by decide
theorem o01 : ((1 : Int32) = 0 ∨ (1 : Int32) = 1) ↔ True := by decide
def wi_ (a b c : Int32) : Bool := decide (b.toInt ≤ a.toInt) && decide (a.toInt ≤ c.toInt)
theorem wi_t {a b c : Int32} : wi_ a b c = true ↔ b.toInt ≤ a.toInt ∧ a.toInt ≤ c.toInt := by unfold wi_; rw [Bool.and_eq_true, decide_eq_true_iff, decide_eq_true_iff]
theorem wi_f {a b c : Int32} : wi_ a b c = false ↔ ¬ (b.toInt ≤ a.toInt ∧ a.toInt ≤ c.toInt) := by rw [← wi_t]; simp
section LEAF
variable {xs : Nat → Int32} {d : Nat} {h : AH} {Q : OU_ → AH → Prop}
theorem c_within {a b c : Int32} : V_ xs d 88 0 [vI a, vI b, vI c] [] h Q ↔ Q (some (some (vI (b2_ (wi_ a b c))))) h := by
  simp (disch := omega) only [s88_0, s88_1, s88_2, s88_5, s88_6, s88_7, s88_10, s88_11, s88_14, s88_15, K_v, K_0, acI, acA, acJ, acX, List.map_cons, List.map_nil, List.sum_cons, List.sum_nil, true_and, and_true, posT, b2_0, b2_1, bft, true_or, or_true, Nat.zero_le, Nat.reduceAdd, Nat.reduceLeDiff, Int32.lt_iff_toInt_lt]
  by_cases h1 : a.toInt < b.toInt
  · rw [if_pos h1, wi_f.mpr (by omega)]; rfl
  · rw [if_neg h1]
    by_cases h2 : c.toInt < a.toInt
    · rw [if_pos h2, wi_f.mpr (by omega)]; rfl
    · rw [if_neg h2, wi_t.mpr (by omega)]; rfl
theorem c_mwithin {a b c : Int32} : V_ xs d 107 0 [vI a, vI b, vI c] [] h Q ↔ Q (some (some (vI (b2_ (wi_ a b c))))) h := by
  simp (disch := omega) only [s107_0, s107_1, s107_2, s107_5, s107_6, s107_7, s107_10, s107_11, s107_14, s107_15, K_v, K_0, acI, acA, acJ, acX, List.map_cons, List.map_nil, List.sum_cons, List.sum_nil, true_and, and_true, posT, b2_0, b2_1, bft, true_or, or_true, Nat.zero_le, Nat.reduceAdd, Nat.reduceLeDiff, Int32.lt_iff_toInt_lt]
  by_cases h1 : a.toInt < b.toInt
  · rw [if_pos h1, wi_f.mpr (by omega)]; rfl
  · rw [if_neg h1]
    by_cases h2 : c.toInt < a.toInt
    · rw [if_pos h2, wi_f.mpr (by omega)]; rfl
    · rw [if_neg h2, wi_t.mpr (by omega)]; rfl
theorem c_isDay {a : Int32} (hd : 1 ≤ d) : V_ xs d 89 0 [vI a] [] h Q ↔ Q (some (some (vI (b2_ (wi_ a (-100000) 100000))))) h := by
  simp (disch := omega) only [s89_0, s89_1, s89_3, s89_5, s89_8, K_v, K_0, acI, acA, acJ, acX, List.map_cons, List.map_nil, List.sum_cons, List.sum_nil, true_and, and_true, posT, b2_0, b2_1, bft, true_or, or_true, Nat.zero_le, Nat.reduceAdd, Nat.reduceLeDiff, c_within, Nat.zero_le]
theorem c_isKind {a : Int32} (hd : 1 ≤ d) : V_ xs d 90 0 [vI a] [] h Q ↔ Q (some (some (vI (b2_ (wi_ a 0 11))))) h := by
  simp (disch := omega) only [s90_0, s90_1, s90_2, s90_4, s90_7, K_v, K_0, acI, acA, acJ, acX, List.map_cons, List.map_nil, List.sum_cons, List.sum_nil, true_and, and_true, posT, b2_0, b2_1, bft, true_or, or_true, Nat.zero_le, Nat.reduceAdd, Nat.reduceLeDiff, c_within, Nat.zero_le]
theorem c_isItem {a : Int32} {o : Option Nat} (hd : 1 ≤ d) : V_ xs d 25 0 [vA o, vI a] [] h Q ↔ Q (some (some (vI (b2_ (wi_ a 0 19))))) h := by
  simp (disch := omega) only [s25_0, s25_1, s25_2, s25_4, s25_7, K_v, K_0, acI, acA, acJ, acX, List.map_cons, List.map_nil, List.sum_cons, List.sum_nil, true_and, and_true, posT, b2_0, b2_1, bft, true_or, or_true, Nat.zero_le, Nat.reduceAdd, Nat.reduceLeDiff, c_within, Nat.zero_le]
theorem c_isHolder {a : Int32} {o : Option Nat} (hd : 1 ≤ d) : V_ xs d 26 0 [vA o, vI a] [] h Q ↔ Q (some (some (vI (b2_ (wi_ a (-2) 11))))) h := by
  simp (disch := omega) only [s26_0, s26_1, s26_3, s26_5, s26_8, K_v, K_0, acI, acA, acJ, acX, List.map_cons, List.map_nil, List.sum_cons, List.sum_nil, true_and, and_true, posT, b2_0, b2_1, bft, true_or, or_true, Nat.zero_le, Nat.reduceAdd, Nat.reduceLeDiff, c_within, Nat.zero_le]
theorem c_hasRole {a : Int32} {p : Nat} (hk : kd_ p = 4) (hd : 1 ≤ d) : V_ xs d 31 0 [vA (some p), vI a] [] h Q ↔ Q (some (some (vI (b2_ (wi_ a 0 (hI_ h p 4 - 1)))))) h := by
  simp (disch := omega) only [s31_0, s31_1, s31_2, s31_3, s31_6, s31_7, s31_8, s31_11, K_v, K_0, acI, acA, acJ, acX, List.map_cons, List.map_nil, List.sum_cons, List.sum_nil, true_and, and_true, posT, b2_0, b2_1, bft, true_or, or_true, Nat.zero_le, Nat.reduceAdd, Nat.reduceLeDiff, c_within, Nat.zero_le, hk]
theorem c_allRoles {p : Nat} (hk : kd_ p = 4) : V_ xs d 32 0 [vA (some p)] [] h Q ↔ Q (some (some (vI ((1 <<< (hI_ h p 4 &&& 31)) - 1)))) h := by
  simp (disch := omega) only [s32_0, s32_1, s32_2, s32_5, s32_6, s32_7, s32_8, K_v, K_0, acI, acA, acJ, acX, List.map_cons, List.map_nil, List.sum_cons, List.sum_nil, true_and, and_true, posT, b2_0, b2_1, bft, true_or, or_true, Nat.zero_le, Nat.reduceAdd, Nat.reduceLeDiff, hk]
theorem c_comparison {a b c : Int32} : V_ xs d 4 0 [vI a, vI b, vI c] [] h Q ↔ Q (some (some (vI (b ||| a <<< (3 &&& 31) ||| c <<< (6 &&& 31))))) h := by
  simp (disch := omega) only [s4_0, s4_1, s4_2, s4_3, s4_4, s4_5, s4_6, s4_8, s4_9, s4_10, K_v, K_0, acI, acA, acJ, acX, List.map_cons, List.map_nil, List.sum_cons, List.sum_nil, true_and, and_true, posT, b2_0, b2_1, bft, true_or, or_true, Nat.zero_le, Nat.reduceAdd, Nat.reduceLeDiff]
theorem c_kindOf {a : Int32} : V_ xs d 5 0 [vI a] [] h Q ↔ Q (some (some (vI (a &&& 7)))) h := by
  simp (disch := omega) only [s5_0, s5_1, s5_3, s5_4, K_v, K_0, acI, acA, acJ, acX, List.map_cons, List.map_nil, List.sum_cons, List.sum_nil, true_and, and_true, posT, b2_0, b2_1, bft, true_or, or_true, Nat.zero_le, Nat.reduceAdd, Nat.reduceLeDiff]
theorem c_whatOf {a : Int32} : V_ xs d 6 0 [vI a] [] h Q ↔ Q (some (some (vI (a >>> (3 &&& 31) &&& 7)))) h := by
  simp (disch := omega) only [s6_0, s6_1, s6_2, s6_3, s6_5, s6_6, K_v, K_0, acI, acA, acJ, acX, List.map_cons, List.map_nil, List.sum_cons, List.sum_nil, true_and, and_true, posT, b2_0, b2_1, bft, true_or, or_true, Nat.zero_le, Nat.reduceAdd, Nat.reduceLeDiff]
theorem c_numberOf {a : Int32} : V_ xs d 7 0 [vI a] [] h Q ↔ Q (some (some (vI (a >>> (6 &&& 31))))) h := by
  simp (disch := omega) only [s7_0, s7_1, s7_3, s7_4, K_v, K_0, acI, acA, acJ, acX, List.map_cons, List.map_nil, List.sum_cons, List.sum_nil, true_and, and_true, posT, b2_0, b2_1, bft, true_or, or_true, Nat.zero_le, Nat.reduceAdd, Nat.reduceLeDiff]
theorem c_placeOf {a : Int32} : V_ xs d 16 0 [vI a] [] h Q ↔ Q (some (some (vI (4 * (7 - a))))) h := by
  simp (disch := omega) only [s16_0, s16_1, s16_3, s16_4, s16_5, s16_6, K_v, K_0, acI, acA, acJ, acX, List.map_cons, List.map_nil, List.sum_cons, List.sum_nil, true_and, and_true, posT, b2_0, b2_1, bft, true_or, or_true, Nat.zero_le, Nat.reduceAdd, Nat.reduceLeDiff]
def us_ (x : Int64) (y : Int32) : Int64 := (x.toUInt64 >>> (y.toInt64.toUInt64 &&& Int64.toUInt64 63)).toInt64
theorem c_filledIn {a : Int64} : V_ xs d 13 0 [vJ a, vX 0] [] h Q ↔ Q (some (some (vI ((us_ a 32).toInt32 &&& 15)))) h := by
  simp (disch := omega) only [s13_0, s13_1, s13_3, s13_4, s13_5, s13_7, s13_8, K_v, K_0, acI, acA, acJ, acX, List.map_cons, List.map_nil, List.sum_cons, List.sum_nil, true_and, and_true, posT, b2_0, b2_1, bft, true_or, or_true, Nat.zero_le, Nat.reduceAdd, Nat.reduceLeDiff]
  rfl
theorem c_keptIn {a : Int64} : V_ xs d 14 0 [vJ a, vX 0] [] h Q ↔ Q (some (some (vI ((us_ a 36).toInt32 &&& 15)))) h := by
  simp (disch := omega) only [s14_0, s14_1, s14_3, s14_4, s14_5, s14_7, s14_8, K_v, K_0, acI, acA, acJ, acX, List.map_cons, List.map_nil, List.sum_cons, List.sum_nil, true_and, and_true, posT, b2_0, b2_1, bft, true_or, or_true, Nat.zero_le, Nat.reduceAdd, Nat.reduceLeDiff]
  rfl
/-- the actor of a role in a cast -/
def ain_ (c : Int64) (r : Int32) : Int32 := if (us_ c (4 * (7 - r))).toInt32 &&& 15 = 0 then -1 else 12 - ((us_ c (4 * (7 - r))).toInt32 &&& 15)
theorem c_actorIn {a : Int64} {r : Int32} (hd : 1 ≤ d) : V_ xs d 15 0 [vJ a, vX 0, vI r, vX 0] [] h Q ↔ Q (some (some (vI (ain_ a r)))) h := by
  simp (disch := omega) only [s15_0, s15_1, s15_2, s15_5, s15_6, s15_7, s15_9, s15_10, s15_11, s15_12, s15_15, s15_16, s15_19, s15_21, s15_22, s15_23, K_v, K_0, acI, acA, acJ, acX, List.map_cons, List.map_nil, List.sum_cons, List.sum_nil, true_and, and_true, posT, b2_0, b2_1, bft, true_or, or_true, Nat.zero_le, Nat.reduceAdd, Nat.reduceLeDiff, c_placeOf]
  unfold ain_ us_
  split <;> rfl
theorem c_max {x y : Int32} : V_ xs d 184 0 [vI x, vI y] [] h Q ↔ Q (some (some (vI (if x < y then y else x)))) h := by
  simp (disch := omega) only [s184_0, s184_1, s184_2, s184_5, s184_6, s184_9, s184_10, K_v, K_0, acI, acA, acJ, acX, List.map_cons, List.map_nil, List.sum_cons, List.sum_nil, true_and, and_true, posT, b2_0, b2_1, bft, true_or, or_true, Nat.zero_le, Nat.reduceAdd, Nat.reduceLeDiff]
  split <;> rfl
theorem c_min {x y : Int32} : V_ xs d 186 0 [vI x, vI y] [] h Q ↔ Q (some (some (vI (if y < x then y else x)))) h := by
  simp (disch := omega) only [s186_0, s186_1, s186_2, s186_5, s186_6, s186_9, s186_10, K_v, K_0, acI, acA, acJ, acX, List.map_cons, List.map_nil, List.sum_cons, List.sum_nil, true_and, and_true, posT, b2_0, b2_1, bft, true_or, or_true, Nat.zero_le, Nat.reduceAdd, Nat.reduceLeDiff]
  split <;> rfl
theorem c_abs {x : Int32} : V_ xs d 183 0 [vI x] [] h Q ↔ Q (some (some (vI (if x < 0 then -x else x)))) h := by
  simp (disch := omega) only [s183_0, s183_1, s183_4, s183_5, s183_6, s183_9, s183_10, K_v, K_0, acI, acA, acJ, acX, List.map_cons, List.map_nil, List.sum_cons, List.sum_nil, true_and, and_true, posT, b2_0, b2_1, bft, true_or, or_true, Nat.zero_le, Nat.reduceAdd, Nat.reduceLeDiff]
  split <;> rfl
theorem c_isBlank {x : Int32} : V_ xs d 40 0 [vI x] [] h Q ↔ Q (some (some (vI (b2_ (decide (x = 32 ∨ x = 10)))))) h := by
  simp (disch := omega) only [s40_0, s40_1, s40_3, s40_6, s40_7, s40_9, s40_12, s40_13, s40_16, s40_17, K_v, K_0, acI, acA, acJ, acX, List.map_cons, List.map_nil, List.sum_cons, List.sum_nil, true_and, and_true, posT, b2_0, b2_1, bft, true_or, or_true, Nat.zero_le, Nat.reduceAdd, Nat.reduceLeDiff]
  by_cases h1 : x = 32
  · rw [if_pos h1, decide_eq_true (Or.inl h1)]; rfl
  · rw [if_neg h1]
    by_cases h2 : x = 10
    · rw [if_pos h2, decide_eq_true (Or.inr h2)]; rfl
    · rw [if_neg h2, decide_eq_false (fun z => z.elim h1 h2)]; rfl
theorem c_isLetter {x : Int32} (hd : 1 ≤ d) : V_ xs d 41 0 [vI x] [] h Q ↔ Q (some (some (vI (b2_ (wi_ x 97 122))))) h := by
  simp (disch := omega) only [s41_0, s41_1, s41_3, s41_5, s41_8, K_v, K_0, acI, acA, acJ, acX, List.map_cons, List.map_nil, List.sum_cons, List.sum_nil, true_and, and_true, posT, b2_0, b2_1, bft, true_or, or_true, Nat.zero_le, Nat.reduceAdd, Nat.reduceLeDiff, c_within, Nat.zero_le]
theorem c_isDigit {x : Int32} (hd : 1 ≤ d) : V_ xs d 42 0 [vI x] [] h Q ↔ Q (some (some (vI (b2_ (wi_ x 48 57))))) h := by
  simp (disch := omega) only [s42_0, s42_1, s42_3, s42_5, s42_8, K_v, K_0, acI, acA, acJ, acX, List.map_cons, List.map_nil, List.sum_cons, List.sum_nil, true_and, and_true, posT, b2_0, b2_1, bft, true_or, or_true, Nat.zero_le, Nat.reduceAdd, Nat.reduceLeDiff, c_within, Nat.zero_le]
theorem c_misSmall {a : Int32} : V_ xs d 150 0 [vI a] [] h Q ↔ Q (some (some (vI (b2_ (wi_ a 97 122))))) h := by
  simp (disch := omega) only [s150_0, s150_1, s150_3, s150_6, s150_7, s150_9, s150_12, s150_13, s150_16, s150_17, K_v, K_0, acI, acA, acJ, acX, List.map_cons, List.map_nil, List.sum_cons, List.sum_nil, true_and, and_true, posT, b2_0, b2_1, bft, true_or, or_true, Nat.zero_le, Nat.reduceAdd, Nat.reduceLeDiff, Int32.lt_iff_toInt_lt]
  have e1 : (97 : Int32).toInt = 97 := rfl
  have e2 : (122 : Int32).toInt = 122 := rfl
  by_cases h1 : a.toInt < (97 : Int32).toInt
  · rw [if_pos h1, wi_f.mpr (by omega)]; rfl
  · rw [if_neg h1]
    by_cases h2 : (122 : Int32).toInt < a.toInt
    · rw [if_pos h2, wi_f.mpr (by omega)]; rfl
    · rw [if_neg h2, wi_t.mpr (by omega)]; rfl
theorem c_misDigit {a : Int32} : V_ xs d 151 0 [vI a] [] h Q ↔ Q (some (some (vI (b2_ (wi_ a 48 57))))) h := by
  simp (disch := omega) only [s151_0, s151_1, s151_3, s151_6, s151_7, s151_9, s151_12, s151_13, s151_16, s151_17, K_v, K_0, acI, acA, acJ, acX, List.map_cons, List.map_nil, List.sum_cons, List.sum_nil, true_and, and_true, posT, b2_0, b2_1, bft, true_or, or_true, Nat.zero_le, Nat.reduceAdd, Nat.reduceLeDiff, Int32.lt_iff_toInt_lt]
  have e1 : (48 : Int32).toInt = 48 := rfl
  have e2 : (57 : Int32).toInt = 57 := rfl
  by_cases h1 : a.toInt < (48 : Int32).toInt
  · rw [if_pos h1, wi_f.mpr (by omega)]; rfl
  · rw [if_neg h1]
    by_cases h2 : (57 : Int32).toInt < a.toInt
    · rw [if_pos h2, wi_f.mpr (by omega)]; rfl
    · rw [if_neg h2, wi_t.mpr (by omega)]; rfl
end LEAF
