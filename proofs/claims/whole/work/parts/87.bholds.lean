/-! the class works a term out -/
theorem a7_ {y : Int32} : ∃ n, n < 8 ∧ y &&& 7 = Int32.ofNat n := by
  refine ⟨y.toBitVec.toNat % 8, by omega, ?_⟩
  apply Int32.toBitVec_inj.mp
  apply BitVec.eq_of_toNat_eq
  show (y.toBitVec &&& 7).toNat = (BitVec.ofNat 32 (y.toBitVec.toNat % 8)).toNat
  rw [BitVec.toNat_and, BitVec.toNat_ofNat, show (7 : BitVec 32).toNat = 2 ^ 3 - 1 from rfl, Nat.and_two_pow_sub_one_eq_mod]
  have := y.toBitVec.isLt
  omega
theorem l_or {a b : Nat} : Int64.ofNat a ||| Int64.ofNat b = Int64.ofNat (a ||| b) := by
  apply Int64.toBitVec_inj.mp
  apply BitVec.eq_of_toNat_eq
  show ((BitVec.ofNat 64 a) ||| (BitVec.ofNat 64 b)).toNat = (BitVec.ofNat 64 (a ||| b)).toNat
  rw [BitVec.toNat_or, BitVec.toNat_ofNat, BitVec.toNat_ofNat, BitVec.toNat_ofNat, Nat.or_mod_two_pow]
theorem l_xo {a b : Nat} : Int64.ofNat a ^^^ Int64.ofNat b = Int64.ofNat (a ^^^ b) := by
  apply Int64.toBitVec_inj.mp
  apply BitVec.eq_of_toNat_eq
  show ((BitVec.ofNat 64 a) ^^^ (BitVec.ofNat 64 b)).toNat = (BitVec.ofNat 64 (a ^^^ b)).toNat
  rw [BitVec.toNat_xor, BitVec.toNat_ofNat, BitVec.toNat_ofNat, BitVec.toNat_ofNat, Nat.xor_mod_two_pow]
/-- the four steps on the stack -/
theorem sk_not {σ : Nat} : Int64.ofNat σ ^^^ 1 = Int64.ofNat (2 * (σ / 2) + (1 - σ % 2)) := by
  rw [show (1 : Int64) = Int64.ofNat 1 from rfl, l_xo]
  congr 1
  have h1 : (σ ^^^ 1) / 2 = σ / 2 := by rw [Nat.xor_div_two]; simp
  have h3 : (σ ^^^ 1).testBit 0 = (σ.testBit 0 ^^ true) := by rw [Nat.testBit_xor]; rfl
  rw [Nat.testBit_zero, Nat.testBit_zero] at h3
  by_cases q : σ % 2 = 1
  · rw [decide_eq_true q] at h3
    have := of_decide_eq_false h3
    omega
  · rw [decide_eq_false q] at h3
    have := of_decide_eq_true h3
    omega
theorem sk_us {σ : Nat} (h : σ < 4611686018427387904) : (((Int64.ofNat σ).toUInt64 >>> ((1 : Int32).toInt64.toUInt64 &&& Int64.toUInt64 63)).toInt64) = Int64.ofNat (σ / 2) := by
  have := l_us (a := σ) (k := 1) (by omega) (by omega)
  rw [Nat.pow_one] at this
  exact this
theorem sk_or {σ : Nat} : Int64.ofNat (σ / 2) ||| (Int64.ofNat σ &&& 1) = Int64.ofNat (2 * (σ / 4) + (if σ / 2 % 2 = 1 ∨ σ % 2 = 1 then 1 else 0)) := by
  rw [show (1 : Int64) = Int64.ofNat 1 from rfl, l_and, l_or]
  congr 1
  rw [Nat.and_one_is_mod]
  have h1 : (σ / 2 ||| σ % 2) / 2 = σ / 4 := by
    rw [Nat.or_div_two, show σ % 2 / 2 = 0 by omega, Nat.or_zero]
    omega
  have h2 : (σ / 2 ||| σ % 2) % 2 = if σ / 2 % 2 = 1 ∨ σ % 2 = 1 then 1 else 0 := by
    have := Nat.or_mod_two_eq_one (a := σ / 2) (b := σ % 2)
    by_cases q : σ / 2 % 2 = 1 ∨ σ % 2 = 1
    · rw [if_pos q]
      exact this.mpr (by omega)
    · rw [if_neg q]
      have : ¬ ((σ / 2 ||| σ % 2) % 2 = 1) := fun z => q (by have := this.mp z; omega)
      omega
  omega
theorem sk_and {σ : Nat} : Int64.ofNat (σ / 2) &&& (Int64.ofNat σ ||| (-2)) = Int64.ofNat (2 * (σ / 4) + (if σ / 2 % 2 = 1 ∧ σ % 2 = 1 then 1 else 0)) := by
  apply Int64.toBitVec_inj.mp
  apply BitVec.eq_of_getLsbD_eq
  intro i hi
  show ((BitVec.ofNat 64 (σ / 2)) &&& ((BitVec.ofNat 64 σ) ||| (-2))).getLsbD i = (BitVec.ofNat 64 (2 * (σ / 4) + (if σ / 2 % 2 = 1 ∧ σ % 2 = 1 then 1 else 0))).getLsbD i
  have e1 : ∀ i, i < 64 → (-2 : BitVec 64).getLsbD i = decide (1 ≤ i) := by decide +kernel
  rw [BitVec.getLsbD_and, BitVec.getLsbD_or, e1 i hi, BitVec.getLsbD_ofNat, BitVec.getLsbD_ofNat, BitVec.getLsbD_ofNat, decide_eq_true hi, Bool.true_and, Bool.true_and, Bool.true_and]
  cases i with
  | zero =>
    rw [decide_eq_false (by omega), Bool.or_false, Nat.testBit_zero, Nat.testBit_zero, Nat.testBit_zero]
    by_cases q : σ / 2 % 2 = 1 ∧ σ % 2 = 1
    · rw [if_pos q, decide_eq_true q.1, decide_eq_true q.2, decide_eq_true (by omega)]
      rfl
    · rw [if_neg q, decide_eq_false (show ¬ ((2 * (σ / 4) + 0) % 2 = 1) by omega)]
      by_cases q1 : σ / 2 % 2 = 1
      · rw [decide_eq_true q1, decide_eq_false (fun z => q ⟨q1, z⟩)]; rfl
      · rw [decide_eq_false q1]; rfl
  | succ i =>
    rw [decide_eq_true (by omega), Bool.or_true, Bool.and_true, Nat.testBit_succ, Nat.testBit_succ]
    congr 1
    split <;> omega
theorem sk_push {σ : Nat} {b : Bool} (h : σ < 4611686018427387904) : (Int64.ofNat σ <<< ((1 : Int32).toInt64 &&& 63)) ||| (if b = true then 1 else 0) = Int64.ofNat (2 * σ + b.toNat) := by
  have e : Int64.ofNat σ <<< ((1 : Int32).toInt64 &&& 63) = Int64.ofNat (2 * σ) := by
    apply Int64.toBitVec_inj.mp
    show (BitVec.ofNat 64 σ) <<< ((((1 : Int32).toInt64 &&& 63)).toBitVec.smod 64) = BitVec.ofNat 64 (2 * σ)
    rw [show (((1 : Int32).toInt64 &&& 63)).toBitVec.smod 64 = 1#64 from by decide +kernel, BitVec.shiftLeft_eq']
    apply BitVec.eq_of_toNat_eq
    rw [BitVec.toNat_shiftLeft, BitVec.toNat_ofNat, BitVec.toNat_ofNat, BitVec.toNat_ofNat, Nat.shiftLeft_eq, Nat.mod_eq_of_lt (show 1 < 2 ^ 64 by decide), Nat.pow_one]
    omega
  rw [e]
  cases b
  · show Int64.ofNat (2 * σ) ||| Int64.ofNat 0 = _
    rw [l_or, Nat.or_zero]
    rfl
  · show Int64.ofNat (2 * σ) ||| Int64.ofNat 1 = _
    rw [l_or]
    congr 1
    have := Nat.two_pow_add_eq_or_of_lt (i := 1) (b := 1) (by decide) σ
    rw [Nat.pow_one] at this
    exact this.symm
/-- the agreed terms, with their cells -/
def CX_ (cG cW cN cP cT : Nat) (L : List Trm_) (h : AH) : Prop := hR_ h 25165831 12 = some cG ∧ hR_ h cG 1 = some cW ∧ hR_ h cG 2 = some cN ∧ hR_ h cG 3 = some cP ∧ hR_ h cG 4 = some cT ∧ (kd_ cG = 1 ∧ kd_ cW = 22 ∧ ln_ cW = 10 ∧ kd_ cN = 16 ∧ ln_ cN = 10 ∧ kd_ cP = 16 ∧ ln_ cP = 10 ∧ kd_ cT = 16 ∧ ln_ cT = 800) ∧ AG_ cG cW cN cP cT L h
theorem CE_.cx {L : List Trm_} {h : AH} (hC : CS_ h) (H : CE_ L h) : ∃ cG cW cN cP cT, CX_ cG cW cN cP cT L h := by
  rcases H with ⟨a1, a2, a3⟩ | ⟨a1, a2, a3⟩
  · exact ⟨_, _, _, _, _, a1, hC.g1, hC.g2, hC.g3, hC.g4, by decide, a3⟩
  · exact ⟨_, _, _, _, _, a1, hC.k1, hC.k2, hC.k3, hC.k4, by decide, a3⟩
theorem sts_take {L : List Trm_} {t : Nat} (ht : t < L.length) : sts_ (L.take (t + 1)) = sts_ (L.take t) ++ (L.getD t dT_).2.2.1.1 := by
  have : L.take (t + 1) = L.take t ++ [L.getD t dT_] := by
    rw [List.getD_eq_getElem?_getD, List.getElem?_eq_getElem ht]
    exact (List.take_append_getElem ht).symm
  rw [this, sts_snoc]
theorem sts_le {L : List Trm_} {t : Nat} : (sts_ (L.take t)).length ≤ (sts_ L).length := by
  have : sts_ L = sts_ (L.take t) ++ sts_ (L.drop t) := by
    unfold sts_
    rw [← List.flatten_append, ← List.map_append, List.take_append_drop]
  rw [this, List.length_append]
  omega
theorem sts_get {L : List Trm_} {t j : Nat} (ht : t < L.length) (hj : j < (L.getD t dT_).2.2.1.1.length) : (sts_ L).getD ((sts_ (L.take t)).length + j) 0 = (L.getD t dT_).2.2.1.1.getD j 0 := by
  have e : sts_ L = sts_ (L.take (t + 1)) ++ sts_ (L.drop (t + 1)) := by
    unfold sts_
    rw [← List.flatten_append, ← List.map_append, List.take_append_drop]
  rw [e, sts_take ht]
  generalize (L.getD t dT_).2.2.1.1 = l0 at hj ⊢
  rw [List.getD_eq_getElem?_getD, List.getD_eq_getElem?_getD, List.append_assoc, List.getElem?_append_right (by omega), show (sts_ (L.take t)).length + j - (sts_ (L.take t)).length = j by omega, List.getElem?_append_left hj]
def env_ (F G : Nat → Nat → Int32) (hp : Option Nat) (Hd : Nat → Int32) (a : Nat) (day : Int32) (w : Nat) : Int := (mea_ F G hp Hd a day w).toInt
theorem mea_7 {F G : Nat → Nat → Int32} {hp : Option Nat} {Hd : Nat → Int32} {a : Nat} {day : Int32} : mea_ F G hp Hd a day 7 = 0 := by
  unfold mea_
  simp
section CHO
variable {xs : Nat → Int32} {d : Nat} {h : AH} {Q : OU_ → AH → Prop} {na : Nat} {sa : Nat → Nat} {F G : Nat → Nat → Int32} {hp : Option Nat} {Hd : Nat → Int32} {c a : Nat} {day : Int32} {L : List Trm_} {cG cW cN cP cT : Nat}
theorem c_compare {x : Int32} (hC : CS_ h) (hA : CA_ na sa F G h) (hCH : CH_ hp (Int64.ofNat c) h) (hO : HC_ hp Hd c) (hg : ∀ i, i < na → (F i 3 = 0 ∨ F i 3 = 1) ∧ (F i 4 = 0 ∨ F i 4 = 1)) (ha : a < na) (hd : 4 ≤ d) : V_ xs d 103 0 [vA (some 25165831), vI x, vI (Int32.ofNat a), vI day, vX 0] [] h Q ↔ Q (some (some (vI (b2_ (chd_ (env_ F G hp Hd a day) x))))) h := by
  obtain ⟨w, hw, ew⟩ := a7_ (y := x >>> ((3 : Int32) &&& 31))
  have hm : ∀ Q, V_ xs (d - 1) 104 0 [vA (some 25165831), vI (Int32.ofNat a), vI day, vI (Int32.ofNat w), vX 0] [] h Q ↔ Q (some (some (vI (mea_ F G hp Hd a day w)))) h := by
    intro Q
    by_cases q : w = 7
    · obtain ⟨g1, g2, g3, g4, g5, g6, g7⟩ := id hA
      have hat : aat_ na sa (Int32.ofNat a) = some (mk_ (sa a) 0 0) := by
        unfold aat_
        rw [w_ti (by omega), w_cl (by omega), if_pos (by omega)]
      have e7 : Int32.ofNat 7 = 7 := rfl
      rw [q, mea_7]
      simp (disch := first | omega | assumption | decide | (apply bT_; decide)) only [s104_0, s104_1, s104_2, s104_5, s104_7, s104_9, s104_12, s104_13, s104_14, s104_15_0, s104_15_1, s104_15_2, s104_15_3, s104_15_4, s104_15_5, s104_15_6, s104_15_d, s104_56, s104_58, s104_61, s104_62, s104_65, s104_66, s104_68, s104_71, s104_72, s104_75, s104_76, s104_78, s104_81, s104_82, s104_84, s104_87, s104_88, s104_90, s104_93, s104_96, s104_97, s104_100, s104_101, s104_102, s104_104, s104_107, s104_110, s104_111, s104_114, s104_115, s104_116, s104_117, s104_118, s104_121, s104_122, s104_123, K_v, K_0, acI, acA, acJ, acX, List.map_cons, List.map_nil, List.sum_cons, List.sum_nil, true_and, and_true, posT, b2_0, b2_1, bft, true_or, or_true, Nat.zero_le, Nat.reduceAdd, Nat.reduceLeDiff, hI_uI, hL_uI, hR_uI, nx_uI, sl_uI, hI_uL, hL_uL, hR_uL, nx_uL, sl_uL, hI_uR, hL_uR, hR_uR, nx_uR, sl_uR, st_eq, if_true, if_false, eq_self, Nat.reduceEqDiff, Nat.reduceMul, reduceIte, kdT, ixT, w_cl, w_ti, w_s1, w_a, w_m12, w_m8, w_m3, w_m4, c_actorAt hC hA, hat, e7, reduceCtorEq]
    · exact c_measure hC hA hCH hO hg ha (by omega) (by omega)
  have hwi : ∀ Q, V_ xs (d - 1) 6 0 [vI x] [] h Q ↔ Q (some (some (vI (Int32.ofNat w)))) h := by intro Q; rw [c_whatOf, ew]
  have hen : chd_ (env_ F G hp Hd a day) x = ((decide (mea_ F G hp Hd a day w < x >>> ((6 : Int32) &&& 31))) == decide (x &&& 7 = 3)) := by
    unfold chd_ env_
    rw [ew, w_cl (by omega)]
    congr 1
    exact (decide_eq_decide.mpr Int32.lt_iff_toInt_lt).symm
  rw [hen]
  have k10 : ¬ ((1 : Int32) = 0) := by decide
  have k01 : ¬ ((0 : Int32) = 1) := by decide
  by_cases q1 : mea_ F G hp Hd a day w < x >>> ((6 : Int32) &&& 31)
  · rw [decide_eq_true q1]
    by_cases q2 : x &&& 7 = 3
    · rw [decide_eq_true q2]
      simp (disch := first | omega | assumption | decide | (apply bT_; decide)) only [s103_0, s103_1, s103_2, s103_3, s103_4, s103_7, s103_10, s103_11, s103_14, s103_17, s103_18, s103_22, s103_24, s103_26, s103_27, s103_30, s103_31, s103_34, s103_35, s103_39, s103_42, s103_43, s103_47, K_v, K_0, acI, acA, acJ, acX, List.map_cons, List.map_nil, List.sum_cons, List.sum_nil, true_and, and_true, posT, b2_0, b2_1, bft, true_or, or_true, Nat.zero_le, Nat.reduceAdd, Nat.reduceLeDiff, hI_uI, hL_uI, hR_uI, nx_uI, sl_uI, hI_uL, hL_uL, hR_uL, nx_uL, sl_uL, hI_uR, hL_uR, hR_uR, nx_uR, sl_uR, st_eq, if_true, if_false, eq_self, Nat.reduceEqDiff, Nat.reduceMul, reduceIte, kdT, ixT, w_cl, w_ti, w_s1, w_a, w_m12, w_m8, w_m3, w_m4, hwi, hm, c_numberOf, c_kindOf, if_pos q1, if_pos q2]
      exact Iff.rfl
    · rw [decide_eq_false q2]
      simp (disch := first | omega | assumption | decide | (apply bT_; decide)) only [s103_0, s103_1, s103_2, s103_3, s103_4, s103_7, s103_10, s103_11, s103_14, s103_17, s103_18, s103_22, s103_24, s103_26, s103_27, s103_30, s103_31, s103_35, s103_38, s103_39, s103_43, s103_46, s103_47, K_v, K_0, acI, acA, acJ, acX, List.map_cons, List.map_nil, List.sum_cons, List.sum_nil, true_and, and_true, posT, b2_0, b2_1, bft, true_or, or_true, Nat.zero_le, Nat.reduceAdd, Nat.reduceLeDiff, hI_uI, hL_uI, hR_uI, nx_uI, sl_uI, hI_uL, hL_uL, hR_uL, nx_uL, sl_uL, hI_uR, hL_uR, hR_uR, nx_uR, sl_uR, st_eq, if_true, if_false, eq_self, Nat.reduceEqDiff, Nat.reduceMul, reduceIte, kdT, ixT, w_cl, w_ti, w_s1, w_a, w_m12, w_m8, w_m3, w_m4, hwi, hm, c_numberOf, c_kindOf, if_pos q1, if_neg q2, k10]
      exact Iff.rfl
  · rw [decide_eq_false q1]
    by_cases q2 : x &&& 7 = 3
    · rw [decide_eq_true q2]
      simp (disch := first | omega | assumption | decide | (apply bT_; decide)) only [s103_0, s103_1, s103_2, s103_3, s103_4, s103_7, s103_10, s103_11, s103_14, s103_18, s103_21, s103_22, s103_24, s103_26, s103_27, s103_30, s103_31, s103_34, s103_35, s103_39, s103_43, s103_46, s103_47, K_v, K_0, acI, acA, acJ, acX, List.map_cons, List.map_nil, List.sum_cons, List.sum_nil, true_and, and_true, posT, b2_0, b2_1, bft, true_or, or_true, Nat.zero_le, Nat.reduceAdd, Nat.reduceLeDiff, hI_uI, hL_uI, hR_uI, nx_uI, sl_uI, hI_uL, hL_uL, hR_uL, nx_uL, sl_uL, hI_uR, hL_uR, hR_uR, nx_uR, sl_uR, st_eq, if_true, if_false, eq_self, Nat.reduceEqDiff, Nat.reduceMul, reduceIte, kdT, ixT, w_cl, w_ti, w_s1, w_a, w_m12, w_m8, w_m3, w_m4, hwi, hm, c_numberOf, c_kindOf, if_neg q1, if_pos q2, k01]
      exact Iff.rfl
    · rw [decide_eq_false q2]
      simp (disch := first | omega | assumption | decide | (apply bT_; decide)) only [s103_0, s103_1, s103_2, s103_3, s103_4, s103_7, s103_10, s103_11, s103_14, s103_18, s103_21, s103_22, s103_24, s103_26, s103_27, s103_30, s103_31, s103_35, s103_38, s103_39, s103_42, s103_43, s103_47, K_v, K_0, acI, acA, acJ, acX, List.map_cons, List.map_nil, List.sum_cons, List.sum_nil, true_and, and_true, posT, b2_0, b2_1, bft, true_or, or_true, Nat.zero_le, Nat.reduceAdd, Nat.reduceLeDiff, hI_uI, hL_uI, hR_uI, nx_uI, sl_uI, hI_uL, hL_uL, hR_uL, nx_uL, sl_uL, hI_uR, hL_uR, hR_uR, nx_uR, sl_uR, st_eq, if_true, if_false, eq_self, Nat.reduceEqDiff, Nat.reduceMul, reduceIte, kdT, ixT, w_cl, w_ti, w_s1, w_a, w_m12, w_m8, w_m3, w_m4, hwi, hm, c_numberOf, c_kindOf, if_neg q1, if_neg q2]
      exact Iff.rfl
theorem c_startOf {t : Nat} (hX : CX_ cG cW cN cP cT L h) (ht : t < L.length) : V_ xs d 8 0 [vA (some cG), vI (Int32.ofNat t)] [] h Q ↔ Q (some (some (vI (Int32.ofNat (sts_ (L.take t)).length)))) h := by
  obtain ⟨x12, x1, x2, x3, x4, ⟨u1, u2, u3, u4, u5, u6, u7, u8, u9⟩, b1, b2, b3, b4⟩ := hX
  by_cases q : t = 0
  · subst q
    have n0 : ¬ ((0 : Int32) < Int32.ofNat 0) := by decide
    simp (disch := first | omega | assumption | decide | (apply bT_; decide)) only [s8_0, s8_1, s8_5, s8_8, s8_9, s8_10, s8_11, s8_12, s8_15, s8_16, K_v, K_0, acI, acA, acJ, acX, List.map_cons, List.map_nil, List.sum_cons, List.sum_nil, true_and, and_true, posT, b2_0, b2_1, bft, true_or, or_true, Nat.zero_le, Nat.reduceAdd, Nat.reduceLeDiff, hI_uI, hL_uI, hR_uI, nx_uI, sl_uI, hI_uL, hL_uL, hR_uL, nx_uL, sl_uL, hI_uR, hL_uR, hR_uR, nx_uR, sl_uR, st_eq, if_true, if_false, eq_self, Nat.reduceEqDiff, Nat.reduceMul, reduceIte, kdT, ixT, w_cl, w_ti, w_s1, w_a, w_m12, w_m8, w_m3, w_m4, n0]
    exact Iff.rfl
  · have n0 : (0 : Int32) < Int32.ofNat t := (w_lt (a := 0) (by omega) (by omega)).mpr (by omega)
    have hp1 := w_p1 (a := t) (by omega)
    have e := (b3 (t - 1) (by omega)).2.2
    rw [show t - 1 + 1 = t by omega] at e
    simp (disch := first | omega | assumption | decide | (apply bT_; decide)) only [s8_0, s8_1, s8_4, s8_5, s8_8, s8_9, s8_10, s8_11, s8_12, s8_16, K_v, K_0, acI, acA, acJ, acX, List.map_cons, List.map_nil, List.sum_cons, List.sum_nil, true_and, and_true, posT, b2_0, b2_1, bft, true_or, or_true, Nat.zero_le, Nat.reduceAdd, Nat.reduceLeDiff, hI_uI, hL_uI, hR_uI, nx_uI, sl_uI, hI_uL, hL_uL, hR_uL, nx_uL, sl_uL, hI_uR, hL_uR, hR_uR, nx_uR, sl_uR, st_eq, if_true, if_false, eq_self, Nat.reduceEqDiff, Nat.reduceMul, reduceIte, kdT, ixT, w_cl, w_ti, w_s1, w_a, w_m12, w_m8, w_m3, w_m4, n0, hp1, x3, e, u1, u6, u7]
theorem c_holds {t : Nat} (hC : CS_ h) (hA : CA_ na sa F G h) (hCH : CH_ hp (Int64.ofNat c) h) (hO : HC_ hp Hd c) (hg : ∀ i, i < na → (F i 3 = 0 ∨ F i 3 = 1) ∧ (F i 4 = 0 ∨ F i 4 = 1)) (hX : CX_ cG cW cN cP cT L h) (ht : t < L.length) (hLV : LV_ 19 (L.getD t dT_).2.2.1) (hl8 : (sts_ L).length ≤ 800) (ha : a < na) (hd : 5 ≤ d) : V_ xs d 102 0 [vA (some 25165831), vI (Int32.ofNat t), vI (Int32.ofNat a), vI day, vX 0, vX 0, vX 0, vX 0] [] h Q ↔ Q (some (some (vI (b2_ ((L.getD t dT_).2.2.1.2 (env_ F G hp Hd a day)))))) h := by
  have hst := fun Q => c_startOf (xs := xs) (d := d - 1) (Q := Q) hX ht
  obtain ⟨x12, x1, x2, x3, x4, ⟨u1, u2, u3, u4, u5, u6, u7, u8, u9⟩, b1, b2, b3, b4⟩ := id hX
  have estop := (b3 t ht).2.2
  have htake := sts_take ht
  have hlen : (sts_ (L.take (t + 1))).length = (sts_ (L.take t)).length + (L.getD t dT_).2.2.1.1.length := by rw [htake, List.length_append]
  have hle := sts_le (L := L) (t := t + 1)
  have key : ∀ (l : List Int32) (i σ : Nat) (v7 : AV), i + l.length = (sts_ (L.take (t + 1))).length → (∀ j, j < l.length → hI_ h cT (i + j) = l.getD j 0) → bnd_ (env_ F G hp Hd a day) 4611686018427387904 l σ → (V_ xs d 102 13 [vA (some 25165831), vI (Int32.ofNat t), vI (Int32.ofNat a), vI day, vJ (Int64.ofNat σ), vX 0, vI (Int32.ofNat i), v7] [] h Q ↔ Q (some (some (vI (b2_ (decide (l.foldl (rst_ (env_ F G hp Hd a day)) σ % 2 = 1)))))) h) := by
    intro l
    induction l with
    | nil =>
      intro i σ v7 hi _ hb
      have e : i = (sts_ (L.take (t + 1))).length := by rw [← hi]; rfl
      have nl : ¬ ((sts_ (L.take (t + 1))).length < (sts_ (L.take (t + 1))).length) := by omega
      have hb' : σ < 4611686018427387904 := hb
      have ea : Int64.ofNat σ &&& 1 = Int64.ofNat (σ % 2) := by rw [show (1 : Int64) = Int64.ofNat 1 from rfl, l_and, Nat.and_one_is_mod]
      have hc0 : lg_cmp (Int64.ofNat (σ % 2)) 1 = 0 ↔ σ % 2 = 1 := by rw [lgd_0]; exact l_eq (b := 1) (by omega) (by omega)
      show _ ↔ Q (some (some (vI (b2_ (decide (σ % 2 = 1)))))) h
      rw [e, s102_13]
      by_cases q : σ % 2 = 1
      · have c0 := hc0.mpr q
        rw [decide_eq_true q]
        simp (disch := first | omega | assumption | decide | (apply bT_; decide)) only [s102_0, s102_1, s102_3, s102_4, s102_7, s102_8, s102_11, s102_15, s102_16, s102_19, s102_22, s102_23, s102_24, s102_28, s102_31, s102_34, s102_36, s102_37, s102_39, s102_41, s102_44_0, s102_44_1, s102_44_2, s102_44_d, s102_72, s102_74, s102_75, s102_76, s102_78, s102_81, s102_83, s102_84, s102_85, s102_87, s102_90, s102_91, s102_92, s102_94, s102_97, s102_99, s102_100, s102_101, s102_103, s102_104, s102_105, s102_106, s102_108, s102_111, s102_113, s102_114, s102_115, s102_116, s102_118, s102_119, s102_120, s102_123, s102_126, s102_127, s102_130, s102_131, s102_132, s102_134, s102_137, s102_140, s102_142, s102_143, s102_144, s102_145, s102_146, s102_149, s102_150, s102_154, K_v, K_0, acI, acA, acJ, acX, List.map_cons, List.map_nil, List.sum_cons, List.sum_nil, true_and, and_true, posT, b2_0, b2_1, bft, true_or, or_true, Nat.zero_le, Nat.reduceAdd, Nat.reduceLeDiff, hI_uI, hL_uI, hR_uI, nx_uI, sl_uI, hI_uL, hL_uL, hR_uL, nx_uL, sl_uL, hI_uR, hL_uR, hR_uR, nx_uR, sl_uR, st_eq, if_true, if_false, eq_self, Nat.reduceEqDiff, Nat.reduceMul, reduceIte, kdT, ixT, w_cl, w_ti, w_s1, w_a, w_m12, w_m8, w_m3, w_m4, x12, x3, estop, nl, w_lt, ea, c0, u1, u6, u7, kd_X, ln_X]
        exact Iff.rfl
      · have c0 : ¬ _ := fun z => q (hc0.mp z)
        rw [decide_eq_false q]
        simp (disch := first | omega | assumption | decide | (apply bT_; decide)) only [s102_0, s102_1, s102_3, s102_4, s102_7, s102_8, s102_11, s102_15, s102_16, s102_19, s102_22, s102_23, s102_24, s102_28, s102_31, s102_34, s102_36, s102_37, s102_39, s102_41, s102_44_0, s102_44_1, s102_44_2, s102_44_d, s102_72, s102_74, s102_75, s102_76, s102_78, s102_81, s102_83, s102_84, s102_85, s102_87, s102_90, s102_91, s102_92, s102_94, s102_97, s102_99, s102_100, s102_101, s102_103, s102_104, s102_105, s102_106, s102_108, s102_111, s102_113, s102_114, s102_115, s102_116, s102_118, s102_119, s102_120, s102_123, s102_126, s102_127, s102_130, s102_131, s102_132, s102_134, s102_137, s102_140, s102_142, s102_143, s102_144, s102_145, s102_146, s102_150, s102_153, s102_154, K_v, K_0, acI, acA, acJ, acX, List.map_cons, List.map_nil, List.sum_cons, List.sum_nil, true_and, and_true, posT, b2_0, b2_1, bft, true_or, or_true, Nat.zero_le, Nat.reduceAdd, Nat.reduceLeDiff, hI_uI, hL_uI, hR_uI, nx_uI, sl_uI, hI_uL, hL_uL, hR_uL, nx_uL, sl_uL, hI_uR, hL_uR, hR_uR, nx_uR, sl_uR, st_eq, if_true, if_false, eq_self, Nat.reduceEqDiff, Nat.reduceMul, reduceIte, kdT, ixT, w_cl, w_ti, w_s1, w_a, w_m12, w_m8, w_m3, w_m4, x12, x3, estop, nl, w_lt, ea, c0, u1, u6, u7, kd_X, ln_X]
        exact Iff.rfl
    | cons x l ih =>
      intro i σ v7 hi hT hb
      obtain ⟨hb1, hb2⟩ := hb
      have hll : (x :: l).length = l.length + 1 := rfl
      rw [hll] at hi hT
      have hlt : i < (sts_ (L.take (t + 1))).length := by omega
      have ex := hT 0 (by omega)
      rw [Nat.add_zero, List.getD_cons_zero] at ex
      have hnext := ih (i + 1) (rst_ (env_ F G hp Hd a day) σ x) (vI x) (by omega) (fun j hj => by
        have := hT (j + 1) (by omega)
        rw [List.getD_cons_succ] at this
        rw [show i + 1 + j = i + (j + 1) by omega]; exact this) hb2
      show _ ↔ Q (some (some (vI (b2_ (decide (l.foldl (rst_ (env_ F G hp Hd a day)) (rst_ (env_ F G hp Hd a day) σ x) % 2 = 1)))))) h
      rw [← hnext, s102_13]
      have k10 : ¬ ((1 : Int32) = 0) := by decide
      obtain ⟨n, hn, en⟩ := a7_ (y := x)
      have hko : ∀ Q, V_ xs (d - 1) 5 0 [vI x] [] h Q ↔ Q (some (some (vI (Int32.ofNat n)))) h := by intro Q; rw [c_kindOf, en]
      have eqn : ∀ k, k < 8 → (Int32.ofNat n = Int32.ofNat k ↔ n = k) := fun k hk => w_eq (by omega) (by omega)
      have erst : rst_ (env_ F G hp Hd a day) σ x = if n = 0 then 2 * (σ / 2) + (1 - σ % 2) else if n = 1 then 2 * (σ / 4) + (if σ / 2 % 2 = 1 ∧ σ % 2 = 1 then 1 else 0) else if n = 2 then 2 * (σ / 4) + (if σ / 2 % 2 = 1 ∨ σ % 2 = 1 then 1 else 0) else 2 * σ + (chd_ (env_ F G hp Hd a day) x).toNat := by
        unfold rst_
        rw [en]
        by_cases q0 : n = 0
        · rw [if_pos q0, if_pos (by rw [q0]; rfl)]
        · rw [if_neg q0, if_neg (fun (z : Int32.ofNat n = 0) => q0 ((eqn 0 (by omega)).mp z))]
          by_cases q1 : n = 1
          · rw [if_pos q1, if_pos (by rw [q1]; rfl)]
          · rw [if_neg q1, if_neg (fun (z : Int32.ofNat n = 1) => q1 ((eqn 1 (by omega)).mp z))]
            by_cases q2 : n = 2
            · rw [if_pos q2, if_pos (by rw [q2]; rfl)]
            · rw [if_neg q2, if_neg (fun (z : Int32.ofNat n = 2) => q2 ((eqn 2 (by omega)).mp z))]
      rw [erst]
      by_cases q0 : n = 0
      · subst q0
        have e0 : Int32.ofNat 0 = 0 := rfl
        rw [e0] at hko
        rw [if_pos rfl, ← sk_not]
        simp (disch := first | omega | assumption | decide | (apply bT_; decide)) only [s102_0, s102_1, s102_3, s102_4, s102_7, s102_8, s102_11, s102_15, s102_16, s102_19, s102_22, s102_23, s102_24, s102_27, s102_28, s102_31, s102_34, s102_36, s102_37, s102_39, s102_41, s102_44_0, s102_44_1, s102_44_2, s102_44_d, s102_72, s102_74, s102_75, s102_76, s102_78, s102_83, s102_84, s102_85, s102_87, s102_90, s102_91, s102_92, s102_94, s102_99, s102_100, s102_101, s102_103, s102_104, s102_105, s102_106, s102_108, s102_113, s102_114, s102_115, s102_116, s102_118, s102_119, s102_120, s102_123, s102_126, s102_127, s102_130, s102_131, s102_132, s102_134, s102_137, s102_142, s102_143, s102_144, s102_145, s102_146, s102_149, s102_150, s102_153, s102_154, K_v, K_0, acI, acA, acJ, acX, List.map_cons, List.map_nil, List.sum_cons, List.sum_nil, true_and, and_true, posT, b2_0, b2_1, bft, true_or, or_true, Nat.zero_le, Nat.reduceAdd, Nat.reduceLeDiff, hI_uI, hL_uI, hR_uI, nx_uI, sl_uI, hI_uL, hL_uL, hR_uL, nx_uL, sl_uL, hI_uR, hL_uR, hR_uR, nx_uR, sl_uR, st_eq, if_true, if_false, eq_self, Nat.reduceEqDiff, Nat.reduceMul, reduceIte, kdT, ixT, w_cl, w_ti, w_s1, w_a, w_m12, w_m8, w_m3, w_m4, x12, x3, x4, estop, hlt, w_lt, ex, hko, u1, u6, u7, u8, u9, kd_X, ln_X]
      · rw [if_neg q0]
        by_cases q1 : n = 1
        · subst q1
          have e0 : Int32.ofNat 1 = 1 := rfl
          rw [e0] at hko
          have eus := sk_us hb1
          rw [if_pos rfl, ← sk_and]
          simp (disch := first | omega | assumption | decide | (apply bT_; decide)) only [s102_0, s102_1, s102_3, s102_4, s102_7, s102_8, s102_11, s102_15, s102_16, s102_19, s102_22, s102_23, s102_24, s102_27, s102_28, s102_31, s102_34, s102_36, s102_37, s102_39, s102_41, s102_44_0, s102_44_1, s102_44_2, s102_44_d, s102_74, s102_75, s102_76, s102_78, s102_81, s102_83, s102_84, s102_85, s102_87, s102_90, s102_91, s102_92, s102_94, s102_99, s102_100, s102_101, s102_103, s102_104, s102_105, s102_106, s102_108, s102_113, s102_114, s102_115, s102_116, s102_118, s102_119, s102_120, s102_123, s102_126, s102_127, s102_130, s102_131, s102_132, s102_134, s102_137, s102_142, s102_143, s102_144, s102_145, s102_146, s102_149, s102_150, s102_153, s102_154, K_v, K_0, acI, acA, acJ, acX, List.map_cons, List.map_nil, List.sum_cons, List.sum_nil, true_and, and_true, posT, b2_0, b2_1, bft, true_or, or_true, Nat.zero_le, Nat.reduceAdd, Nat.reduceLeDiff, hI_uI, hL_uI, hR_uI, nx_uI, sl_uI, hI_uL, hL_uL, hR_uL, nx_uL, sl_uL, hI_uR, hL_uR, hR_uR, nx_uR, sl_uR, st_eq, if_true, if_false, eq_self, Nat.reduceEqDiff, Nat.reduceMul, reduceIte, kdT, ixT, w_cl, w_ti, w_s1, w_a, w_m12, w_m8, w_m3, w_m4, x12, x3, x4, estop, hlt, w_lt, ex, hko, eus, u1, u6, u7, u8, u9, kd_X, ln_X]
        · rw [if_neg q1]
          by_cases q2 : n = 2
          · subst q2
            have e0 : Int32.ofNat 2 = 2 := rfl
            rw [e0] at hko
            have eus := sk_us hb1
            rw [if_pos rfl, ← sk_or]
            simp (disch := first | omega | assumption | decide | (apply bT_; decide)) only [s102_0, s102_1, s102_3, s102_4, s102_7, s102_8, s102_11, s102_15, s102_16, s102_19, s102_22, s102_23, s102_24, s102_27, s102_28, s102_31, s102_34, s102_36, s102_37, s102_39, s102_41, s102_44_0, s102_44_1, s102_44_2, s102_44_d, s102_74, s102_75, s102_76, s102_78, s102_83, s102_84, s102_85, s102_87, s102_90, s102_91, s102_92, s102_94, s102_97, s102_99, s102_100, s102_101, s102_103, s102_104, s102_105, s102_106, s102_108, s102_113, s102_114, s102_115, s102_116, s102_118, s102_119, s102_120, s102_123, s102_126, s102_127, s102_130, s102_131, s102_132, s102_134, s102_137, s102_142, s102_143, s102_144, s102_145, s102_146, s102_149, s102_150, s102_153, s102_154, K_v, K_0, acI, acA, acJ, acX, List.map_cons, List.map_nil, List.sum_cons, List.sum_nil, true_and, and_true, posT, b2_0, b2_1, bft, true_or, or_true, Nat.zero_le, Nat.reduceAdd, Nat.reduceLeDiff, hI_uI, hL_uI, hR_uI, nx_uI, sl_uI, hI_uL, hL_uL, hR_uL, nx_uL, sl_uL, hI_uR, hL_uR, hR_uR, nx_uR, sl_uR, st_eq, if_true, if_false, eq_self, Nat.reduceEqDiff, Nat.reduceMul, reduceIte, kdT, ixT, w_cl, w_ti, w_s1, w_a, w_m12, w_m8, w_m3, w_m4, x12, x3, x4, estop, hlt, w_lt, ex, hko, eus, u1, u6, u7, u8, u9, kd_X, ln_X]
          · rw [if_neg q2, ← sk_push hb1]
            have hcm := fun Q => c_compare (xs := xs) (d := d - 1) (Q := Q) (x := x) (day := day) hC hA hCH hO hg ha (by omega)
            have hout : (Int32.ofNat n).toInt < 0 ∨ 2 < (Int32.ofNat n).toInt := by rw [w_ti (by omega)]; omega
            have sw := fun (ls st : List AV) => s102_44_d (xs := xs) (d := d) (ls := ls) (st := st) (h := h) (Q := Q) hout
            cases hch : chd_ (env_ F G hp Hd a day) x
            · rw [hch] at hcm
              have hcm' : ∀ Q : OU_ → AH → Prop, V_ xs (d - 1) 103 0 [vA (some 25165831), vI x, vI (Int32.ofNat a), vI day, vX 0] [] h Q ↔ Q (some (some (vI 0))) h := hcm
              rw [if_neg (show ¬ (false = true) by decide)]
              simp (disch := first | omega | assumption | decide | (apply bT_; decide)) only [s102_0, s102_1, s102_3, s102_4, s102_7, s102_8, s102_11, s102_15, s102_16, s102_19, s102_22, s102_23, s102_24, s102_27, s102_28, s102_31, s102_34, s102_36, s102_37, s102_39, s102_41, s102_44_0, s102_44_1, s102_44_2, s102_44_d, s102_74, s102_75, s102_76, s102_78, s102_83, s102_84, s102_85, s102_87, s102_90, s102_91, s102_92, s102_94, s102_99, s102_100, s102_101, s102_103, s102_104, s102_105, s102_106, s102_108, s102_111, s102_113, s102_114, s102_115, s102_116, s102_118, s102_119, s102_120, s102_123, s102_127, s102_130, s102_131, s102_132, s102_134, s102_137, s102_142, s102_143, s102_144, s102_145, s102_146, s102_149, s102_150, s102_153, s102_154, K_v, K_0, acI, acA, acJ, acX, List.map_cons, List.map_nil, List.sum_cons, List.sum_nil, true_and, and_true, posT, b2_0, b2_1, bft, true_or, or_true, Nat.zero_le, Nat.reduceAdd, Nat.reduceLeDiff, hI_uI, hL_uI, hR_uI, nx_uI, sl_uI, hI_uL, hL_uL, hR_uL, nx_uL, sl_uL, hI_uR, hL_uR, hR_uR, nx_uR, sl_uR, st_eq, if_true, if_false, eq_self, Nat.reduceEqDiff, Nat.reduceMul, reduceIte, kdT, ixT, w_cl, w_ti, w_s1, w_a, w_m12, w_m8, w_m3, w_m4, x12, x3, x4, estop, hlt, w_lt, ex, hko, sw, hcm', u1, u6, u7, u8, u9, kd_X, ln_X]
            · rw [hch] at hcm
              have hcm' : ∀ Q : OU_ → AH → Prop, V_ xs (d - 1) 103 0 [vA (some 25165831), vI x, vI (Int32.ofNat a), vI day, vX 0] [] h Q ↔ Q (some (some (vI 1))) h := hcm
              rw [if_pos rfl]
              simp (disch := first | omega | assumption | decide | (apply bT_; decide)) only [s102_0, s102_1, s102_3, s102_4, s102_7, s102_8, s102_11, s102_15, s102_16, s102_19, s102_22, s102_23, s102_24, s102_27, s102_28, s102_31, s102_34, s102_36, s102_37, s102_39, s102_41, s102_44_0, s102_44_1, s102_44_2, s102_44_d, s102_74, s102_75, s102_76, s102_78, s102_83, s102_84, s102_85, s102_87, s102_90, s102_91, s102_92, s102_94, s102_99, s102_100, s102_101, s102_103, s102_104, s102_105, s102_106, s102_108, s102_111, s102_113, s102_114, s102_115, s102_116, s102_118, s102_119, s102_120, s102_123, s102_126, s102_127, s102_131, s102_132, s102_134, s102_137, s102_142, s102_143, s102_144, s102_145, s102_146, s102_149, s102_150, s102_153, s102_154, K_v, K_0, acI, acA, acJ, acX, List.map_cons, List.map_nil, List.sum_cons, List.sum_nil, true_and, and_true, posT, b2_0, b2_1, bft, true_or, or_true, Nat.zero_le, Nat.reduceAdd, Nat.reduceLeDiff, hI_uI, hL_uI, hR_uI, nx_uI, sl_uI, hI_uL, hL_uL, hR_uL, nx_uL, sl_uL, hI_uR, hL_uR, hR_uR, nx_uR, sl_uR, st_eq, if_true, if_false, eq_self, Nat.reduceEqDiff, Nat.reduceMul, reduceIte, kdT, ixT, w_cl, w_ti, w_s1, w_a, w_m12, w_m8, w_m3, w_m4, x12, x3, x4, estop, hlt, w_lt, ex, hko, sw, hcm', k10, u1, u6, u7, u8, u9, kd_X, ln_X]
  obtain ⟨hb, hf⟩ := hLV (env_ F G hp Hd a day) 0 4611686018427387904 (by decide)
  have hk := key (L.getD t dT_).2.2.1.1 (sts_ (L.take t)).length 0 (vX 0) (by omega) (fun j hj => by
    rw [b4 _ (by omega)]
    exact sts_get ht hj) hb
  rw [hf] at hk
  have hfin : decide ((2 * 0 + ((L.getD t dT_).2.2.1.2 (env_ F G hp Hd a day)).toNat) % 2 = 1) = (L.getD t dT_).2.2.1.2 (env_ F G hp Hd a day) := by
    cases (L.getD t dT_).2.2.1.2 (env_ F G hp Hd a day) <;> rfl
  rw [hfin] at hk
  simp (disch := first | omega | assumption | decide | (apply bT_; decide)) only [s102_0, s102_1, s102_3, s102_4, s102_7, s102_8, s102_11, s102_15, s102_16, s102_19, s102_22, s102_23, s102_24, s102_27, s102_28, s102_31, s102_34, s102_36, s102_37, s102_39, s102_41, s102_44_0, s102_44_1, s102_44_2, s102_44_d, s102_72, s102_74, s102_75, s102_76, s102_78, s102_81, s102_83, s102_84, s102_85, s102_87, s102_90, s102_91, s102_92, s102_94, s102_97, s102_99, s102_100, s102_101, s102_103, s102_104, s102_105, s102_106, s102_108, s102_111, s102_113, s102_114, s102_115, s102_116, s102_118, s102_119, s102_120, s102_123, s102_126, s102_127, s102_130, s102_131, s102_132, s102_134, s102_137, s102_140, s102_142, s102_143, s102_144, s102_145, s102_146, s102_149, s102_150, s102_153, s102_154, K_v, K_0, acI, acA, acJ, acX, List.map_cons, List.map_nil, List.sum_cons, List.sum_nil, true_and, and_true, posT, b2_0, b2_1, bft, true_or, or_true, Nat.zero_le, Nat.reduceAdd, Nat.reduceLeDiff, hI_uI, hL_uI, hR_uI, nx_uI, sl_uI, hI_uL, hL_uL, hR_uL, nx_uL, sl_uL, hI_uR, hL_uR, hR_uR, nx_uR, sl_uR, st_eq, if_true, if_false, eq_self, Nat.reduceEqDiff, Nat.reduceMul, reduceIte, kdT, ixT, w_cl, w_ti, w_s1, w_a, w_m12, w_m8, w_m3, w_m4, x12, hst, u1, kd_X, ln_X]
  exact hk
end CHO
