/-! shifts; the class: doubles, can -/
theorem w_sm : ∀ m, m < 32 → ((Int32.ofNat m &&& 31).toBitVec.smod 32) = BitVec.ofNat 32 m := by decide +kernel
theorem w_shr {M m : Nat} (hM : M < 2147483648) (hm : m < 32) : Int32.ofNat M >>> (Int32.ofNat m &&& 31) = Int32.ofNat (M / 2 ^ m) := by
  apply Int32.toBitVec_inj.mp
  show BitVec.sshiftRight' (BitVec.ofNat 32 M) ((Int32.ofNat m &&& 31).toBitVec.smod 32) = BitVec.ofNat 32 (M / 2 ^ m)
  have hd : M / 2 ^ m ≤ M := Nat.div_le_self _ _
  rw [w_sm m hm, BitVec.sshiftRight'_ofNat_eq_sshiftRight, Nat.mod_eq_of_lt (show m < 2 ^ 32 by omega), BitVec.sshiftRight_eq_of_msb_false]
  · apply BitVec.eq_of_toNat_eq
    rw [BitVec.toNat_ushiftRight, BitVec.toNat_ofNat, BitVec.toNat_ofNat, Nat.shiftRight_eq_div_pow, Nat.mod_eq_of_lt (show M < 2 ^ 32 by omega), Nat.mod_eq_of_lt (show M / 2 ^ m < 2 ^ 32 by omega)]
  · rw [BitVec.msb_eq_false_iff_two_mul_lt, BitVec.toNat_ofNat, Nat.mod_eq_of_lt (show M < 2 ^ 32 by omega)]
    omega
theorem w_bit {M m : Nat} (hM : M < 2147483648) (hm : m < 32) : (Int32.ofNat M >>> (Int32.ofNat m &&& 31)) &&& 1 = b2_ (M.testBit m) := by
  rw [w_shr hM hm, show (1 : Int32) = Int32.ofNat 1 from rfl, w_and, Nat.and_one_is_mod, Nat.testBit_eq_decide_div_mod_eq]
  rcases Nat.mod_two_eq_zero_or_one (M / 2 ^ m) with q | q
  · rw [q]; rfl
  · rw [q]; rfl
section CPE
variable {xs : Nat → Int32} {d : Nat} {h : AH} {P : PS} {sp : Nat → Nat} {na : Nat} {sa : Nat → Nat} {F G : Nat → Nat → Int32} {Q : OU_ → AH → Prop}
theorem c_addPair {i : Nat} {a b : Int32} (hP : CP_ P sp h) (hi : i < qn_ P) (hd : 2 ≤ d) : ∃ h', FX_ (PW_ sp i) [] h h' ∧ nx_ h' = nx_ h ∧ sl_ h' = sl_ h ∧
    (if (0 ≤ a.toInt ∧ a.toInt < qr_ P i) ∧ (0 ≤ b.toInt ∧ b.toInt < qr_ P i) ∧ ¬ a = b ∧ qb_ P i < 3 ∧ an_ (fun j => decide (qt_ P i j = bts_ a b)) (qb_ P i) 0 = false then Do_ xs d 35 [vA (some (mk_ (sp i) 4 0)), vI a, vI b, vX 0, vX 0] h (some (some (vI 1))) h' ∧ CP_ (addD_ P i (bts_ a b)) sp h'
     else Do_ xs d 35 [vA (some (mk_ (sp i) 4 0)), vI a, vI b, vX 0, vX 0] h (some (some (vI 0))) h' ∧ CP_ P sp h') := by
  obtain ⟨g1, ⟨v1, v2, v3, v4⟩, g3, g4, g5, g6, g7, g8, g9⟩ := id hP
  obtain ⟨u1, u2, u3, u4, u5, u6⟩ := g3 i hi
  obtain ⟨t1, t2, t3⟩ := g6 i hi
  have h3 := v4 i
  have hk0 : kd_ (mk_ (sp i) 4 0) = 4 := kd_mk (by omega)
  have hk1 : kd_ (mk_ (sp i + 3) 16 3) = 16 := kd_mk (by omega)
  have hl1 : ln_ (mk_ (sp i + 3) 16 3) = 3 := ln_mk (by omega) (by omega)
  have fin : (∀ Q, V_ xs d 35 0 [vA (some (mk_ (sp i) 4 0)), vI a, vI b, vX 0, vX 0] [] h Q ↔ Q (some (some (vI 0))) h) → ∃ h', FX_ (PW_ sp i) [] h h' ∧ nx_ h' = nx_ h ∧ sl_ h' = sl_ h ∧ (Do_ xs d 35 [vA (some (mk_ (sp i) 4 0)), vI a, vI b, vX 0, vX 0] h (some (some (vI 0))) h' ∧ CP_ P sp h') :=
    fun hq => ⟨h, FX_.rf, rfl, rfl, hq, hP⟩
  by_cases c1 : 0 ≤ a.toInt ∧ a.toInt < qr_ P i
  · have d1 : decide (0 ≤ a.toInt ∧ a.toInt < (qr_ P i : Int)) = true := decide_eq_true c1
    by_cases c2 : 0 ≤ b.toInt ∧ b.toInt < qr_ P i
    · have d2 : decide (0 ≤ b.toInt ∧ b.toInt < (qr_ P i : Int)) = true := decide_eq_true c2
      by_cases c3 : a = b
      · simp only [c3, not_true_eq_false, false_and, and_false, if_false]
        subst c3
        refine fin (fun Q => ?_)
        simp (disch := first | omega | assumption | decide | (apply bT_; decide)) only [s35_0, s35_1, s35_2, s35_5, s35_8, s35_9, s35_10, s35_13, s35_16, s35_17, s35_18, s35_22, s35_25, s35_26, s35_29, s35_30, s35_31, s35_32, s35_33, s35_34, s35_35, s35_36, s35_37, s35_38, s35_39, s35_40, s35_42, s35_44, s35_45, s35_48, s35_51, s35_52, s35_55, s35_57, s35_58, s35_59, s35_62, s35_63, s35_64, s35_67, s35_70, s35_71, s35_74, s35_75, s35_78, s35_79, s35_80, s35_81, s35_81i, s35_82, s35_85, s35_86, s35_87, s35_90, s35_91, K_v, K_0, acI, acA, acJ, acX, List.map_cons, List.map_nil, List.sum_cons, List.sum_nil, true_and, and_true, posT, b2_0, b2_1, bft, true_or, or_true, Nat.zero_le, Nat.reduceAdd, Nat.reduceLeDiff, hI_uI, hL_uI, hR_uI, nx_uI, sl_uI, hI_uL, hL_uL, hR_uL, nx_uL, sl_uL, hI_uR, hL_uR, hR_uR, nx_uR, sl_uR, st_eq, if_true, if_false, eq_self, Nat.reduceEqDiff, Nat.reduceMul, reduceIte, kdT, ixT, w_cl, w_ti, w_s1, w_a, w_m12, w_m8, w_m3, w_m4, c_hasR hP hi, d1, hk0, Bool.true_eq_false]
      · by_cases c4 : qb_ P i < 3
        · have hlt : Int32.ofNat (qb_ P i) < 3 := (w3 (by omega)).mpr c4
          have L := fun Q => loopE_ (P := fun k => V_ xs d 35 42 [vA (some (mk_ (sp i) 4 0)), vI a, vI b, vI (bts_ a b), vI (Int32.ofNat k)] [] h Q) (R := Q (some (some (vI 0))) h) (c := fun j => decide (qt_ P i j = bts_ a b)) (n := qb_ P i) (fun k hk => by
            have e1 := g8 i k hi hk
            rw [s35_42]
            simp (disch := first | omega | assumption | decide | (apply bT_; decide)) only [s35_0, s35_1, s35_2, s35_5, s35_8, s35_9, s35_10, s35_13, s35_16, s35_17, s35_18, s35_21, s35_22, s35_25, s35_26, s35_29, s35_30, s35_31, s35_32, s35_33, s35_34, s35_35, s35_36, s35_37, s35_38, s35_39, s35_40, s35_44, s35_45, s35_48, s35_51, s35_52, s35_55, s35_57, s35_58, s35_59, s35_62, s35_63, s35_64, s35_67, s35_70, s35_71, s35_74, s35_75, s35_78, s35_79, s35_80, s35_81, s35_81i, s35_82, s35_85, s35_86, s35_87, s35_90, s35_91, K_v, K_0, acI, acA, acJ, acX, List.map_cons, List.map_nil, List.sum_cons, List.sum_nil, true_and, and_true, posT, b2_0, b2_1, bft, true_or, or_true, Nat.zero_le, Nat.reduceAdd, Nat.reduceLeDiff, hI_uI, hL_uI, hR_uI, nx_uI, sl_uI, hI_uL, hL_uL, hR_uL, nx_uL, sl_uL, hI_uR, hL_uR, hR_uR, nx_uR, sl_uR, st_eq, if_true, if_false, eq_self, Nat.reduceEqDiff, Nat.reduceMul, reduceIte, kdT, ixT, w_cl, w_ti, w_s1, w_a, w_m12, w_m8, w_m3, w_m4, t3, u6, e1, hk0, hl1, w_lt, decide_eq_true_iff]
            rw [if_pos hk]) (qb_ P i) 0 (by omega)
          by_cases c5 : an_ (fun j => decide (qt_ P i j = bts_ a b)) (qb_ P i) 0 = true
          · simp only [c5, Bool.true_eq_false, and_false, if_false]
            refine fin (fun Q => ?_)
            simp (disch := first | omega | assumption | decide | (apply bT_; decide)) only [s35_0, s35_1, s35_2, s35_5, s35_8, s35_9, s35_10, s35_13, s35_16, s35_17, s35_18, s35_21, s35_22, s35_25, s35_26, s35_29, s35_30, s35_31, s35_32, s35_33, s35_34, s35_35, s35_36, s35_37, s35_38, s35_39, s35_40, s35_44, s35_45, s35_48, s35_51, s35_52, s35_55, s35_57, s35_58, s35_59, s35_62, s35_63, s35_64, s35_67, s35_70, s35_71, s35_74, s35_75, s35_78, s35_79, s35_80, s35_81, s35_81i, s35_82, s35_85, s35_86, s35_87, s35_90, s35_91, K_v, K_0, acI, acA, acJ, acX, List.map_cons, List.map_nil, List.sum_cons, List.sum_nil, true_and, and_true, posT, b2_0, b2_1, bft, true_or, or_true, Nat.zero_le, Nat.reduceAdd, Nat.reduceLeDiff, hI_uI, hL_uI, hR_uI, nx_uI, sl_uI, hI_uL, hL_uL, hR_uL, nx_uL, sl_uL, hI_uR, hL_uR, hR_uR, nx_uR, sl_uR, st_eq, if_true, if_false, eq_self, Nat.reduceEqDiff, Nat.reduceMul, reduceIte, kdT, ixT, w_cl, w_ti, w_s1, w_a, w_m12, w_m8, w_m3, w_m4, c_hasR hP hi, d1, d2, if_neg c3, t3, if_pos hlt, hk0, Bool.true_eq_false]
            refine (show V_ xs d 35 42 [vA (some (mk_ (sp i) 4 0)), vI a, vI b, vI (bts_ a b), vI (Int32.ofNat 0)] [] _ Q ↔ _ from L Q).trans ?_
            rw [if_pos c5]
          · have c5' : an_ (fun j => decide (qt_ P i j = bts_ a b)) (qb_ P i) 0 = false := by simpa using c5
            simp only [if_pos (show (0 ≤ a.toInt ∧ a.toInt < (qr_ P i : Int)) ∧ (0 ≤ b.toInt ∧ b.toInt < (qr_ P i : Int)) ∧ ¬ a = b ∧ qb_ P i < 3 ∧ an_ (fun j => decide (qt_ P i j = bts_ a b)) (qb_ P i) 0 = false from ⟨c1, c2, c3, c4, c5'⟩)]
            have n1 : ¬ (mk_ (sp i) 4 0 = mk_ (sp i + 3) 16 3) := fun e => by have := mk_ser (by omega) (by omega) (by omega) (by omega) e; omega
            have n1' : ¬ (mk_ (sp i + 3) 16 3 = mk_ (sp i) 4 0) := fun e => n1 e.symm
            have n2 : ¬ (mk_ (sp i + 1) 16 8 = mk_ (sp i + 3) 16 3) := fun e => by have := mk_ser (by omega) (by omega) (by omega) (by omega) e; omega
            have n3 : ¬ (mk_ (sp i + 2) 16 8 = mk_ (sp i + 3) 16 3) := fun e => by have := mk_ser (by omega) (by omega) (by omega) (by omega) e; omega
            have m2 : ¬ (mk_ (sp i + 1) 16 8 = mk_ (sp i) 4 0) := fun e => by have := mk_ser (by omega) (by omega) (by omega) (by omega) e; omega
            have m3 : ¬ (mk_ (sp i + 2) 16 8 = mk_ (sp i) 4 0) := fun e => by have := mk_ser (by omega) (by omega) (by omega) (by omega) e; omega
            have hX : ∀ a k n, k < 64 → n < 4096 → mk_ (sp i + a) k n ≠ 25165831 := fun a k n q1 q2 e => ne_new (show sr_ 25165831 < sp i + a by show 96 < _; omega) q1 q2 e.symm
            have fr : FX_ (PW_ sp i) [] h (uI_ (uI_ h (mk_ (sp i + 3) 16 3) (st_ (hI_ h (mk_ (sp i + 3) 16 3)) (qb_ P i) (bts_ a b))) (mk_ (sp i) 4 0) (st_ (hI_ h (mk_ (sp i) 4 0)) 8 (Int32.ofNat (qb_ P i + 1)))) :=
              (FX_.rf.uI (Or.inl (by unfold PW_; simp)) (hX 3 16 3 (by omega) (by omega))).uI (Or.inl (by unfold PW_; simp)) (hX 0 4 0 (by omega) (by omega))
            have eu : qb_ (addD_ P i (bts_ a b)) i = qb_ P i + 1 := by show up1_ _ _ _ _ = _; unfold up1_; rw [if_pos rfl]
            refine ⟨_, fr, rfl, rfl, fun Q => ?_, ?_⟩
            · simp (disch := first | omega | assumption | decide | (apply bT_; decide)) only [s35_0, s35_1, s35_2, s35_5, s35_8, s35_9, s35_10, s35_13, s35_16, s35_17, s35_18, s35_21, s35_22, s35_25, s35_26, s35_29, s35_30, s35_31, s35_32, s35_33, s35_34, s35_35, s35_36, s35_37, s35_38, s35_39, s35_40, s35_44, s35_45, s35_48, s35_51, s35_52, s35_55, s35_57, s35_58, s35_59, s35_62, s35_63, s35_64, s35_67, s35_70, s35_71, s35_74, s35_75, s35_78, s35_79, s35_80, s35_81, s35_81i, s35_82, s35_85, s35_86, s35_87, s35_90, s35_91, K_v, K_0, acI, acA, acJ, acX, List.map_cons, List.map_nil, List.sum_cons, List.sum_nil, true_and, and_true, posT, b2_0, b2_1, bft, true_or, or_true, Nat.zero_le, Nat.reduceAdd, Nat.reduceLeDiff, hI_uI, hL_uI, hR_uI, nx_uI, sl_uI, hI_uL, hL_uL, hR_uL, nx_uL, sl_uL, hI_uR, hL_uR, hR_uR, nx_uR, sl_uR, st_eq, if_true, if_false, eq_self, Nat.reduceEqDiff, Nat.reduceMul, reduceIte, kdT, ixT, w_cl, w_ti, w_s1, w_a, w_m12, w_m8, w_m3, w_m4, c_hasR hP hi, d1, d2, if_neg c3, t3, if_pos hlt, hk0, Bool.true_eq_false]
              refine (show V_ xs d 35 42 [vA (some (mk_ (sp i) 4 0)), vI a, vI b, vI (bts_ a b), vI (Int32.ofNat 0)] [] _ Q ↔ _ from L Q).trans ?_
              rw [if_neg c5, s35_42]
              simp (disch := first | omega | assumption | decide | (apply bT_; decide)) only [s35_0, s35_1, s35_2, s35_5, s35_8, s35_9, s35_10, s35_13, s35_16, s35_17, s35_18, s35_21, s35_22, s35_25, s35_26, s35_29, s35_30, s35_31, s35_32, s35_33, s35_34, s35_35, s35_36, s35_37, s35_38, s35_39, s35_40, s35_44, s35_45, s35_48, s35_51, s35_52, s35_55, s35_57, s35_58, s35_59, s35_62, s35_63, s35_64, s35_67, s35_70, s35_71, s35_74, s35_75, s35_78, s35_79, s35_80, s35_81, s35_81i, s35_82, s35_85, s35_86, s35_87, s35_90, s35_91, K_v, K_0, acI, acA, acJ, acX, List.map_cons, List.map_nil, List.sum_cons, List.sum_nil, true_and, and_true, posT, b2_0, b2_1, bft, true_or, or_true, Nat.zero_le, Nat.reduceAdd, Nat.reduceLeDiff, hI_uI, hL_uI, hR_uI, nx_uI, sl_uI, hI_uL, hL_uL, hR_uL, nx_uL, sl_uL, hI_uR, hL_uR, hR_uR, nx_uR, sl_uR, st_eq, if_true, if_false, eq_self, Nat.reduceEqDiff, Nat.reduceMul, reduceIte, kdT, ixT, w_cl, w_ti, w_s1, w_a, w_m12, w_m8, w_m3, w_m4, t3, u6, hk0, hl1, n1, n1', w_lt]
              rw [if_neg (by omega)]
            · refine hP.upd hi fr (fun _ => rfl) ⟨v1, fun q hq => ?_, v3, fun q => ?_⟩ rfl rfl (fun q hq => ⟨rfl, rfl, rfl, rfl, ?_, ?_⟩) (fun j hj => by simp only [hI_uI, hL_uI, hR_uI, nx_uI, sl_uI, hI_uL, hL_uL, hR_uL, nx_uL, sl_uL, hI_uR, hL_uR, hR_uR, nx_uR, sl_uR, st_eq, if_true, if_false, eq_self, Nat.reduceEqDiff, Nat.reduceMul, reduceIte, kdT, ixT, w_cl, w_ti, w_s1, w_a, w_m12, w_m8, w_m3, w_m4, if_neg (show ¬ j = 8 by omega)]) (by simp only [hI_uI, hL_uI, hR_uI, nx_uI, sl_uI, hI_uL, hL_uL, hR_uL, nx_uL, sl_uL, hI_uR, hL_uR, hR_uR, nx_uR, sl_uR, st_eq, if_true, if_false, eq_self, Nat.reduceEqDiff, Nat.reduceMul, reduceIte, kdT, ixT, w_cl, w_ti, w_s1, w_a, w_m12, w_m8, w_m3, w_m4]; exact t1) (by simp only [hI_uI, hL_uI, hR_uI, nx_uI, sl_uI, hI_uL, hL_uL, hR_uL, nx_uL, sl_uL, hI_uR, hL_uR, hR_uR, nx_uR, sl_uR, st_eq, if_true, if_false, eq_self, Nat.reduceEqDiff, Nat.reduceMul, reduceIte, kdT, ixT, w_cl, w_ti, w_s1, w_a, w_m12, w_m8, w_m3, w_m4]; exact t2) (by rw [eu]; simp only [hI_uI, hL_uI, hR_uI, nx_uI, sl_uI, hI_uL, hL_uL, hR_uL, nx_uL, sl_uL, hI_uR, hL_uR, hR_uR, nx_uR, sl_uR, st_eq, if_true, if_false, eq_self, Nat.reduceEqDiff, Nat.reduceMul, reduceIte, kdT, ixT, w_cl, w_ti, w_s1, w_a, w_m12, w_m8, w_m3, w_m4]) (fun q hq => by simp only [hI_uI, hL_uI, hR_uI, nx_uI, sl_uI, hI_uL, hL_uL, hR_uL, nx_uL, sl_uL, hI_uR, hL_uR, hR_uR, nx_uR, sl_uR, st_eq, if_true, if_false, eq_self, Nat.reduceEqDiff, Nat.reduceMul, reduceIte, kdT, ixT, w_cl, w_ti, w_s1, w_a, w_m12, w_m8, w_m3, w_m4, n2, n3, m2, m3]; exact g7 i q hi hq) (fun j hj => ?_)
              · have hq' : qn_ P ≤ q := hq
                show _ ∧ up1_ (qb_ P) i (qb_ P i + 1) q = 0
                unfold up1_
                rw [if_neg (by omega)]
                exact v2 q hq'
              · show up1_ (qb_ P) i (qb_ P i + 1) q ≤ 3
                unfold up1_
                split
                · omega
                · exact v4 q
              · show up1_ _ _ _ _ = _; unfold up1_; rw [if_neg hq]
              · show up2_ _ _ _ _ _ = _; funext r; unfold up2_; rw [if_neg (fun z => hq z.1)]
              · rw [eu] at hj
                show _ = up2_ (qt_ P) i (qb_ P i) (bts_ a b) i j
                unfold up2_
                simp only [hI_uI, hL_uI, hR_uI, nx_uI, sl_uI, hI_uL, hL_uL, hR_uL, nx_uL, sl_uL, hI_uR, hL_uR, hR_uR, nx_uR, sl_uR, st_eq, if_true, if_false, eq_self, Nat.reduceEqDiff, Nat.reduceMul, reduceIte, kdT, ixT, w_cl, w_ti, w_s1, w_a, w_m12, w_m8, w_m3, w_m4, n1', true_and]
                by_cases q2 : j = qb_ P i
                · simp only [if_pos q2]
                · simp only [if_neg q2]; exact g8 i j hi (by omega)
        · have hlt : ¬ (Int32.ofNat (qb_ P i) < 3) := by rw [w3 (by omega)]; exact c4
          simp only [c4, false_and, and_false, if_false]
          refine fin (fun Q => ?_)
          simp (disch := first | omega | assumption | decide | (apply bT_; decide)) only [s35_0, s35_1, s35_2, s35_5, s35_8, s35_9, s35_10, s35_13, s35_16, s35_17, s35_18, s35_21, s35_22, s35_25, s35_26, s35_29, s35_30, s35_32, s35_33, s35_34, s35_35, s35_36, s35_37, s35_38, s35_39, s35_40, s35_42, s35_44, s35_45, s35_48, s35_51, s35_52, s35_55, s35_57, s35_58, s35_59, s35_62, s35_63, s35_64, s35_67, s35_70, s35_71, s35_74, s35_75, s35_78, s35_79, s35_80, s35_81, s35_81i, s35_82, s35_85, s35_86, s35_87, s35_90, s35_91, K_v, K_0, acI, acA, acJ, acX, List.map_cons, List.map_nil, List.sum_cons, List.sum_nil, true_and, and_true, posT, b2_0, b2_1, bft, true_or, or_true, Nat.zero_le, Nat.reduceAdd, Nat.reduceLeDiff, hI_uI, hL_uI, hR_uI, nx_uI, sl_uI, hI_uL, hL_uL, hR_uL, nx_uL, sl_uL, hI_uR, hL_uR, hR_uR, nx_uR, sl_uR, st_eq, if_true, if_false, eq_self, Nat.reduceEqDiff, Nat.reduceMul, reduceIte, kdT, ixT, w_cl, w_ti, w_s1, w_a, w_m12, w_m8, w_m3, w_m4, c_hasR hP hi, d1, d2, if_neg c3, t3, if_neg hlt, hk0, Bool.true_eq_false]
    · have d2 : decide (0 ≤ b.toInt ∧ b.toInt < (qr_ P i : Int)) = false := decide_eq_false c2
      simp only [c2, false_and, and_false, if_false]
      refine fin (fun Q => ?_)
      simp (disch := first | omega | assumption | decide | (apply bT_; decide)) only [s35_0, s35_1, s35_2, s35_5, s35_8, s35_9, s35_10, s35_13, s35_17, s35_18, s35_21, s35_22, s35_25, s35_26, s35_29, s35_30, s35_31, s35_32, s35_33, s35_34, s35_35, s35_36, s35_37, s35_38, s35_39, s35_40, s35_42, s35_44, s35_45, s35_48, s35_51, s35_52, s35_55, s35_57, s35_58, s35_59, s35_62, s35_63, s35_64, s35_67, s35_70, s35_71, s35_74, s35_75, s35_78, s35_79, s35_80, s35_81, s35_81i, s35_82, s35_85, s35_86, s35_87, s35_90, s35_91, K_v, K_0, acI, acA, acJ, acX, List.map_cons, List.map_nil, List.sum_cons, List.sum_nil, true_and, and_true, posT, b2_0, b2_1, bft, true_or, or_true, Nat.zero_le, Nat.reduceAdd, Nat.reduceLeDiff, hI_uI, hL_uI, hR_uI, nx_uI, sl_uI, hI_uL, hL_uL, hR_uL, nx_uL, sl_uL, hI_uR, hL_uR, hR_uR, nx_uR, sl_uR, st_eq, if_true, if_false, eq_self, Nat.reduceEqDiff, Nat.reduceMul, reduceIte, kdT, ixT, w_cl, w_ti, w_s1, w_a, w_m12, w_m8, w_m3, w_m4, c_hasR hP hi, d1, d2, hk0, Bool.true_eq_false]
  · have d1 : decide (0 ≤ a.toInt ∧ a.toInt < (qr_ P i : Int)) = false := decide_eq_false c1
    simp only [c1, false_and, if_false]
    refine fin (fun Q => ?_)
    simp (disch := first | omega | assumption | decide | (apply bT_; decide)) only [s35_0, s35_1, s35_2, s35_5, s35_9, s35_10, s35_13, s35_16, s35_17, s35_18, s35_21, s35_22, s35_25, s35_26, s35_29, s35_30, s35_31, s35_32, s35_33, s35_34, s35_35, s35_36, s35_37, s35_38, s35_39, s35_40, s35_42, s35_44, s35_45, s35_48, s35_51, s35_52, s35_55, s35_57, s35_58, s35_59, s35_62, s35_63, s35_64, s35_67, s35_70, s35_71, s35_74, s35_75, s35_78, s35_79, s35_80, s35_81, s35_81i, s35_82, s35_85, s35_86, s35_87, s35_90, s35_91, K_v, K_0, acI, acA, acJ, acX, List.map_cons, List.map_nil, List.sum_cons, List.sum_nil, true_and, and_true, posT, b2_0, b2_1, bft, true_or, or_true, Nat.zero_le, Nat.reduceAdd, Nat.reduceLeDiff, hI_uI, hL_uI, hR_uI, nx_uI, sl_uI, hI_uL, hL_uL, hR_uL, nx_uL, sl_uL, hI_uR, hL_uR, hR_uR, nx_uR, sl_uR, st_eq, if_true, if_false, eq_self, Nat.reduceEqDiff, Nat.reduceMul, reduceIte, kdT, ixT, w_cl, w_ti, w_s1, w_a, w_m12, w_m8, w_m3, w_m4, c_hasR hP hi, d1, hk0]
theorem x_doubles {p a b : Int32} (hC : CS_ h) (hP : CP_ P sp h) (hd : 4 ≤ d) : ∃ h', (h' = h ∨ ∃ i, i < qn_ P ∧ FX_ (PW_ sp i) [] h h') ∧ nx_ h' = nx_ h ∧ sl_ h' = sl_ h ∧
    (if okD_ P p a b = true then Do_ xs d 69 [vA (some 25165831), vI p, vI a, vI b, vX 0] h (some (some (vI 1))) h' ∧ CP_ (addD_ P p.toNatClampNeg (bts_ a b)) sp h'
     else Do_ xs d 69 [vA (some 25165831), vI p, vI a, vI b, vX 0] h (some (some (vI 0))) h' ∧ CP_ P sp h') := by
  by_cases c1 : 0 ≤ p.toInt ∧ p.toInt < qn_ P
  · obtain ⟨n, rfl, hn1, hn2⟩ := w_of c1.1
    have hn : n < qn_ P := by omega
    have hat : pat_ P sp (Int32.ofNat n) = some (mk_ (sp n) 4 0) := by unfold pat_; rw [if_pos c1, w_cl hn2]
    have hk0 : kd_ (mk_ (sp n) 4 0) = 4 := kd_mk (by omega)
    have hok : okD_ P (Int32.ofNat n) a b = true ↔ (0 ≤ a.toInt ∧ a.toInt < qr_ P n) ∧ (0 ≤ b.toInt ∧ b.toInt < qr_ P n) ∧ ¬ a = b ∧ qb_ P n < 3 ∧ an_ (fun j => decide (qt_ P n j = bts_ a b)) (qb_ P n) 0 = false := by
      unfold okD_
      rw [isR_d c1, isR_d c1, w_cl hn2]
      simp only [Bool.and_eq_true, Bool.not_eq_true', decide_eq_true_iff, decide_eq_false_iff_not]
    rw [w_cl hn2]
    obtain ⟨h', f1, f2, f3, f4⟩ := c_addPair (xs := xs) (d := d - 1) (a := a) (b := b) hP hn (by omega)
    by_cases c2 : okD_ P (Int32.ofNat n) a b = true
    · rw [if_pos (hok.mp c2)] at f4
      simp only [if_pos c2]
      refine ⟨h', Or.inr ⟨n, hn, f1⟩, f2, f3, fun Q => ?_, f4.2⟩
      simp (disch := first | omega | assumption | decide | (apply bT_; decide)) only [s69_0, s69_1, s69_2, s69_5, s69_7, s69_9, s69_12, s69_14, s69_15, s69_16, s69_19, s69_22, s69_23, s69_26, s69_27, K_v, K_0, acI, acA, acJ, acX, List.map_cons, List.map_nil, List.sum_cons, List.sum_nil, true_and, and_true, posT, b2_0, b2_1, bft, true_or, or_true, Nat.zero_le, Nat.reduceAdd, Nat.reduceLeDiff, hI_uI, hL_uI, hR_uI, nx_uI, sl_uI, hI_uL, hL_uL, hR_uL, nx_uL, sl_uL, hI_uR, hL_uR, hR_uR, nx_uR, sl_uR, st_eq, if_true, if_false, eq_self, Nat.reduceEqDiff, Nat.reduceMul, reduceIte, kdT, ixT, w_cl, w_ti, w_s1, w_a, w_m12, w_m8, w_m3, w_m4, c_playAt hC hP, hat, hk0, f4.1, reduceCtorEq, show ¬ ((1 : Int32) = 0) by decide]
    · rw [if_neg (fun z => c2 (hok.mpr z))] at f4
      simp only [if_neg c2]
      refine ⟨h', Or.inr ⟨n, hn, f1⟩, f2, f3, fun Q => ?_, f4.2⟩
      simp (disch := first | omega | assumption | decide | (apply bT_; decide)) only [s69_0, s69_1, s69_2, s69_5, s69_7, s69_9, s69_12, s69_14, s69_15, s69_16, s69_19, s69_22, s69_23, s69_26, s69_27, K_v, K_0, acI, acA, acJ, acX, List.map_cons, List.map_nil, List.sum_cons, List.sum_nil, true_and, and_true, posT, b2_0, b2_1, bft, true_or, or_true, Nat.zero_le, Nat.reduceAdd, Nat.reduceLeDiff, hI_uI, hL_uI, hR_uI, nx_uI, sl_uI, hI_uL, hL_uL, hR_uL, nx_uL, sl_uL, hI_uR, hL_uR, hR_uR, nx_uR, sl_uR, st_eq, if_true, if_false, eq_self, Nat.reduceEqDiff, Nat.reduceMul, reduceIte, kdT, ixT, w_cl, w_ti, w_s1, w_a, w_m12, w_m8, w_m3, w_m4, c_playAt hC hP, hat, hk0, f4.1, reduceCtorEq]
  · have hat : pat_ P sp p = none := by unfold pat_; rw [if_neg c1]
    have hc : okD_ P p a b = false := by unfold okD_; rw [isR_n c1]; rfl
    simp only [hc, Bool.false_eq_true, if_false]
    refine ⟨h, Or.inl rfl, rfl, rfl, fun Q => ?_, hP⟩
    simp (disch := first | omega | assumption | decide | (apply bT_; decide)) only [s69_0, s69_1, s69_2, s69_5, s69_7, s69_9, s69_14, s69_15, s69_16, s69_19, s69_22, s69_23, s69_26, s69_27, K_v, K_0, acI, acA, acJ, acX, List.map_cons, List.map_nil, List.sum_cons, List.sum_nil, true_and, and_true, posT, b2_0, b2_1, bft, true_or, or_true, Nat.zero_le, Nat.reduceAdd, Nat.reduceLeDiff, hI_uI, hL_uI, hR_uI, nx_uI, sl_uI, hI_uL, hL_uL, hR_uL, nx_uL, sl_uL, hI_uR, hL_uR, hR_uR, nx_uR, sl_uR, st_eq, if_true, if_false, eq_self, Nat.reduceEqDiff, Nat.reduceMul, reduceIte, kdT, ixT, w_cl, w_ti, w_s1, w_a, w_m12, w_m8, w_m3, w_m4, c_playAt hC hP, hat]
theorem msk_f {f : Nat → Bool} : ∀ {n : Nat}, (∀ i, i < n → f i = false) → msk_ f n = 0 := by
  intro n
  induction n with
  | zero => intro _; rfl
  | succ n ih =>
    intro h
    show msk_ f n + _ = 0
    rw [ih (fun i hi => h i (by omega)), h n (by omega)]
    rfl
theorem c_rolesFor {a p : Nat} (hA : CA_ na sa F G h) (hP : CP_ P sp h) (ha : a < na) (hp : p < qn_ P) (hd : 2 ≤ d) : V_ xs d 36 0 [vA (some (mk_ (sp p) 4 0)), vA (some (mk_ (sa a) 0 0)), vX 0, vX 0] [] h Q ↔ Q (some (some (vI (Int32.ofNat (msk_ (abl_ F G P a p) (qr_ P p)))))) h := by
  obtain ⟨g1, ⟨v1, v2, v3, v4⟩, g3, g4, g5, g6, g7, g8, g9⟩ := id hP
  obtain ⟨u1, u2, u3, u4, u5, u6⟩ := g3 p hp
  obtain ⟨t1, t2, t3⟩ := g6 p hp
  obtain ⟨a1, a2, a3, a4, a5, a6, a7⟩ := id hA
  obtain ⟨b1, b2, b3, b4⟩ := a3 a ha
  have f5 := a5 a 4 ha (by omega)
  have h8 := v3 p
  have hk0 : kd_ (mk_ (sp p) 4 0) = 4 := kd_mk (by omega)
  have hka : kd_ (mk_ (sa a) 0 0) = 0 := kd_mk (by omega)
  have hk1 : kd_ (mk_ (sp p + 1) 16 8) = 16 := kd_mk (by omega)
  have hk2 : kd_ (mk_ (sp p + 2) 16 8) = 16 := kd_mk (by omega)
  have hl1 : ln_ (mk_ (sp p + 1) 16 8) = 8 := ln_mk (by omega) (by omega)
  have hl2 : ln_ (mk_ (sp p + 2) 16 8) = 8 := ln_mk (by omega) (by omega)
  by_cases c : F a 4 = 0
  · have hz : msk_ (abl_ F G P a p) (qr_ P p) = 0 := msk_f (fun i _ => by unfold abl_; rw [decide_eq_true c]; rfl)
    rw [hz]
    simp (disch := first | omega | assumption | decide | (apply bT_; decide)) only [s36_0, s36_1, s36_2, s36_3, s36_4, s36_5, s36_6, s36_9, s36_12, s36_13, s36_16, s36_20, s36_21, s36_24, s36_25, s36_26, s36_27, s36_30, s36_31, s36_32, s36_35, s36_38, s36_39, s36_40, s36_41, s36_42, s36_43, s36_44, s36_47, s36_50, s36_51, K_v, K_0, acI, acA, acJ, acX, List.map_cons, List.map_nil, List.sum_cons, List.sum_nil, true_and, and_true, posT, b2_0, b2_1, bft, true_or, or_true, Nat.zero_le, Nat.reduceAdd, Nat.reduceLeDiff, hI_uI, hL_uI, hR_uI, nx_uI, sl_uI, hI_uL, hL_uL, hR_uL, nx_uL, sl_uL, hI_uR, hL_uR, hR_uR, nx_uR, sl_uR, st_eq, if_true, if_false, eq_self, Nat.reduceEqDiff, Nat.reduceMul, reduceIte, kdT, ixT, w_cl, w_ti, w_s1, w_a, w_m12, w_m8, w_m3, w_m4, t1, f5, c, hk0, hka]
    split <;> rfl
  · have L9 := loop_ (P := fun k (_ : Unit) => V_ xs d 36 4 [vA (some (mk_ (sp p) 4 0)), vA (some (mk_ (sa a) 0 0)), vI (Int32.ofNat (msk_ (abl_ F G P a p) k)), vI (Int32.ofNat k)] [] h Q) (f := fun _ x => x) (n := qr_ P p) (fun _ _ => True) (fun k _ hk _ => ⟨by
      obtain ⟨e1, e2⟩ := g7 p k hp hk
      have hsh := w_shl k (by omega)
      have hr := fun Q => c_reaches (xs := xs) (d := d - 1) (h := h) (Q := Q) (s := sa a) (g := G a) (ks := qk_ P p k) (gr := ql_ P p k) b4 (fun j hj => a6 a j ha hj)
      have hab : abl_ F G P a p k = rea_ (G a) (qk_ P p k) (ql_ P p k) := by
        unfold abl_ rea_
        rw [decide_eq_false c]; rfl
      rw [s36_4]
      simp (disch := first | omega | assumption | decide | (apply bT_; decide)) only [s36_0, s36_1, s36_2, s36_3, s36_5, s36_6, s36_9, s36_12, s36_13, s36_16, s36_19, s36_20, s36_21, s36_24, s36_25, s36_26, s36_27, s36_30, s36_31, s36_32, s36_35, s36_38, s36_39, s36_40, s36_41, s36_42, s36_43, s36_44, s36_47, s36_50, s36_51, K_v, K_0, acI, acA, acJ, acX, List.map_cons, List.map_nil, List.sum_cons, List.sum_nil, true_and, and_true, posT, b2_0, b2_1, bft, true_or, or_true, Nat.zero_le, Nat.reduceAdd, Nat.reduceLeDiff, hI_uI, hL_uI, hR_uI, nx_uI, sl_uI, hI_uL, hL_uL, hR_uL, nx_uL, sl_uL, hI_uR, hL_uR, hR_uR, nx_uR, sl_uR, st_eq, if_true, if_false, eq_self, Nat.reduceEqDiff, Nat.reduceMul, reduceIte, kdT, ixT, w_cl, w_ti, w_s1, w_a, w_m12, w_m8, w_m3, w_m4, t1, f5, c, u4, u5, e1, e2, hr, hk0, hka, hl1, hl2, hsh, w_lt]
      rw [if_pos hk]
      show _ ↔ V_ xs d 36 4 [_, _, vI (Int32.ofNat (msk_ (abl_ F G P a p) k + (if abl_ F G P a p k = true then 2 ^ k else 0))), _] [] h Q
      rw [hab]
      cases rea_ (G a) (qk_ P p k) (ql_ P p k)
      · rw [if_pos rfl, if_neg (by decide)]; exact Iff.rfl
      · rw [if_neg (by decide), if_pos rfl, w_or, or_pow msk_lt], trivial⟩) (qr_ P p) 0 () (by omega) trivial
    simp (disch := first | omega | assumption | decide | (apply bT_; decide)) only [s36_0, s36_1, s36_2, s36_3, s36_5, s36_6, s36_9, s36_12, s36_13, s36_16, s36_19, s36_20, s36_21, s36_24, s36_25, s36_26, s36_27, s36_30, s36_31, s36_32, s36_35, s36_38, s36_39, s36_40, s36_41, s36_42, s36_43, s36_44, s36_47, s36_50, s36_51, K_v, K_0, acI, acA, acJ, acX, List.map_cons, List.map_nil, List.sum_cons, List.sum_nil, true_and, and_true, posT, b2_0, b2_1, bft, true_or, or_true, Nat.zero_le, Nat.reduceAdd, Nat.reduceLeDiff, hI_uI, hL_uI, hR_uI, nx_uI, sl_uI, hI_uL, hL_uL, hR_uL, nx_uL, sl_uL, hI_uR, hL_uR, hR_uR, nx_uR, sl_uR, st_eq, if_true, if_false, eq_self, Nat.reduceEqDiff, Nat.reduceMul, reduceIte, kdT, ixT, w_cl, w_ti, w_s1, w_a, w_m12, w_m8, w_m3, w_m4]
    refine (show V_ xs d 36 4 [vA (some (mk_ (sp p) 4 0)), vA (some (mk_ (sa a) 0 0)), vI (Int32.ofNat (msk_ (abl_ F G P a p) 0)), vI (Int32.ofNat 0)] [] h Q ↔ _ from L9.1).trans ?_
    rw [s36_4]
    simp (disch := first | omega | assumption | decide | (apply bT_; decide)) only [s36_0, s36_1, s36_2, s36_3, s36_5, s36_6, s36_9, s36_12, s36_13, s36_16, s36_19, s36_20, s36_21, s36_24, s36_25, s36_26, s36_27, s36_30, s36_31, s36_32, s36_35, s36_38, s36_39, s36_40, s36_41, s36_42, s36_43, s36_44, s36_47, s36_50, s36_51, K_v, K_0, acI, acA, acJ, acX, List.map_cons, List.map_nil, List.sum_cons, List.sum_nil, true_and, and_true, posT, b2_0, b2_1, bft, true_or, or_true, Nat.zero_le, Nat.reduceAdd, Nat.reduceLeDiff, hI_uI, hL_uI, hR_uI, nx_uI, sl_uI, hI_uL, hL_uL, hR_uL, nx_uL, sl_uL, hI_uR, hL_uR, hR_uR, nx_uR, sl_uR, st_eq, if_true, if_false, eq_self, Nat.reduceEqDiff, Nat.reduceMul, reduceIte, kdT, ixT, w_cl, w_ti, w_s1, w_a, w_m12, w_m8, w_m3, w_m4, t1, hk0, w_lt]
    rw [if_neg (by omega)]
theorem x_can {a p r : Int32} (hC : CS_ h) (hA : CA_ na sa F G h) (hP : CP_ P sp h) (hd : 4 ≤ d) : Do_ xs d 70 [vA (some 25165831), vI a, vI p, vI r, vX 0, vX 0] h (some (some (vI (can_ na F G P a p r)))) h := by
  intro Q
  unfold can_
  by_cases c0 : 0 ≤ a.toInt ∧ a.toInt < na
  · obtain ⟨i, rfl, hi1, hi2⟩ := w_of c0.1
    have hi : i < na := by omega
    have hat : aat_ na sa (Int32.ofNat i) = some (mk_ (sa i) 0 0) := by unfold aat_; rw [if_pos c0, w_cl hi2]
    by_cases c1 : 0 ≤ p.toInt ∧ p.toInt < qn_ P
    · rw [isR_d c1]
      obtain ⟨n, rfl, hn1, hn2⟩ := w_of c1.1
      have hn : n < qn_ P := by omega
      have hpt : pat_ P sp (Int32.ofNat n) = some (mk_ (sp n) 4 0) := by unfold pat_; rw [if_pos c1, w_cl hn2]
      have hk0 : kd_ (mk_ (sp n) 4 0) = 4 := kd_mk (by omega)
      have h8 := hP.2.1.2.2.1 n
      rw [w_cl hn2, w_cl hi2]
      by_cases c2 : 0 ≤ r.toInt ∧ r.toInt < qr_ P n
      · obtain ⟨m, rfl, hm1, hm2⟩ := w_of c2.1
        have hm : m < qr_ P n := by omega
        have hM : msk_ (abl_ F G P i n) (qr_ P n) < 2 ^ qr_ P n := msk_lt
        have hM2 : 2 ^ qr_ P n ≤ 2 ^ 8 := Nat.pow_le_pow_right (by omega) h8
        have cd : decide (0 ≤ (m : Int) ∧ (m : Int) < (qr_ P n : Int)) = true := decide_eq_true (by omega)
        rw [if_pos ⟨c0, decide_eq_true c2⟩, w_cl hm2]
        simp (disch := first | omega | assumption | decide | (apply bT_; decide)) only [s70_0, s70_1, s70_2, s70_5, s70_7, s70_8, s70_9, s70_12, s70_14, s70_16, s70_19, s70_21, s70_24, s70_26, s70_27, s70_30, s70_33, s70_34, s70_35, s70_37, s70_39, s70_42, s70_43, s70_44, s70_45, s70_46, K_v, K_0, acI, acA, acJ, acX, List.map_cons, List.map_nil, List.sum_cons, List.sum_nil, true_and, and_true, posT, b2_0, b2_1, bft, true_or, or_true, Nat.zero_le, Nat.reduceAdd, Nat.reduceLeDiff, hI_uI, hL_uI, hR_uI, nx_uI, sl_uI, hI_uL, hL_uL, hR_uL, nx_uL, sl_uL, hI_uR, hL_uR, hR_uR, nx_uR, sl_uR, st_eq, if_true, if_false, eq_self, Nat.reduceEqDiff, Nat.reduceMul, reduceIte, kdT, ixT, w_cl, w_ti, w_s1, w_a, w_m12, w_m8, w_m3, w_m4, c_actorAt hC hA, c_playAt hC hP, hat, hpt, c_hasR hP hn, cd, c_rolesFor hA hP hi hn, hk0, reduceCtorEq, Bool.true_eq_false]
        rw [w_bit (by omega) (by omega), msk_bit, decide_eq_true hm, Bool.true_and]
      · have cd : decide (0 ≤ r.toInt ∧ r.toInt < (qr_ P n : Int)) = false := decide_eq_false c2
        rw [if_neg (fun z => c2 (of_decide_eq_true z.2))]
        simp (disch := first | omega | assumption | decide | (apply bT_; decide)) only [s70_0, s70_1, s70_2, s70_5, s70_7, s70_8, s70_9, s70_12, s70_14, s70_16, s70_19, s70_21, s70_24, s70_26, s70_27, s70_30, s70_33, s70_34, s70_37, s70_39, s70_42, s70_43, s70_44, s70_45, s70_46, K_v, K_0, acI, acA, acJ, acX, List.map_cons, List.map_nil, List.sum_cons, List.sum_nil, true_and, and_true, posT, b2_0, b2_1, bft, true_or, or_true, Nat.zero_le, Nat.reduceAdd, Nat.reduceLeDiff, hI_uI, hL_uI, hR_uI, nx_uI, sl_uI, hI_uL, hL_uL, hR_uL, nx_uL, sl_uL, hI_uR, hL_uR, hR_uR, nx_uR, sl_uR, st_eq, if_true, if_false, eq_self, Nat.reduceEqDiff, Nat.reduceMul, reduceIte, kdT, ixT, w_cl, w_ti, w_s1, w_a, w_m12, w_m8, w_m3, w_m4, c_actorAt hC hA, c_playAt hC hP, hat, hpt, c_hasR hP hn, cd, hk0, reduceCtorEq]
    · have hpt : pat_ P sp p = none := by unfold pat_; rw [if_neg c1]
      rw [if_neg (fun z => by rw [isR_n c1] at z; exact absurd z.2 (by decide))]
      simp (disch := first | omega | assumption | decide | (apply bT_; decide)) only [s70_0, s70_1, s70_2, s70_5, s70_7, s70_8, s70_9, s70_12, s70_14, s70_16, s70_19, s70_21, s70_26, s70_27, s70_30, s70_33, s70_34, s70_37, s70_39, s70_42, s70_43, s70_44, s70_45, s70_46, K_v, K_0, acI, acA, acJ, acX, List.map_cons, List.map_nil, List.sum_cons, List.sum_nil, true_and, and_true, posT, b2_0, b2_1, bft, true_or, or_true, Nat.zero_le, Nat.reduceAdd, Nat.reduceLeDiff, hI_uI, hL_uI, hR_uI, nx_uI, sl_uI, hI_uL, hL_uL, hR_uL, nx_uL, sl_uL, hI_uR, hL_uR, hR_uR, nx_uR, sl_uR, st_eq, if_true, if_false, eq_self, Nat.reduceEqDiff, Nat.reduceMul, reduceIte, kdT, ixT, w_cl, w_ti, w_s1, w_a, w_m12, w_m8, w_m3, w_m4, c_actorAt hC hA, c_playAt hC hP, hat, hpt, reduceCtorEq]
  · have hat : aat_ na sa a = none := by unfold aat_; rw [if_neg c0]
    rw [if_neg (fun z => c0 z.1)]
    simp (disch := first | omega | assumption | decide | (apply bT_; decide)) only [s70_0, s70_1, s70_2, s70_5, s70_7, s70_8, s70_9, s70_12, s70_14, s70_16, s70_21, s70_24, s70_26, s70_27, s70_30, s70_33, s70_34, s70_37, s70_39, s70_42, s70_43, s70_44, s70_45, s70_46, K_v, K_0, acI, acA, acJ, acX, List.map_cons, List.map_nil, List.sum_cons, List.sum_nil, true_and, and_true, posT, b2_0, b2_1, bft, true_or, or_true, Nat.zero_le, Nat.reduceAdd, Nat.reduceLeDiff, hI_uI, hL_uI, hR_uI, nx_uI, sl_uI, hI_uL, hL_uL, hR_uL, nx_uL, sl_uL, hI_uR, hL_uR, hR_uR, nx_uR, sl_uR, st_eq, if_true, if_false, eq_self, Nat.reduceEqDiff, Nat.reduceMul, reduceIte, kdT, ixT, w_cl, w_ti, w_s1, w_a, w_m12, w_m8, w_m3, w_m4, c_actorAt hC hA, c_playAt hC hP, hat]
end CPE
