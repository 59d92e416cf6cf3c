/-! the model: does, doubles, can -/
section MPC
variable {xs : Nat → Int32} {d : Nat} {h : AH} {P : PS} {Q : OU_ → AH → Prop} {na : Nat} {F G : Nat → Nat → Int32}
theorem isR_t {p r : Int32} (hc : isR_ P p r = true) (hv : PV_ P) : ∃ n m : Nat, p = Int32.ofNat n ∧ r = Int32.ofNat m ∧ n < qn_ P ∧ m < qr_ P n ∧ n < 12 ∧ m < 8 := by
  unfold isR_ at hc
  rw [decide_eq_true_iff] at hc
  obtain ⟨h1, h2, h3, h4⟩ := hc
  obtain ⟨n, rfl, hn1, hn2⟩ := w_of h1
  obtain ⟨m, rfl, hm1, hm2⟩ := w_of h3
  rw [w_cl hn2] at h4
  have h8 := hv.2.2.1 n
  have h12 := hv.1
  exact ⟨n, m, rfl, rfl, by omega, by omega, by omega, by omega⟩
def kb_ (x k : Int32) : Bool := decide ((x >>> (k &&& 31)) &&& 1 = 1)
def addK_ (P : PS) (p r : Nat) (k : Int32) : PS := (qn_ P, qf_ P, qr_ P, up2_ (qk_ P) p r (qk_ P p r ||| 1 <<< (k &&& 31)), ql_ P, qd_ P, qb_ P, qt_ P)
theorem m_does {p r k : Int32} (hM : MS_ h) (hP : MP_ P h) (hd : 3 ≤ d) : ∃ h', FM_ [36706320] [0] h h' ∧ hI_ h' 33554440 0 = 0 ∧
    (if isR_ P p r = true ∧ wi_ k 0 11 = true ∧ kb_ (qk_ P p.toNatClampNeg r.toNatClampNeg) k = false then Do_ xs d 117 [vA (some 33554440), vI p, vI r, vI k, vX 0] h (some (some (vI 1))) h' ∧ MP_ (addK_ P p.toNatClampNeg r.toNatClampNeg k) h'
     else Do_ xs d 117 [vA (some 33554440), vI p, vI r, vI k, vX 0] h (some (some (vI 0))) h' ∧ MP_ P h') := by
  obtain ⟨e1, ⟨e2, e8, e9, e10⟩, e3, e4, e5, e6⟩ := id hP
  have hP0 : MP_ P (uI_ h 33554440 (st_ (hI_ h 33554440) 0 0)) := hP.u0
  have hM0 : MS_ (uI_ h 33554440 (st_ (hI_ h 33554440) 0 0)) := hM.u
  by_cases c1 : isR_ P p r = true
  · obtain ⟨n, m, rfl, rfl, hn, hm, hn12, hm8⟩ := isR_t c1 hP.2.1
    obtain ⟨g1, -, -⟩ := e5 n m hn12 hm
    rw [w_cl (by omega), w_cl (by omega)]
    by_cases c2 : wi_ k 0 11 = true
    · by_cases c3 : kb_ (qk_ P n m) k = false
      · have c4 : ¬ ((qk_ P n m >>> (k &&& 31)) &&& 1 = 1) := by unfold kb_ at c3; simpa using c3
        simp only [if_pos (show isR_ P (Int32.ofNat n) (Int32.ofNat m) = true ∧ wi_ k 0 11 = true ∧ kb_ (qk_ P n m) k = false from ⟨c1, c2, c3⟩)]
        refine ⟨uI_ (uI_ h 33554440 (st_ (hI_ h 33554440) 0 0)) 36706320 (st_ (hI_ h 36706320) (8 * n + m) (qk_ P n m ||| 1 <<< (k &&& 31))), (FM_.rf.uM (by decide)).uW (by decide) (by decide), by simp only [hI_uI, hL_uI, hR_uI, nx_uI, sl_uI, hI_uL, hL_uL, hR_uL, nx_uL, sl_uL, hI_uR, hL_uR, hR_uR, nx_uR, sl_uR, st_eq, if_true, if_false, eq_self, Nat.reduceEqDiff, Nat.reduceMul, reduceIte, kdT, ixT, w_cl, w_ti, w_s1, w_a, w_m12, w_m8, w_m3, w_m4], fun Q => ?_, ?_⟩
        · simp (disch := first | omega | assumption | decide) only [s117_0, s117_1, s117_2, s117_5, s117_6, s117_7, s117_8, s117_11, s117_14, s117_15, s117_16, s117_18, s117_21, s117_24, s117_25, s117_26, s117_28, s117_29, s117_30, s117_31, s117_32, s117_34, s117_35, s117_38, s117_40, s117_41, s117_42, s117_43, s117_44, s117_45, s117_46, s117_49, s117_50, s117_51, s117_52, s117_55, s117_57, s117_58, s117_59, s117_60, s117_61, s117_62, s117_63, s117_64, s117_65, K_v, K_0, acI, acA, acJ, acX, List.map_cons, List.map_nil, List.sum_cons, List.sum_nil, true_and, and_true, posT, b2_0, b2_1, bft, true_or, or_true, Nat.zero_le, Nat.reduceAdd, Nat.reduceLeDiff, hI_uI, hL_uI, hR_uI, nx_uI, sl_uI, hI_uL, hL_uL, hR_uL, nx_uL, sl_uL, hI_uR, hL_uR, hR_uR, nx_uR, sl_uR, st_eq, if_true, if_false, eq_self, Nat.reduceEqDiff, Nat.reduceMul, reduceIte, kdT, ixT, w_cl, w_ti, w_s1, w_a, w_m12, w_m8, w_m3, w_m4, hM.r2, hM.r3, hM.r4, hM.r5, hM.r6, hM.r7, hM.r9, hM.r10, hM.r11, hM.r12, hM.r13, hM.r14, hM.r15, hM.r16, hM.r17, hM.r18, hM.r20, hM.r21, hM.r23, hM.r29, hM.r30, hM.r35, hM.r36, hM.r37, hM.r38, hM.r40, hM.r42, hM.r43, hM.r44, hM.r45, hM.r46, hM.r47, c_misRole hM0 hP0, c_mwithin, c1, c2, c4, g1, kd_mKinds, ln_mKinds, Bool.true_eq_false]
        · refine ⟨by simp only [hI_uI, hL_uI, hR_uI, nx_uI, sl_uI, hI_uL, hL_uL, hR_uL, nx_uL, sl_uL, hI_uR, hL_uR, hR_uR, nx_uR, sl_uR, st_eq, if_true, if_false, eq_self, Nat.reduceEqDiff, Nat.reduceMul, reduceIte, kdT, ixT, w_cl, w_ti, w_s1, w_a, w_m12, w_m8, w_m3, w_m4]; exact e1, ⟨e2, e8, e9, e10⟩, fun q hq => by simp only [hI_uI, hL_uI, hR_uI, nx_uI, sl_uI, hI_uL, hL_uL, hR_uL, nx_uL, sl_uL, hI_uR, hL_uR, hR_uR, nx_uR, sl_uR, st_eq, if_true, if_false, eq_self, Nat.reduceEqDiff, Nat.reduceMul, reduceIte, kdT, ixT, w_cl, w_ti, w_s1, w_a, w_m12, w_m8, w_m3, w_m4]; exact e3 q hq, fun q hq => by simp only [hI_uI, hL_uI, hR_uI, nx_uI, sl_uI, hI_uL, hL_uL, hR_uL, nx_uL, sl_uL, hI_uR, hL_uR, hR_uR, nx_uR, sl_uR, st_eq, if_true, if_false, eq_self, Nat.reduceEqDiff, Nat.reduceMul, reduceIte, kdT, ixT, w_cl, w_ti, w_s1, w_a, w_m12, w_m8, w_m3, w_m4]; exact e4 q hq, fun q r hq hr => ?_, fun q i hq hi => by simp only [hI_uI, hL_uI, hR_uI, nx_uI, sl_uI, hI_uL, hL_uL, hR_uL, nx_uL, sl_uL, hI_uR, hL_uR, hR_uR, nx_uR, sl_uR, st_eq, if_true, if_false, eq_self, Nat.reduceEqDiff, Nat.reduceMul, reduceIte, kdT, ixT, w_cl, w_ti, w_s1, w_a, w_m12, w_m8, w_m3, w_m4]; exact e6 q i hq hi⟩
          have hr' : r < qr_ P q := hr
          have h8 := e9 q
          show _ = up2_ (qk_ P) n m (qk_ P n m ||| 1 <<< (k &&& 31)) q r ∧ _
          simp only [hI_uI, hL_uI, hR_uI, nx_uI, sl_uI, hI_uL, hL_uL, hR_uL, nx_uL, sl_uL, hI_uR, hL_uR, hR_uR, nx_uR, sl_uR, st_eq, if_true, if_false, eq_self, Nat.reduceEqDiff, Nat.reduceMul, reduceIte, kdT, ixT, w_cl, w_ti, w_s1, w_a, w_m12, w_m8, w_m3, w_m4]
          unfold up2_
          refine ⟨?_, (e5 q r hq hr).2⟩
          by_cases q1 : q = n ∧ r = m
          · rw [if_pos (by omega), if_pos q1]
          · rw [if_neg (fun z => q1 (by omega)), if_neg q1]
            exact (e5 q r hq hr).1
      · have c4 : (qk_ P n m >>> (k &&& 31)) &&& 1 = 1 := by unfold kb_ at c3; simpa using c3
        simp only [if_neg (show ¬ (isR_ P (Int32.ofNat n) (Int32.ofNat m) = true ∧ wi_ k 0 11 = true ∧ kb_ (qk_ P n m) k = false) from fun z => c3 z.2.2)]
        refine ⟨uI_ h 33554440 (st_ (hI_ h 33554440) 0 0), FM_.rf.uM (by decide), by simp only [hI_uI, hL_uI, hR_uI, nx_uI, sl_uI, hI_uL, hL_uL, hR_uL, nx_uL, sl_uL, hI_uR, hL_uR, hR_uR, nx_uR, sl_uR, st_eq, if_true, if_false, eq_self, Nat.reduceEqDiff, Nat.reduceMul, reduceIte, kdT, ixT, w_cl, w_ti, w_s1, w_a, w_m12, w_m8, w_m3, w_m4], fun Q => ?_, hP0⟩
        simp (disch := first | omega | assumption | decide) only [s117_0, s117_1, s117_2, s117_5, s117_6, s117_7, s117_8, s117_11, s117_14, s117_15, s117_16, s117_18, s117_21, s117_24, s117_25, s117_26, s117_28, s117_29, s117_30, s117_31, s117_32, s117_34, s117_35, s117_38, s117_40, s117_41, s117_42, s117_43, s117_44, s117_45, s117_46, s117_49, s117_50, s117_52, s117_55, s117_57, s117_58, s117_59, s117_60, s117_61, s117_62, s117_63, s117_64, s117_65, K_v, K_0, acI, acA, acJ, acX, List.map_cons, List.map_nil, List.sum_cons, List.sum_nil, true_and, and_true, posT, b2_0, b2_1, bft, true_or, or_true, Nat.zero_le, Nat.reduceAdd, Nat.reduceLeDiff, hI_uI, hL_uI, hR_uI, nx_uI, sl_uI, hI_uL, hL_uL, hR_uL, nx_uL, sl_uL, hI_uR, hL_uR, hR_uR, nx_uR, sl_uR, st_eq, if_true, if_false, eq_self, Nat.reduceEqDiff, Nat.reduceMul, reduceIte, kdT, ixT, w_cl, w_ti, w_s1, w_a, w_m12, w_m8, w_m3, w_m4, hM.r2, hM.r3, hM.r4, hM.r5, hM.r6, hM.r7, hM.r9, hM.r10, hM.r11, hM.r12, hM.r13, hM.r14, hM.r15, hM.r16, hM.r17, hM.r18, hM.r20, hM.r21, hM.r23, hM.r29, hM.r30, hM.r35, hM.r36, hM.r37, hM.r38, hM.r40, hM.r42, hM.r43, hM.r44, hM.r45, hM.r46, hM.r47, c_misRole hM0 hP0, c_mwithin, c1, c2, c4, g1, kd_mKinds, ln_mKinds, Bool.true_eq_false]
    · simp only [if_neg (show ¬ (isR_ P (Int32.ofNat n) (Int32.ofNat m) = true ∧ wi_ k 0 11 = true ∧ kb_ (qk_ P n m) k = false) from fun z => c2 z.2.1)]
      refine ⟨uI_ h 33554440 (st_ (hI_ h 33554440) 0 0), FM_.rf.uM (by decide), by simp only [hI_uI, hL_uI, hR_uI, nx_uI, sl_uI, hI_uL, hL_uL, hR_uL, nx_uL, sl_uL, hI_uR, hL_uR, hR_uR, nx_uR, sl_uR, st_eq, if_true, if_false, eq_self, Nat.reduceEqDiff, Nat.reduceMul, reduceIte, kdT, ixT, w_cl, w_ti, w_s1, w_a, w_m12, w_m8, w_m3, w_m4], fun Q => ?_, hP0⟩
      have c3 : wi_ k 0 11 = false := by simpa using c2
      simp (disch := first | omega | assumption | decide) only [s117_0, s117_1, s117_2, s117_5, s117_6, s117_7, s117_8, s117_11, s117_14, s117_15, s117_16, s117_18, s117_21, s117_24, s117_25, s117_28, s117_29, s117_30, s117_31, s117_32, s117_34, s117_35, s117_38, s117_40, s117_41, s117_42, s117_43, s117_44, s117_45, s117_46, s117_49, s117_50, s117_51, s117_52, s117_55, s117_57, s117_58, s117_59, s117_60, s117_61, s117_62, s117_63, s117_64, s117_65, K_v, K_0, acI, acA, acJ, acX, List.map_cons, List.map_nil, List.sum_cons, List.sum_nil, true_and, and_true, posT, b2_0, b2_1, bft, true_or, or_true, Nat.zero_le, Nat.reduceAdd, Nat.reduceLeDiff, hI_uI, hL_uI, hR_uI, nx_uI, sl_uI, hI_uL, hL_uL, hR_uL, nx_uL, sl_uL, hI_uR, hL_uR, hR_uR, nx_uR, sl_uR, st_eq, if_true, if_false, eq_self, Nat.reduceEqDiff, Nat.reduceMul, reduceIte, kdT, ixT, w_cl, w_ti, w_s1, w_a, w_m12, w_m8, w_m3, w_m4, c_misRole hM0 hP0, c_mwithin, c1, c3, Bool.true_eq_false]
  · simp only [if_neg (show ¬ (isR_ P p r = true ∧ wi_ k 0 11 = true ∧ kb_ (qk_ P p.toNatClampNeg r.toNatClampNeg) k = false) from fun z => c1 z.1)]
    refine ⟨uI_ h 33554440 (st_ (hI_ h 33554440) 0 0), FM_.rf.uM (by decide), by simp only [hI_uI, hL_uI, hR_uI, nx_uI, sl_uI, hI_uL, hL_uL, hR_uL, nx_uL, sl_uL, hI_uR, hL_uR, hR_uR, nx_uR, sl_uR, st_eq, if_true, if_false, eq_self, Nat.reduceEqDiff, Nat.reduceMul, reduceIte, kdT, ixT, w_cl, w_ti, w_s1, w_a, w_m12, w_m8, w_m3, w_m4], fun Q => ?_, hP0⟩
    have c3 : isR_ P p r = false := by simpa using c1
    simp (disch := first | omega | assumption | decide) only [s117_0, s117_1, s117_2, s117_5, s117_6, s117_7, s117_8, s117_11, s117_15, s117_16, s117_18, s117_21, s117_24, s117_25, s117_28, s117_29, s117_30, s117_31, s117_32, s117_34, s117_35, s117_38, s117_40, s117_41, s117_42, s117_43, s117_44, s117_45, s117_46, s117_49, s117_50, s117_51, s117_52, s117_55, s117_57, s117_58, s117_59, s117_60, s117_61, s117_62, s117_63, s117_64, s117_65, K_v, K_0, acI, acA, acJ, acX, List.map_cons, List.map_nil, List.sum_cons, List.sum_nil, true_and, and_true, posT, b2_0, b2_1, bft, true_or, or_true, Nat.zero_le, Nat.reduceAdd, Nat.reduceLeDiff, hI_uI, hL_uI, hR_uI, nx_uI, sl_uI, hI_uL, hL_uL, hR_uL, nx_uL, sl_uL, hI_uR, hL_uR, hR_uR, nx_uR, sl_uR, st_eq, if_true, if_false, eq_self, Nat.reduceEqDiff, Nat.reduceMul, reduceIte, kdT, ixT, w_cl, w_ti, w_s1, w_a, w_m12, w_m8, w_m3, w_m4, c_misRole hM0 hP0, c3]
def bts_ (a b : Int32) : Int32 := 1 <<< (a &&& 31) ||| 1 <<< (b &&& 31)
def okD_ (P : PS) (p a b : Int32) : Bool := isR_ P p a && (isR_ P p b && ((!decide (a = b)) && (decide (qb_ P p.toNatClampNeg < 3) && !an_ (fun i => decide (qt_ P p.toNatClampNeg i = bts_ a b)) (qb_ P p.toNatClampNeg) 0)))
def addD_ (P : PS) (p : Nat) (v : Int32) : PS := (qn_ P, qf_ P, qr_ P, qk_ P, ql_ P, qd_ P, up1_ (qb_ P) p (qb_ P p + 1), up2_ (qt_ P) p (qb_ P p) v)
theorem m_doubles {p a b : Int32} (hM : MS_ h) (hP : MP_ P h) (hd : 3 ≤ d) : ∃ h', FM_ [37751056, 37487376] [0] h h' ∧ hI_ h' 33554440 0 = 0 ∧
    (if okD_ P p a b = true then Do_ xs d 118 [vA (some 33554440), vI p, vI a, vI b, vX 0, vX 0] h (some (some (vI 1))) h' ∧ MP_ (addD_ P p.toNatClampNeg (bts_ a b)) h'
     else Do_ xs d 118 [vA (some 33554440), vI p, vI a, vI b, vX 0, vX 0] h (some (some (vI 0))) h' ∧ MP_ P h') := by
  obtain ⟨e1, ⟨e2, e8, e9, e10⟩, e3, e4, e5, e6⟩ := id hP
  have hP0 : MP_ P (uI_ h 33554440 (st_ (hI_ h 33554440) 0 0)) := hP.u0
  have hM0 : MS_ (uI_ h 33554440 (st_ (hI_ h 33554440) 0 0)) := hM.u
  have fin : (∀ Q, V_ xs d 118 0 [vA (some 33554440), vI p, vI a, vI b, vX 0, vX 0] [] h Q ↔ Q (some (some (vI 0))) (uI_ h 33554440 (st_ (hI_ h 33554440) 0 0))) → ∃ h', FM_ [37751056, 37487376] [0] h h' ∧ hI_ h' 33554440 0 = 0 ∧ Do_ xs d 118 [vA (some 33554440), vI p, vI a, vI b, vX 0, vX 0] h (some (some (vI 0))) h' ∧ MP_ P h' :=
    fun hq => ⟨_, FM_.rf.uM (by decide), by simp only [hI_uI, hL_uI, hR_uI, nx_uI, sl_uI, hI_uL, hL_uL, hR_uL, nx_uL, sl_uL, hI_uR, hL_uR, hR_uR, nx_uR, sl_uR, st_eq, if_true, if_false, eq_self, Nat.reduceEqDiff, Nat.reduceMul, reduceIte, kdT, ixT, w_cl, w_ti, w_s1, w_a, w_m12, w_m8, w_m3, w_m4], hq, hP0⟩
  by_cases c1 : isR_ P p a = true
  · by_cases c2 : isR_ P p b = true
    · obtain ⟨n, m, rfl, rfl, hn, hm, hn12, hm8⟩ := isR_t c1 hP.2.1
      by_cases c3 : Int32.ofNat m = b
      · have hc : okD_ P (Int32.ofNat n) (Int32.ofNat m) b = false := by unfold okD_; simp [c3]
        simp only [hc, Bool.false_eq_true, if_false]
        refine fin (fun Q => ?_)
        simp (disch := first | omega | assumption | decide) only [s118_0, s118_1, s118_2, s118_5, s118_6, s118_7, s118_8, s118_11, s118_14, s118_15, s118_16, s118_17, s118_20, s118_23, s118_24, s118_25, s118_29, s118_32, s118_33, s118_34, s118_35, s118_38, s118_39, s118_40, s118_41, s118_42, s118_43, s118_44, s118_45, s118_46, s118_47, s118_49, s118_50, s118_52, s118_54, s118_55, s118_58, s118_59, s118_60, s118_63, s118_64, s118_67, s118_68, s118_69, s118_70, s118_72, s118_73, s118_74, s118_76, s118_79, s118_80, s118_81, s118_84, s118_87, s118_88, s118_91, s118_92, s118_93, s118_94, s118_95, s118_98, s118_99, s118_100, s118_101, s118_103, s118_104, s118_105, s118_108, s118_109, s118_110, s118_111, s118_112, s118_113, s118_114, s118_115, K_v, K_0, acI, acA, acJ, acX, List.map_cons, List.map_nil, List.sum_cons, List.sum_nil, true_and, and_true, posT, b2_0, b2_1, bft, true_or, or_true, Nat.zero_le, Nat.reduceAdd, Nat.reduceLeDiff, hI_uI, hL_uI, hR_uI, nx_uI, sl_uI, hI_uL, hL_uL, hR_uL, nx_uL, sl_uL, hI_uR, hL_uR, hR_uR, nx_uR, sl_uR, st_eq, if_true, if_false, eq_self, Nat.reduceEqDiff, Nat.reduceMul, reduceIte, kdT, ixT, w_cl, w_ti, w_s1, w_a, w_m12, w_m8, w_m3, w_m4, c_misRole hM0 hP0, c1, c2, if_pos c3, Bool.true_eq_false]
      · have g1 := (e4 n hn12).2
        have h3 := e10 n
        by_cases c4 : qb_ P n = 3
        · have hc : okD_ P (Int32.ofNat n) (Int32.ofNat m) b = false := by unfold okD_; rw [w_cl (by omega)]; simp [c4]
          simp only [hc, Bool.false_eq_true, if_false]
          refine fin (fun Q => ?_)
          simp (disch := first | omega | assumption | decide) only [s118_0, s118_1, s118_2, s118_5, s118_6, s118_7, s118_8, s118_11, s118_14, s118_15, s118_16, s118_17, s118_20, s118_23, s118_24, s118_25, s118_28, s118_29, s118_32, s118_33, s118_34, s118_35, s118_38, s118_39, s118_41, s118_42, s118_43, s118_44, s118_45, s118_46, s118_47, s118_49, s118_50, s118_52, s118_54, s118_55, s118_58, s118_59, s118_60, s118_63, s118_64, s118_67, s118_68, s118_69, s118_70, s118_72, s118_73, s118_74, s118_76, s118_79, s118_80, s118_81, s118_84, s118_87, s118_88, s118_91, s118_92, s118_93, s118_94, s118_95, s118_98, s118_99, s118_100, s118_101, s118_103, s118_104, s118_105, s118_108, s118_109, s118_110, s118_111, s118_112, s118_113, s118_114, s118_115, K_v, K_0, acI, acA, acJ, acX, List.map_cons, List.map_nil, List.sum_cons, List.sum_nil, true_and, and_true, posT, b2_0, b2_1, bft, true_or, or_true, Nat.zero_le, Nat.reduceAdd, Nat.reduceLeDiff, hI_uI, hL_uI, hR_uI, nx_uI, sl_uI, hI_uL, hL_uL, hR_uL, nx_uL, sl_uL, hI_uR, hL_uR, hR_uR, nx_uR, sl_uR, st_eq, if_true, if_false, eq_self, Nat.reduceEqDiff, Nat.reduceMul, reduceIte, kdT, ixT, w_cl, w_ti, w_s1, w_a, w_m12, w_m8, w_m3, w_m4, hM.r2, hM.r3, hM.r4, hM.r5, hM.r6, hM.r7, hM.r9, hM.r10, hM.r11, hM.r12, hM.r13, hM.r14, hM.r15, hM.r16, hM.r17, hM.r18, hM.r20, hM.r21, hM.r23, hM.r29, hM.r30, hM.r35, hM.r36, hM.r37, hM.r38, hM.r40, hM.r42, hM.r43, hM.r44, hM.r45, hM.r46, hM.r47, c_misRole hM0 hP0, c1, c2, if_neg c3, g1, e3', c4, kd_mDM, ln_mDM, Bool.true_eq_false]
        · have L := fun Q => loopE_ (P := fun k => V_ xs d 118 52 [vA (some 33554440), vI (Int32.ofNat n), vI (Int32.ofNat m), vI b, vI (bts_ (Int32.ofNat m) b), vI (Int32.ofNat k)] [] (uI_ h 33554440 (st_ (hI_ h 33554440) 0 0)) Q) (R := Q (some (some (vI 0))) (uI_ h 33554440 (st_ (hI_ h 33554440) 0 0))) (c := fun i => decide (qt_ P n i = bts_ (Int32.ofNat m) b)) (n := qb_ P n) (fun k hk => by
            have g3 := e6 n k hn12 hk
            rw [s118_52]
            simp (disch := first | omega | assumption | decide) only [s118_0, s118_1, s118_2, s118_5, s118_6, s118_7, s118_8, s118_11, s118_14, s118_15, s118_16, s118_17, s118_20, s118_23, s118_24, s118_25, s118_28, s118_29, s118_32, s118_33, s118_34, s118_35, s118_38, s118_39, s118_40, s118_41, s118_42, s118_43, s118_44, s118_45, s118_46, s118_47, s118_49, s118_50, s118_54, s118_55, s118_58, s118_59, s118_60, s118_63, s118_64, s118_67, s118_68, s118_69, s118_70, s118_72, s118_73, s118_74, s118_76, s118_79, s118_80, s118_81, s118_84, s118_87, s118_88, s118_91, s118_92, s118_93, s118_94, s118_95, s118_98, s118_99, s118_100, s118_101, s118_103, s118_104, s118_105, s118_108, s118_109, s118_110, s118_111, s118_112, s118_113, s118_114, s118_115, K_v, K_0, acI, acA, acJ, acX, List.map_cons, List.map_nil, List.sum_cons, List.sum_nil, true_and, and_true, posT, b2_0, b2_1, bft, true_or, or_true, Nat.zero_le, Nat.reduceAdd, Nat.reduceLeDiff, hI_uI, hL_uI, hR_uI, nx_uI, sl_uI, hI_uL, hL_uL, hR_uL, nx_uL, sl_uL, hI_uR, hL_uR, hR_uR, nx_uR, sl_uR, st_eq, if_true, if_false, eq_self, Nat.reduceEqDiff, Nat.reduceMul, reduceIte, kdT, ixT, w_cl, w_ti, w_s1, w_a, w_m12, w_m8, w_m3, w_m4, hM.r2, hM.r3, hM.r4, hM.r5, hM.r6, hM.r7, hM.r9, hM.r10, hM.r11, hM.r12, hM.r13, hM.r14, hM.r15, hM.r16, hM.r17, hM.r18, hM.r20, hM.r21, hM.r23, hM.r29, hM.r30, hM.r35, hM.r36, hM.r37, hM.r38, hM.r40, hM.r42, hM.r43, hM.r44, hM.r45, hM.r46, hM.r47, g1, g3, kd_mDM, ln_mDM, kd_mBoth, ln_mBoth, w_lt, decide_eq_true_iff]
            rw [if_pos hk]) (qb_ P n) 0 (by omega)
          by_cases c5 : an_ (fun i => decide (qt_ P n i = bts_ (Int32.ofNat m) b)) (qb_ P n) 0 = true
          · have hc : okD_ P (Int32.ofNat n) (Int32.ofNat m) b = false := by unfold okD_; rw [w_cl (by omega), c5]; simp
            simp only [hc, Bool.false_eq_true, if_false]
            refine fin (fun Q => ?_)
            simp (disch := first | omega | assumption | decide) only [s118_0, s118_1, s118_2, s118_5, s118_6, s118_7, s118_8, s118_11, s118_14, s118_15, s118_16, s118_17, s118_20, s118_23, s118_24, s118_25, s118_28, s118_29, s118_32, s118_33, s118_34, s118_35, s118_38, s118_39, s118_40, s118_41, s118_42, s118_43, s118_44, s118_45, s118_46, s118_47, s118_49, s118_50, s118_54, s118_55, s118_58, s118_59, s118_60, s118_63, s118_64, s118_67, s118_68, s118_69, s118_70, s118_72, s118_73, s118_74, s118_76, s118_79, s118_80, s118_81, s118_84, s118_87, s118_88, s118_91, s118_92, s118_93, s118_94, s118_95, s118_98, s118_99, s118_100, s118_101, s118_103, s118_104, s118_105, s118_108, s118_109, s118_110, s118_111, s118_112, s118_113, s118_114, s118_115, K_v, K_0, acI, acA, acJ, acX, List.map_cons, List.map_nil, List.sum_cons, List.sum_nil, true_and, and_true, posT, b2_0, b2_1, bft, true_or, or_true, Nat.zero_le, Nat.reduceAdd, Nat.reduceLeDiff, hI_uI, hL_uI, hR_uI, nx_uI, sl_uI, hI_uL, hL_uL, hR_uL, nx_uL, sl_uL, hI_uR, hL_uR, hR_uR, nx_uR, sl_uR, st_eq, if_true, if_false, eq_self, Nat.reduceEqDiff, Nat.reduceMul, reduceIte, kdT, ixT, w_cl, w_ti, w_s1, w_a, w_m12, w_m8, w_m3, w_m4, hM.r2, hM.r3, hM.r4, hM.r5, hM.r6, hM.r7, hM.r9, hM.r10, hM.r11, hM.r12, hM.r13, hM.r14, hM.r15, hM.r16, hM.r17, hM.r18, hM.r20, hM.r21, hM.r23, hM.r29, hM.r30, hM.r35, hM.r36, hM.r37, hM.r38, hM.r40, hM.r42, hM.r43, hM.r44, hM.r45, hM.r46, hM.r47, c_misRole hM0 hP0, c1, c2, if_neg c3, g1, e3', if_neg c4, kd_mDM, ln_mDM, Bool.true_eq_false]
            refine (show V_ xs d 118 52 [vA (some 33554440), vI (Int32.ofNat n), vI (Int32.ofNat m), vI b, vI (bts_ (Int32.ofNat m) b), vI (Int32.ofNat 0)] [] _ Q ↔ _ from L Q).trans ?_
            rw [if_pos c5]
          · have hc : okD_ P (Int32.ofNat n) (Int32.ofNat m) b = true := by unfold okD_; rw [w_cl (by omega)]; simp [c1, c2, c3, c5]; omega
            simp only [hc, if_true]
            refine ⟨uI_ (uI_ (uI_ h 33554440 (st_ (hI_ h 33554440) 0 0)) 37751056 (st_ (hI_ h 37751056) (3 * n + qb_ P n) (bts_ (Int32.ofNat m) b))) 37487376 (st_ (hI_ h 37487376) n (Int32.ofNat (qb_ P n + 1))), ((FM_.rf.uM (by decide)).uW (by decide) (by decide)).uW (by decide) (by decide), by simp only [hI_uI, hL_uI, hR_uI, nx_uI, sl_uI, hI_uL, hL_uL, hR_uL, nx_uL, sl_uL, hI_uR, hL_uR, hR_uR, nx_uR, sl_uR, st_eq, if_true, if_false, eq_self, Nat.reduceEqDiff, Nat.reduceMul, reduceIte, kdT, ixT, w_cl, w_ti, w_s1, w_a, w_m12, w_m8, w_m3, w_m4], fun Q => ?_, ?_⟩
            · simp (disch := first | omega | assumption | decide) only [s118_0, s118_1, s118_2, s118_5, s118_6, s118_7, s118_8, s118_11, s118_14, s118_15, s118_16, s118_17, s118_20, s118_23, s118_24, s118_25, s118_28, s118_29, s118_32, s118_33, s118_34, s118_35, s118_38, s118_39, s118_40, s118_41, s118_42, s118_43, s118_44, s118_45, s118_46, s118_47, s118_49, s118_50, s118_54, s118_55, s118_58, s118_59, s118_60, s118_63, s118_64, s118_67, s118_68, s118_69, s118_70, s118_72, s118_73, s118_74, s118_76, s118_79, s118_80, s118_81, s118_84, s118_87, s118_88, s118_91, s118_92, s118_93, s118_94, s118_95, s118_98, s118_99, s118_100, s118_101, s118_103, s118_104, s118_105, s118_108, s118_109, s118_110, s118_111, s118_112, s118_113, s118_114, s118_115, K_v, K_0, acI, acA, acJ, acX, List.map_cons, List.map_nil, List.sum_cons, List.sum_nil, true_and, and_true, posT, b2_0, b2_1, bft, true_or, or_true, Nat.zero_le, Nat.reduceAdd, Nat.reduceLeDiff, hI_uI, hL_uI, hR_uI, nx_uI, sl_uI, hI_uL, hL_uL, hR_uL, nx_uL, sl_uL, hI_uR, hL_uR, hR_uR, nx_uR, sl_uR, st_eq, if_true, if_false, eq_self, Nat.reduceEqDiff, Nat.reduceMul, reduceIte, kdT, ixT, w_cl, w_ti, w_s1, w_a, w_m12, w_m8, w_m3, w_m4, hM.r2, hM.r3, hM.r4, hM.r5, hM.r6, hM.r7, hM.r9, hM.r10, hM.r11, hM.r12, hM.r13, hM.r14, hM.r15, hM.r16, hM.r17, hM.r18, hM.r20, hM.r21, hM.r23, hM.r29, hM.r30, hM.r35, hM.r36, hM.r37, hM.r38, hM.r40, hM.r42, hM.r43, hM.r44, hM.r45, hM.r46, hM.r47, c_misRole hM0 hP0, c1, c2, if_neg c3, g1, e3', if_neg c4, kd_mDM, ln_mDM, Bool.true_eq_false]
              refine (show V_ xs d 118 52 [vA (some 33554440), vI (Int32.ofNat n), vI (Int32.ofNat m), vI b, vI (bts_ (Int32.ofNat m) b), vI (Int32.ofNat 0)] [] _ Q ↔ _ from L Q).trans ?_
              rw [if_neg c5, s118_52]
              simp (disch := first | omega | assumption | decide) only [s118_0, s118_1, s118_2, s118_5, s118_6, s118_7, s118_8, s118_11, s118_14, s118_15, s118_16, s118_17, s118_20, s118_23, s118_24, s118_25, s118_28, s118_29, s118_32, s118_33, s118_34, s118_35, s118_38, s118_39, s118_40, s118_41, s118_42, s118_43, s118_44, s118_45, s118_46, s118_47, s118_49, s118_50, s118_54, s118_55, s118_58, s118_59, s118_60, s118_63, s118_64, s118_67, s118_68, s118_69, s118_70, s118_72, s118_73, s118_74, s118_76, s118_79, s118_80, s118_81, s118_84, s118_87, s118_88, s118_91, s118_92, s118_93, s118_94, s118_95, s118_98, s118_99, s118_100, s118_101, s118_103, s118_104, s118_105, s118_108, s118_109, s118_110, s118_111, s118_112, s118_113, s118_114, s118_115, K_v, K_0, acI, acA, acJ, acX, List.map_cons, List.map_nil, List.sum_cons, List.sum_nil, true_and, and_true, posT, b2_0, b2_1, bft, true_or, or_true, Nat.zero_le, Nat.reduceAdd, Nat.reduceLeDiff, hI_uI, hL_uI, hR_uI, nx_uI, sl_uI, hI_uL, hL_uL, hR_uL, nx_uL, sl_uL, hI_uR, hL_uR, hR_uR, nx_uR, sl_uR, st_eq, if_true, if_false, eq_self, Nat.reduceEqDiff, Nat.reduceMul, reduceIte, kdT, ixT, w_cl, w_ti, w_s1, w_a, w_m12, w_m8, w_m3, w_m4, hM.r2, hM.r3, hM.r4, hM.r5, hM.r6, hM.r7, hM.r9, hM.r10, hM.r11, hM.r12, hM.r13, hM.r14, hM.r15, hM.r16, hM.r17, hM.r18, hM.r20, hM.r21, hM.r23, hM.r29, hM.r30, hM.r35, hM.r36, hM.r37, hM.r38, hM.r40, hM.r42, hM.r43, hM.r44, hM.r45, hM.r46, hM.r47, g1, kd_mDM, ln_mDM, kd_mBoth, ln_mBoth, w_lt]
              rw [if_neg (by omega)]
            · rw [w_cl (by omega)]
              refine ⟨by simp only [hI_uI, hL_uI, hR_uI, nx_uI, sl_uI, hI_uL, hL_uL, hR_uL, nx_uL, sl_uL, hI_uR, hL_uR, hR_uR, nx_uR, sl_uR, st_eq, if_true, if_false, eq_self, Nat.reduceEqDiff, Nat.reduceMul, reduceIte, kdT, ixT, w_cl, w_ti, w_s1, w_a, w_m12, w_m8, w_m3, w_m4]; exact e1, ⟨e2, fun q hq => ?_, e9, fun q => ?_⟩, fun q hq => by simp only [hI_uI, hL_uI, hR_uI, nx_uI, sl_uI, hI_uL, hL_uL, hR_uL, nx_uL, sl_uL, hI_uR, hL_uR, hR_uR, nx_uR, sl_uR, st_eq, if_true, if_false, eq_self, Nat.reduceEqDiff, Nat.reduceMul, reduceIte, kdT, ixT, w_cl, w_ti, w_s1, w_a, w_m12, w_m8, w_m3, w_m4]; exact e3 q hq, fun q hq => ?_, fun q r hq hr => by simp only [hI_uI, hL_uI, hR_uI, nx_uI, sl_uI, hI_uL, hL_uL, hR_uL, nx_uL, sl_uL, hI_uR, hL_uR, hR_uR, nx_uR, sl_uR, st_eq, if_true, if_false, eq_self, Nat.reduceEqDiff, Nat.reduceMul, reduceIte, kdT, ixT, w_cl, w_ti, w_s1, w_a, w_m12, w_m8, w_m3, w_m4]; exact e5 q r hq hr, fun q i hq hi => ?_⟩
              · have hq' : qn_ P ≤ q := hq
                show _ ∧ up1_ (qb_ P) n (qb_ P n + 1) q = 0
                unfold up1_
                rw [if_neg (by omega)]
                exact e8 q hq'
              · show up1_ (qb_ P) n (qb_ P n + 1) q ≤ 3
                unfold up1_
                split
                · omega
                · exact e10 q
              · show _ ∧ _ = Int32.ofNat (up1_ (qb_ P) n (qb_ P n + 1) q)
                simp only [hI_uI, hL_uI, hR_uI, nx_uI, sl_uI, hI_uL, hL_uL, hR_uL, nx_uL, sl_uL, hI_uR, hL_uR, hR_uR, nx_uR, sl_uR, st_eq, if_true, if_false, eq_self, Nat.reduceEqDiff, Nat.reduceMul, reduceIte, kdT, ixT, w_cl, w_ti, w_s1, w_a, w_m12, w_m8, w_m3, w_m4]
                unfold up1_
                refine ⟨(e4 q hq).1, ?_⟩
                by_cases q1 : q = n
                · rw [if_pos q1, if_pos q1]
                · rw [if_neg q1, if_neg q1]; exact (e4 q hq).2
              · have hi' : i < up1_ (qb_ P) n (qb_ P n + 1) q := hi
                show _ = up2_ (qt_ P) n (qb_ P n) (bts_ (Int32.ofNat m) b) q i
                simp only [hI_uI, hL_uI, hR_uI, nx_uI, sl_uI, hI_uL, hL_uL, hR_uL, nx_uL, sl_uL, hI_uR, hL_uR, hR_uR, nx_uR, sl_uR, st_eq, if_true, if_false, eq_self, Nat.reduceEqDiff, Nat.reduceMul, reduceIte, kdT, ixT, w_cl, w_ti, w_s1, w_a, w_m12, w_m8, w_m3, w_m4]
                unfold up1_ at hi'
                unfold up2_
                by_cases q1 : q = n ∧ i = qb_ P n
                · rw [if_pos (by omega), if_pos q1]
                · have hi2 : i < qb_ P q := by
                    split at hi'
                    · rename_i q2
                      rw [q2]
                      have : ¬ i = qb_ P n := fun z => q1 ⟨q2, z⟩
                      omega
                    · exact hi'
                  have h9 := e10 q
                  rw [if_neg (fun z => q1 (by omega)), if_neg q1]
                  exact e6 q i hq hi2
    · have c3 : isR_ P p b = false := by simpa using c2
      have hc : okD_ P p a b = false := by unfold okD_; simp [c3]
      simp only [hc, Bool.false_eq_true, if_false]
      refine fin (fun Q => ?_)
      simp (disch := first | omega | assumption | decide) only [s118_0, s118_1, s118_2, s118_5, s118_6, s118_7, s118_8, s118_11, s118_14, s118_15, s118_16, s118_17, s118_20, s118_24, s118_25, s118_28, s118_29, s118_32, s118_33, s118_34, s118_35, s118_38, s118_39, s118_40, s118_41, s118_42, s118_43, s118_44, s118_45, s118_46, s118_47, s118_49, s118_50, s118_52, s118_54, s118_55, s118_58, s118_59, s118_60, s118_63, s118_64, s118_67, s118_68, s118_69, s118_70, s118_72, s118_73, s118_74, s118_76, s118_79, s118_80, s118_81, s118_84, s118_87, s118_88, s118_91, s118_92, s118_93, s118_94, s118_95, s118_98, s118_99, s118_100, s118_101, s118_103, s118_104, s118_105, s118_108, s118_109, s118_110, s118_111, s118_112, s118_113, s118_114, s118_115, K_v, K_0, acI, acA, acJ, acX, List.map_cons, List.map_nil, List.sum_cons, List.sum_nil, true_and, and_true, posT, b2_0, b2_1, bft, true_or, or_true, Nat.zero_le, Nat.reduceAdd, Nat.reduceLeDiff, hI_uI, hL_uI, hR_uI, nx_uI, sl_uI, hI_uL, hL_uL, hR_uL, nx_uL, sl_uL, hI_uR, hL_uR, hR_uR, nx_uR, sl_uR, st_eq, if_true, if_false, eq_self, Nat.reduceEqDiff, Nat.reduceMul, reduceIte, kdT, ixT, w_cl, w_ti, w_s1, w_a, w_m12, w_m8, w_m3, w_m4, c_misRole hM0 hP0, c1, c3, Bool.true_eq_false]
  · have c3 : isR_ P p a = false := by simpa using c1
    have hc : okD_ P p a b = false := by unfold okD_; simp [c3]
    simp only [hc, Bool.false_eq_true, if_false]
    refine fin (fun Q => ?_)
    simp (disch := first | omega | assumption | decide) only [s118_0, s118_1, s118_2, s118_5, s118_6, s118_7, s118_8, s118_11, s118_15, s118_16, s118_17, s118_20, s118_23, s118_24, s118_25, s118_28, s118_29, s118_32, s118_33, s118_34, s118_35, s118_38, s118_39, s118_40, s118_41, s118_42, s118_43, s118_44, s118_45, s118_46, s118_47, s118_49, s118_50, s118_52, s118_54, s118_55, s118_58, s118_59, s118_60, s118_63, s118_64, s118_67, s118_68, s118_69, s118_70, s118_72, s118_73, s118_74, s118_76, s118_79, s118_80, s118_81, s118_84, s118_87, s118_88, s118_91, s118_92, s118_93, s118_94, s118_95, s118_98, s118_99, s118_100, s118_101, s118_103, s118_104, s118_105, s118_108, s118_109, s118_110, s118_111, s118_112, s118_113, s118_114, s118_115, K_v, K_0, acI, acA, acJ, acX, List.map_cons, List.map_nil, List.sum_cons, List.sum_nil, true_and, and_true, posT, b2_0, b2_1, bft, true_or, or_true, Nat.zero_le, Nat.reduceAdd, Nat.reduceLeDiff, hI_uI, hL_uI, hR_uI, nx_uI, sl_uI, hI_uL, hL_uL, hR_uL, nx_uL, sl_uL, hI_uR, hL_uR, hR_uR, nx_uR, sl_uR, st_eq, if_true, if_false, eq_self, Nat.reduceEqDiff, Nat.reduceMul, reduceIte, kdT, ixT, w_cl, w_ti, w_s1, w_a, w_m12, w_m8, w_m3, w_m4, c_misRole hM0 hP0, c3]
/-- what 'can' answers -/
def can_ (na : Nat) (F G : Nat → Nat → Int32) (P : PS) (a p r : Int32) : Int32 := if (0 ≤ a.toInt ∧ a.toInt < na) ∧ isR_ P p r = true then b2_ (abl_ F G P a.toNatClampNeg p.toNatClampNeg r.toNatClampNeg) else -1
theorem m_can {a p r : Int32} (hM : MS_ h) (hA : MA_ na F G h) (hP : MP_ P h) (hd : 3 ≤ d) : Do_ xs d 120 [vA (some 33554440), vI a, vI p, vI r] h (some (some (vI (can_ na F G P a p r)))) (uI_ h 33554440 (st_ (hI_ h 33554440) 0 0)) := by
  intro Q
  have hP0 : MP_ P (uI_ h 33554440 (st_ (hI_ h 33554440) 0 0)) := hP.u0
  have hM0 : MS_ (uI_ h 33554440 (st_ (hI_ h 33554440) 0 0)) := hM.u
  have hA0 : MA_ na F G (uI_ h 33554440 (st_ (hI_ h 33554440) 0 0)) := hA.u0
  unfold can_
  by_cases c0 : 0 ≤ a.toInt ∧ a.toInt < na
  · have cd : decide (0 ≤ a.toInt ∧ a.toInt < (na : Int)) = true := decide_eq_true c0
    by_cases c1 : isR_ P p r = true
    · obtain ⟨n, m, rfl, rfl, hn, hm, hn12, hm8⟩ := isR_t c1 hP.2.1
      obtain ⟨i, rfl, hi1, hi2⟩ := w_of c0.1
      rw [if_pos ⟨c0, c1⟩, w_cl hi2, w_cl (by omega), w_cl (by omega)]
      have hia : i < na := by omega
      simp (disch := first | omega | assumption | decide) only [s120_0, s120_1, s120_2, s120_5, s120_6, s120_7, s120_10, s120_13, s120_14, s120_15, s120_16, s120_19, s120_22, s120_23, s120_24, s120_25, s120_26, s120_27, s120_28, s120_31, s120_34, s120_35, s120_38, s120_39, K_v, K_0, acI, acA, acJ, acX, List.map_cons, List.map_nil, List.sum_cons, List.sum_nil, true_and, and_true, posT, b2_0, b2_1, bft, true_or, or_true, Nat.zero_le, Nat.reduceAdd, Nat.reduceLeDiff, hI_uI, hL_uI, hR_uI, nx_uI, sl_uI, hI_uL, hL_uL, hR_uL, nx_uL, sl_uL, hI_uR, hL_uR, hR_uR, nx_uR, sl_uR, st_eq, if_true, if_false, eq_self, Nat.reduceEqDiff, Nat.reduceMul, reduceIte, kdT, ixT, w_cl, w_ti, w_s1, w_a, w_m12, w_m8, w_m3, w_m4, c_misRole hM0 hP0, c_misActor hA0, cd, c1, c_misAble hM0 hA0 hP0 hia hn12 hm, Bool.true_eq_false]
      have cd2 : ¬ (decide (0 ≤ (i : Int) ∧ (i : Int) < (na : Int)) = false) := by simp; omega
      rw [if_neg cd2]
      cases abl_ F G P i n m <;> simp [b2_]
    · have c3 : isR_ P p r = false := by simpa using c1
      rw [if_neg (fun z => c1 z.2)]
      simp (disch := first | omega | assumption | decide) only [s120_0, s120_1, s120_2, s120_5, s120_6, s120_7, s120_10, s120_13, s120_14, s120_15, s120_16, s120_19, s120_22, s120_23, s120_25, s120_26, s120_27, s120_28, s120_31, s120_34, s120_35, s120_38, s120_39, K_v, K_0, acI, acA, acJ, acX, List.map_cons, List.map_nil, List.sum_cons, List.sum_nil, true_and, and_true, posT, b2_0, b2_1, bft, true_or, or_true, Nat.zero_le, Nat.reduceAdd, Nat.reduceLeDiff, hI_uI, hL_uI, hR_uI, nx_uI, sl_uI, hI_uL, hL_uL, hR_uL, nx_uL, sl_uL, hI_uR, hL_uR, hR_uR, nx_uR, sl_uR, st_eq, if_true, if_false, eq_self, Nat.reduceEqDiff, Nat.reduceMul, reduceIte, kdT, ixT, w_cl, w_ti, w_s1, w_a, w_m12, w_m8, w_m3, w_m4, c_misRole hM0 hP0, c_misActor hA0, cd, c3, Bool.true_eq_false]
  · have cd : decide (0 ≤ a.toInt ∧ a.toInt < (na : Int)) = false := decide_eq_false c0
    rw [if_neg (fun z => c0 z.1)]
    simp (disch := first | omega | assumption | decide) only [s120_0, s120_1, s120_2, s120_5, s120_6, s120_7, s120_10, s120_14, s120_15, s120_16, s120_19, s120_22, s120_23, s120_25, s120_26, s120_27, s120_28, s120_31, s120_34, s120_35, s120_38, s120_39, K_v, K_0, acI, acA, acJ, acX, List.map_cons, List.map_nil, List.sum_cons, List.sum_nil, true_and, and_true, posT, b2_0, b2_1, bft, true_or, or_true, Nat.zero_le, Nat.reduceAdd, Nat.reduceLeDiff, hI_uI, hL_uI, hR_uI, nx_uI, sl_uI, hI_uL, hL_uL, hR_uL, nx_uL, sl_uL, hI_uR, hL_uR, hR_uR, nx_uR, sl_uR, st_eq, if_true, if_false, eq_self, Nat.reduceEqDiff, Nat.reduceMul, reduceIte, kdT, ixT, w_cl, w_ti, w_s1, w_a, w_m12, w_m8, w_m3, w_m4, c_misActor hA0, cd]
end MPC
