/-! the model: plays, comes; facts -/
section MLD
variable {xs : Nat → Int32} {d : Nat} {h : AH} {P : PS} {Q : OU_ → AH → Prop} {na : Nat} {F G : Nat → Nat → Int32}
def okG_ (na : Nat) (a k g : Int32) : Bool := decide (0 ≤ a.toInt ∧ a.toInt < na) && (wi_ k 0 11 && wi_ g 0 9)
theorem m_plays {a k g : Int32} (hM : MS_ h) (hA : MA_ na F G h) (hd : 2 ≤ d) : ∃ h', FM_ [35136528] [0] h h' ∧ hI_ h' 33554440 0 = 0 ∧
    (if okG_ na a k g = true then Do_ xs d 113 [vA (some 33554440), vI a, vI k, vI g] h (some (some (vI 1))) h' ∧ MA_ na F (up2_ G a.toNatClampNeg k.toNatClampNeg g) h'
     else Do_ xs d 113 [vA (some 33554440), vI a, vI k, vI g] h (some (some (vI 0))) h' ∧ MA_ na F G h') := by
  obtain ⟨e1, e2, e3, e4⟩ := id hA
  have hA0 : MA_ na F G (uI_ h 33554440 (st_ (hI_ h 33554440) 0 0)) := hA.u0
  by_cases c : okG_ na a k g = true
  · simp only [if_pos c]
    unfold okG_ at c
    rw [Bool.and_eq_true, Bool.and_eq_true, decide_eq_true_iff] at c
    obtain ⟨⟨c1, c2⟩, c3, c4⟩ := c
    obtain ⟨i, rfl, hi1, hi2⟩ := w_of c1
    have c5 := wi_t.mp c3
    obtain ⟨j, rfl, hj1, hj2⟩ := w_of (x := k) (by have : (0 : Int32).toInt = 0 := rfl; omega)
    have z11 : (11 : Int32).toInt = 11 := rfl
    have hj : j < 12 := by omega
    have hi : i < na := by omega
    have cd : decide (0 ≤ (i : Int) ∧ (i : Int) < (na : Int)) = true := decide_eq_true (by omega)
    rw [w_cl hi2, w_cl hj2]
    refine ⟨uI_ (uI_ h 33554440 (st_ (hI_ h 33554440) 0 0)) 35136528 (st_ (hI_ h 35136528) (12 * i + j) g), (FM_.rf.uM (by decide)).uW (by decide) (by decide), by simp only [hI_uI, hL_uI, hR_uI, nx_uI, sl_uI, hI_uL, hL_uL, hR_uL, nx_uL, sl_uL, hI_uR, hL_uR, hR_uR, nx_uR, sl_uR, st_eq, if_true, if_false, eq_self, Nat.reduceEqDiff, Nat.reduceMul, reduceIte, kdT, ixT, w_cl, w_ti, w_s1, w_a, w_m12, w_m8, w_m3, w_m4], fun Q => ?_, ?_⟩
    · simp (disch := first | omega | assumption | decide) only [s113_0, s113_1, s113_2, s113_5, s113_6, s113_7, s113_10, s113_13, s113_14, s113_15, s113_17, s113_20, s113_23, s113_24, s113_25, s113_27, s113_30, s113_33, s113_34, s113_35, s113_36, s113_39, s113_41, s113_42, s113_43, s113_44, s113_45, s113_46, s113_47, s113_48, K_v, K_0, acI, acA, acJ, acX, List.map_cons, List.map_nil, List.sum_cons, List.sum_nil, true_and, and_true, posT, b2_0, b2_1, bft, true_or, or_true, Nat.zero_le, Nat.reduceAdd, Nat.reduceLeDiff, hI_uI, hL_uI, hR_uI, nx_uI, sl_uI, hI_uL, hL_uL, hR_uL, nx_uL, sl_uL, hI_uR, hL_uR, hR_uR, nx_uR, sl_uR, st_eq, if_true, if_false, eq_self, Nat.reduceEqDiff, Nat.reduceMul, reduceIte, kdT, ixT, w_cl, w_ti, w_s1, w_a, w_m12, w_m8, w_m3, w_m4, hM.r2, hM.r3, hM.r4, hM.r5, hM.r6, hM.r7, hM.r9, hM.r10, hM.r11, hM.r12, hM.r13, hM.r14, hM.r15, hM.r16, hM.r17, hM.r18, hM.r20, hM.r21, hM.r23, hM.r29, hM.r30, hM.r35, hM.r36, hM.r37, hM.r38, hM.r40, hM.r42, hM.r43, hM.r44, hM.r45, hM.r46, hM.r47, c_misActor hA0, c_mwithin, cd, c3, c4, kd_mGrade, ln_mGrade, Bool.true_eq_false]
    · refine ⟨by simp only [hI_uI, hL_uI, hR_uI, nx_uI, sl_uI, hI_uL, hL_uL, hR_uL, nx_uL, sl_uL, hI_uR, hL_uR, hR_uR, nx_uR, sl_uR, st_eq, if_true, if_false, eq_self, Nat.reduceEqDiff, Nat.reduceMul, reduceIte, kdT, ixT, w_cl, w_ti, w_s1, w_a, w_m12, w_m8, w_m3, w_m4]; exact e1, e2, fun q hq => by simp only [hI_uI, hL_uI, hR_uI, nx_uI, sl_uI, hI_uL, hL_uL, hR_uL, nx_uL, sl_uL, hI_uR, hL_uR, hR_uR, nx_uR, sl_uR, st_eq, if_true, if_false, eq_self, Nat.reduceEqDiff, Nat.reduceMul, reduceIte, kdT, ixT, w_cl, w_ti, w_s1, w_a, w_m12, w_m8, w_m3, w_m4]; exact e3 q hq, fun q r hq hr => ?_⟩
      simp only [hI_uI, hL_uI, hR_uI, nx_uI, sl_uI, hI_uL, hL_uL, hR_uL, nx_uL, sl_uL, hI_uR, hL_uR, hR_uR, nx_uR, sl_uR, st_eq, if_true, if_false, eq_self, Nat.reduceEqDiff, Nat.reduceMul, reduceIte, kdT, ixT, w_cl, w_ti, w_s1, w_a, w_m12, w_m8, w_m3, w_m4]
      unfold up2_
      by_cases q1 : q = i ∧ r = j
      · rw [if_pos (by omega), if_pos q1]
      · rw [if_neg (fun z => q1 (by omega)), if_neg q1]
        exact e4 q r hq hr
  · simp only [if_neg c]
    refine ⟨uI_ h 33554440 (st_ (hI_ h 33554440) 0 0), FM_.rf.uM (by decide), by simp only [hI_uI, hL_uI, hR_uI, nx_uI, sl_uI, hI_uL, hL_uL, hR_uL, nx_uL, sl_uL, hI_uR, hL_uR, hR_uR, nx_uR, sl_uR, st_eq, if_true, if_false, eq_self, Nat.reduceEqDiff, Nat.reduceMul, reduceIte, kdT, ixT, w_cl, w_ti, w_s1, w_a, w_m12, w_m8, w_m3, w_m4], fun Q => ?_, hA0⟩
    unfold okG_ at c
    rw [Bool.and_eq_true, Bool.and_eq_true] at c
    simp (disch := first | omega | assumption | decide) only [s113_0, s113_1, s113_2, s113_5, s113_6, s113_7, s113_10, s113_13, s113_14, s113_15, s113_17, s113_20, s113_23, s113_24, s113_25, s113_27, s113_30, s113_33, s113_34, s113_36, s113_39, s113_41, s113_42, s113_43, s113_44, s113_45, s113_46, s113_47, s113_48, K_v, K_0, acI, acA, acJ, acX, List.map_cons, List.map_nil, List.sum_cons, List.sum_nil, true_and, and_true, posT, b2_0, b2_1, bft, true_or, or_true, Nat.zero_le, Nat.reduceAdd, Nat.reduceLeDiff, hI_uI, hL_uI, hR_uI, nx_uI, sl_uI, hI_uL, hL_uL, hR_uL, nx_uL, sl_uL, hI_uR, hL_uR, hR_uR, nx_uR, sl_uR, st_eq, if_true, if_false, eq_self, Nat.reduceEqDiff, Nat.reduceMul, reduceIte, kdT, ixT, w_cl, w_ti, w_s1, w_a, w_m12, w_m8, w_m3, w_m4, c_misActor hA0, c_mwithin]
    by_cases q1 : decide (0 ≤ a.toInt ∧ a.toInt < (na : Int)) = false
    · rw [if_pos q1]
    · rw [if_neg q1]
      by_cases q2 : wi_ k 0 11 = false
      · rw [if_pos q2]
      · rw [if_neg q2]
        by_cases q3 : wi_ g 0 9 = false
        · rw [if_pos q3]
        · exact absurd ⟨Bool.not_eq_false _ ▸ q1, Bool.not_eq_false _ ▸ q2, Bool.not_eq_false _ ▸ q3⟩ c
theorem m_comes {a g : Int32} (hM : MS_ h) (hA : MA_ na F G h) (hg : g = 0 ∨ g = 1) (hd : 2 ≤ d) : ∃ h', FM_ [34865938] [0] h h' ∧ hI_ h' 33554440 0 = 0 ∧
    (if 0 ≤ a.toInt ∧ a.toInt < na then Do_ xs d 114 [vA (some 33554440), vI a, vI g] h (some (some (vI 1))) h' ∧ MA_ na (up2_ F a.toNatClampNeg 4 g) G h'
     else Do_ xs d 114 [vA (some 33554440), vI a, vI g] h (some (some (vI 0))) h' ∧ MA_ na F G h') := by
  obtain ⟨e1, e2, e3, e4⟩ := id hA
  have hA0 : MA_ na F G (uI_ h 33554440 (st_ (hI_ h 33554440) 0 0)) := hA.u0
  have hb1 : kd_ 34865938 = 17 ∧ nb_ 4 g = true ∨ kd_ 34865938 = 18 ∧ nb_ 3 g = true := Or.inr ⟨rfl, nb_3.mpr hg⟩
  by_cases c : 0 ≤ a.toInt ∧ a.toInt < na
  · simp only [if_pos c]
    obtain ⟨i, rfl, hi1, hi2⟩ := w_of c.1
    have hi : i < na := by omega
    have cd : decide (0 ≤ (i : Int) ∧ (i : Int) < (na : Int)) = true := decide_eq_true (by omega)
    rw [w_cl hi2]
    refine ⟨uI_ (uI_ h 33554440 (st_ (hI_ h 33554440) 0 0)) 34865938 (st_ (hI_ h 34865938) i g), (FM_.rf.uM (by decide)).uW (by decide) (by decide), by simp only [hI_uI, hL_uI, hR_uI, nx_uI, sl_uI, hI_uL, hL_uL, hR_uL, nx_uL, sl_uL, hI_uR, hL_uR, hR_uR, nx_uR, sl_uR, st_eq, if_true, if_false, eq_self, Nat.reduceEqDiff, Nat.reduceMul, reduceIte, kdT, ixT, w_cl, w_ti, w_s1, w_a, w_m12, w_m8, w_m3, w_m4], fun Q => ?_, ?_⟩
    · simp (disch := first | omega | assumption | decide) only [s114_0, s114_1, s114_2, s114_5, s114_6, s114_7, s114_10, s114_13, s114_14, s114_15, s114_16, s114_19, s114_20, s114_21, s114_22, s114_23, K_v, K_0, acI, acA, acJ, acX, List.map_cons, List.map_nil, List.sum_cons, List.sum_nil, true_and, and_true, posT, b2_0, b2_1, bft, true_or, or_true, Nat.zero_le, Nat.reduceAdd, Nat.reduceLeDiff, hI_uI, hL_uI, hR_uI, nx_uI, sl_uI, hI_uL, hL_uL, hR_uL, nx_uL, sl_uL, hI_uR, hL_uR, hR_uR, nx_uR, sl_uR, st_eq, if_true, if_false, eq_self, Nat.reduceEqDiff, Nat.reduceMul, reduceIte, kdT, ixT, w_cl, w_ti, w_s1, w_a, w_m12, w_m8, w_m3, w_m4, hM.r2, hM.r3, hM.r4, hM.r5, hM.r6, hM.r7, hM.r9, hM.r10, hM.r11, hM.r12, hM.r13, hM.r14, hM.r15, hM.r16, hM.r17, hM.r18, hM.r20, hM.r21, hM.r23, hM.r29, hM.r30, hM.r35, hM.r36, hM.r37, hM.r38, hM.r40, hM.r42, hM.r43, hM.r44, hM.r45, hM.r46, hM.r47, c_misActor hA0, cd, kd_mIn, ln_mIn, Bool.true_eq_false]
    · refine ⟨by simp only [hI_uI, hL_uI, hR_uI, nx_uI, sl_uI, hI_uL, hL_uL, hR_uL, nx_uL, sl_uL, hI_uR, hL_uR, hR_uR, nx_uR, sl_uR, st_eq, if_true, if_false, eq_self, Nat.reduceEqDiff, Nat.reduceMul, reduceIte, kdT, ixT, w_cl, w_ti, w_s1, w_a, w_m12, w_m8, w_m3, w_m4]; exact e1, e2, fun q hq => ?_, fun q r hq hr => by simp only [hI_uI, hL_uI, hR_uI, nx_uI, sl_uI, hI_uL, hL_uL, hR_uL, nx_uL, sl_uL, hI_uR, hL_uR, hR_uR, nx_uR, sl_uR, st_eq, if_true, if_false, eq_self, Nat.reduceEqDiff, Nat.reduceMul, reduceIte, kdT, ixT, w_cl, w_ti, w_s1, w_a, w_m12, w_m8, w_m3, w_m4]; exact e4 q r hq hr⟩
      simp only [hI_uI, hL_uI, hR_uI, nx_uI, sl_uI, hI_uL, hL_uL, hR_uL, nx_uL, sl_uL, hI_uR, hL_uR, hR_uR, nx_uR, sl_uR, st_eq, if_true, if_false, eq_self, Nat.reduceEqDiff, Nat.reduceMul, reduceIte, kdT, ixT, w_cl, w_ti, w_s1, w_a, w_m12, w_m8, w_m3, w_m4, up2_, and_false, and_true]
      obtain ⟨g1, g2, g3, g4, g5⟩ := e3 q hq
      refine ⟨g1, g2, g3, g4, ?_⟩
      by_cases q1 : q = i
      · rw [if_pos q1, if_pos q1]
      · rw [if_neg q1, if_neg q1]; exact g5
  · simp only [if_neg c]
    have cd : decide (0 ≤ a.toInt ∧ a.toInt < (na : Int)) = false := decide_eq_false c
    refine ⟨uI_ h 33554440 (st_ (hI_ h 33554440) 0 0), FM_.rf.uM (by decide), by simp only [hI_uI, hL_uI, hR_uI, nx_uI, sl_uI, hI_uL, hL_uL, hR_uL, nx_uL, sl_uL, hI_uR, hL_uR, hR_uR, nx_uR, sl_uR, st_eq, if_true, if_false, eq_self, Nat.reduceEqDiff, Nat.reduceMul, reduceIte, kdT, ixT, w_cl, w_ti, w_s1, w_a, w_m12, w_m8, w_m3, w_m4], fun Q => ?_, hA0⟩
    simp (disch := first | omega | assumption | decide) only [s114_0, s114_1, s114_2, s114_5, s114_6, s114_7, s114_10, s114_13, s114_14, s114_16, s114_19, s114_20, s114_21, s114_22, s114_23, K_v, K_0, acI, acA, acJ, acX, List.map_cons, List.map_nil, List.sum_cons, List.sum_nil, true_and, and_true, posT, b2_0, b2_1, bft, true_or, or_true, Nat.zero_le, Nat.reduceAdd, Nat.reduceLeDiff, hI_uI, hL_uI, hR_uI, nx_uI, sl_uI, hI_uL, hL_uL, hR_uL, nx_uL, sl_uL, hI_uR, hL_uR, hR_uR, nx_uR, sl_uR, st_eq, if_true, if_false, eq_self, Nat.reduceEqDiff, Nat.reduceMul, reduceIte, kdT, ixT, w_cl, w_ti, w_s1, w_a, w_m12, w_m8, w_m3, w_m4, c_misActor hA0, cd]
/-! facts -/
def ML_ (nf : Nat) (L : Nat → Nat → Int32) (h : AH) : Prop := hI_ h 33554440 34 = Int32.ofNat nf ∧ nf ≤ 200 ∧ ∀ i, i < nf → hI_ h 39858704 i = L i 0 ∧ hI_ h 40120848 i = L i 1 ∧ hI_ h 40382992 i = L i 2
theorem ML_.eq {nf : Nat} {L : Nat → Nat → Int32} {h h1 : AH} (e0 : hI_ h1 33554440 34 = hI_ h 33554440 34) (e1 : hI_ h1 39858704 = hI_ h 39858704) (e2 : hI_ h1 40120848 = hI_ h 40120848) (e3 : hI_ h1 40382992 = hI_ h 40382992) (H : ML_ nf L h) : ML_ nf L h1 := by
  unfold ML_ at H ⊢
  rw [e0, e1, e2, e3]
  exact H
def okF_ (nf : Nat) (it da ho : Int32) : Bool := decide (nf < 200) && (wi_ it 0 19 && (wi_ da (-100000) 100000 && wi_ ho (-2) 11))
def fl3_ (it da ho : Int32) : Nat → Int32 := fun j => if j = 0 then it else if j = 1 then da else ho
theorem m_fact {nf : Nat} {L : Nat → Nat → Int32} {it da ho : Int32} (hM : MS_ h) (hL : ML_ nf L h) (hd : 2 ≤ d) : ∃ h', FM_ [39858704, 40120848, 40382992] [0, 34] h h' ∧ hI_ h' 33554440 0 = 0 ∧
    (if okF_ nf it da ho = true then Do_ xs d 143 [vA (some 33554440), vI it, vI da, vI ho] h (some (some (vI (Int32.ofNat nf)))) h' ∧ ML_ (nf + 1) (upF_ L nf (fl3_ it da ho)) h'
     else Do_ xs d 143 [vA (some 33554440), vI it, vI da, vI ho] h (some (some (vI (-1)))) h' ∧ ML_ nf L h') := by
  obtain ⟨e1, e2, e3⟩ := id hL
  by_cases c : okF_ nf it da ho = true
  · simp only [if_pos c]
    unfold okF_ at c
    rw [Bool.and_eq_true, Bool.and_eq_true, Bool.and_eq_true, decide_eq_true_iff] at c
    obtain ⟨c1, c3, c4, c5⟩ := c
    have hne : ¬ (Int32.ofNat nf = 200) := by rw [e200 (by omega)]; omega
    refine ⟨uI_ (uI_ (uI_ (uI_ (uI_ h 33554440 (st_ (hI_ h 33554440) 0 0)) 39858704 (st_ (hI_ h 39858704) nf it)) 40120848 (st_ (hI_ h 40120848) nf da)) 40382992 (st_ (hI_ h 40382992) nf ho)) 33554440 (st_ (st_ (hI_ h 33554440) 0 0) 34 (Int32.ofNat (nf + 1))), ?_, ?_, fun Q => ?_, ?_⟩
    · exact ((((FM_.rf.uM (by decide)).uW (by decide) (by decide)).uW (by decide) (by decide)).uW (by decide) (by decide)).uM (j := 34) (by decide)
    · simp only [hI_uI, hL_uI, hR_uI, nx_uI, sl_uI, hI_uL, hL_uL, hR_uL, nx_uL, sl_uL, hI_uR, hL_uR, hR_uR, nx_uR, sl_uR, st_eq, if_true, if_false, eq_self, Nat.reduceEqDiff, Nat.reduceMul, reduceIte, kdT, ixT, w_cl, w_ti, w_s1, w_a, w_m12, w_m8, w_m3, w_m4]
    · simp (disch := first | omega | assumption | decide) only [s143_0, s143_1, s143_2, s143_5, s143_6, s143_9, s143_12, s143_15, s143_16, s143_17, s143_19, s143_22, s143_25, s143_26, s143_28, s143_30, s143_33, s143_36, s143_37, s143_39, s143_41, s143_44, s143_47, s143_48, s143_49, s143_50, s143_53, s143_54, s143_57, s143_58, s143_59, s143_60, s143_63, s143_64, s143_67, s143_68, s143_69, s143_70, s143_73, s143_74, s143_77, s143_78, s143_79, s143_80, s143_80i, s143_81, s143_84, s143_85, s143_86, s143_89, s143_90, s143_93, s143_94, s143_95, K_v, K_0, acI, acA, acJ, acX, List.map_cons, List.map_nil, List.sum_cons, List.sum_nil, true_and, and_true, posT, b2_0, b2_1, bft, true_or, or_true, Nat.zero_le, Nat.reduceAdd, Nat.reduceLeDiff, hI_uI, hL_uI, hR_uI, nx_uI, sl_uI, hI_uL, hL_uL, hR_uL, nx_uL, sl_uL, hI_uR, hL_uR, hR_uR, nx_uR, sl_uR, st_eq, if_true, if_false, eq_self, Nat.reduceEqDiff, Nat.reduceMul, reduceIte, kdT, ixT, w_cl, w_ti, w_s1, w_a, w_m12, w_m8, w_m3, w_m4, hM.r2, hM.r3, hM.r4, hM.r5, hM.r6, hM.r7, hM.r9, hM.r10, hM.r11, hM.r12, hM.r13, hM.r14, hM.r15, hM.r16, hM.r17, hM.r18, hM.r20, hM.r21, hM.r23, hM.r29, hM.r30, hM.r35, hM.r36, hM.r37, hM.r38, hM.r40, hM.r42, hM.r43, hM.r44, hM.r45, hM.r46, hM.r47, e1, c_mwithin, c3, c4, c5, hne, kd_mFI, ln_mFI, kd_mFD, ln_mFD, kd_mFH, ln_mFH, Bool.true_eq_false]
      rw [w_p1 (by omega)]
      rfl
    · refine ⟨by simp only [hI_uI, hL_uI, hR_uI, nx_uI, sl_uI, hI_uL, hL_uL, hR_uL, nx_uL, sl_uL, hI_uR, hL_uR, hR_uR, nx_uR, sl_uR, st_eq, if_true, if_false, eq_self, Nat.reduceEqDiff, Nat.reduceMul, reduceIte, kdT, ixT, w_cl, w_ti, w_s1, w_a, w_m12, w_m8, w_m3, w_m4], by omega, fun p hp => ?_⟩
      simp only [hI_uI, hL_uI, hR_uI, nx_uI, sl_uI, hI_uL, hL_uL, hR_uL, nx_uL, sl_uL, hI_uR, hL_uR, hR_uR, nx_uR, sl_uR, st_eq, if_true, if_false, eq_self, Nat.reduceEqDiff, Nat.reduceMul, reduceIte, kdT, ixT, w_cl, w_ti, w_s1, w_a, w_m12, w_m8, w_m3, w_m4, upF_, fl3_]
      by_cases q : p = nf
      · simp only [if_pos q, true_and]
      · simp only [if_neg q]
        exact e3 p (by omega)
  · simp only [if_neg c]
    refine ⟨uI_ h 33554440 (st_ (hI_ h 33554440) 0 0), FM_.rf.uM (by decide), by simp only [hI_uI, hL_uI, hR_uI, nx_uI, sl_uI, hI_uL, hL_uL, hR_uL, nx_uL, sl_uL, hI_uR, hL_uR, hR_uR, nx_uR, sl_uR, st_eq, if_true, if_false, eq_self, Nat.reduceEqDiff, Nat.reduceMul, reduceIte, kdT, ixT, w_cl, w_ti, w_s1, w_a, w_m12, w_m8, w_m3, w_m4], fun Q => ?_, ML_.eq (by simp only [hI_uI, hL_uI, hR_uI, nx_uI, sl_uI, hI_uL, hL_uL, hR_uL, nx_uL, sl_uL, hI_uR, hL_uR, hR_uR, nx_uR, sl_uR, st_eq, if_true, if_false, eq_self, Nat.reduceEqDiff, Nat.reduceMul, reduceIte, kdT, ixT, w_cl, w_ti, w_s1, w_a, w_m12, w_m8, w_m3, w_m4]) (by simp only [hI_uI, hL_uI, hR_uI, nx_uI, sl_uI, hI_uL, hL_uL, hR_uL, nx_uL, sl_uL, hI_uR, hL_uR, hR_uR, nx_uR, sl_uR, st_eq, if_true, if_false, eq_self, Nat.reduceEqDiff, Nat.reduceMul, reduceIte, kdT, ixT, w_cl, w_ti, w_s1, w_a, w_m12, w_m8, w_m3, w_m4]) (by simp only [hI_uI, hL_uI, hR_uI, nx_uI, sl_uI, hI_uL, hL_uL, hR_uL, nx_uL, sl_uL, hI_uR, hL_uR, hR_uR, nx_uR, sl_uR, st_eq, if_true, if_false, eq_self, Nat.reduceEqDiff, Nat.reduceMul, reduceIte, kdT, ixT, w_cl, w_ti, w_s1, w_a, w_m12, w_m8, w_m3, w_m4]) (by simp only [hI_uI, hL_uI, hR_uI, nx_uI, sl_uI, hI_uL, hL_uL, hR_uL, nx_uL, sl_uL, hI_uR, hL_uR, hR_uR, nx_uR, sl_uR, st_eq, if_true, if_false, eq_self, Nat.reduceEqDiff, Nat.reduceMul, reduceIte, kdT, ixT, w_cl, w_ti, w_s1, w_a, w_m12, w_m8, w_m3, w_m4]) hL⟩
    simp (disch := first | omega | assumption | decide) only [s143_0, s143_1, s143_2, s143_5, s143_6, s143_9, s143_12, s143_15, s143_16, s143_17, s143_19, s143_22, s143_25, s143_26, s143_28, s143_30, s143_33, s143_36, s143_37, s143_39, s143_41, s143_44, s143_47, s143_48, s143_50, s143_53, s143_54, s143_57, s143_58, s143_59, s143_60, s143_63, s143_64, s143_67, s143_68, s143_69, s143_70, s143_73, s143_74, s143_77, s143_78, s143_79, s143_80, s143_80i, s143_81, s143_84, s143_85, s143_86, s143_89, s143_90, s143_93, s143_94, s143_95, K_v, K_0, acI, acA, acJ, acX, List.map_cons, List.map_nil, List.sum_cons, List.sum_nil, true_and, and_true, posT, b2_0, b2_1, bft, true_or, or_true, Nat.zero_le, Nat.reduceAdd, Nat.reduceLeDiff, hI_uI, hL_uI, hR_uI, nx_uI, sl_uI, hI_uL, hL_uL, hR_uL, nx_uL, sl_uL, hI_uR, hL_uR, hR_uR, nx_uR, sl_uR, st_eq, if_true, if_false, eq_self, Nat.reduceEqDiff, Nat.reduceMul, reduceIte, kdT, ixT, w_cl, w_ti, w_s1, w_a, w_m12, w_m8, w_m3, w_m4, e1, c_mwithin, e200]
    by_cases q1 : nf = 200
    · rw [if_pos q1]
    · rw [if_neg q1]
      unfold okF_ at c
      rw [Bool.and_eq_true, Bool.and_eq_true, Bool.and_eq_true, decide_eq_true_iff] at c
      by_cases q2 : wi_ it 0 19 = false
      · rw [if_pos q2]
      · rw [if_neg q2]
        by_cases q3 : wi_ da (-100000) 100000 = false
        · rw [if_pos q3]
        · rw [if_neg q3]
          by_cases q4 : wi_ ho (-2) 11 = false
          · rw [if_pos q4]
          · exact absurd ⟨by omega, by simpa using q2, by simpa using q3, by simpa using q4⟩ c
/-- one fact more: the one that tells where an item is -/
def fst_ (L : Nat → Nat → Int32) (it da : Int32) (k : Nat) (o : Option Nat) : Option Nat := if ¬ L k 0 = it ∨ da < L k 1 then o else match o with
  | none => some k
  | some j => if L k 1 < L j 1 then some j else some k
def oi_ (o : Option Nat) : Int32 := match o with
  | none => -1
  | some j => Int32.ofNat j
def hof_ (L : Nat → Nat → Int32) (it da : Int32) (n : Nat) : Option Nat := it_ (fst_ L it da) n 0 none
def hol_ (L : Nat → Nat → Int32) (it da : Int32) (n : Nat) : Int32 := match hof_ L it da n with
  | none => -3
  | some j => L j 2
theorem oi_m1 {j : Nat} (h : j < 2147483648) : ¬ (Int32.ofNat j = -1) := by
  intro e
  have := congrArg Int32.toInt e
  rw [w_ti h] at this
  have : (-1 : Int32).toInt = -1 := rfl
  omega
theorem c_mholder {nf n : Nat} {L : Nat → Nat → Int32} {it da : Int32} (hM : MS_ h) (hL : ML_ nf L h) (hn : n ≤ nf) : V_ xs d 144 0 [vA (some 33554440), vI it, vI da, vI (Int32.ofNat n), vX 0, vX 0] [] h Q ↔ Q (some (some (vI (hol_ L it da n)))) h := by
  obtain ⟨e1, e2, e3⟩ := id hL
  have L9 := loop_ (P := fun k o => V_ xs d 144 6 [vA (some 33554440), vI it, vI da, vI (Int32.ofNat n), vI (oi_ o), vI (Int32.ofNat k)] [] h Q) (f := fst_ L it da) (n := n) (fun k o => ∀ j, o = some j → j < k) (fun k o hk hi => by
    obtain ⟨g1, g2, g3⟩ := e3 k (by omega)
    constructor
    · rw [s144_6]
      cases o with
      | none =>
        simp (disch := first | omega | assumption | decide) only [s144_0, s144_1, s144_3, s144_4, s144_8, s144_9, s144_12, s144_13, s144_16, s144_18, s144_19, s144_20, s144_23, s144_24, s144_27, s144_29, s144_30, s144_31, s144_34, s144_37, s144_39, s144_40, s144_43, s144_44, s144_47, s144_49, s144_50, s144_51, s144_54, s144_56, s144_57, s144_60, s144_62, s144_64, s144_67, s144_70, s144_72, s144_73, s144_76, s144_78, s144_81, s144_82, s144_85, s144_87, s144_88, K_v, K_0, acI, acA, acJ, acX, List.map_cons, List.map_nil, List.sum_cons, List.sum_nil, true_and, and_true, posT, b2_0, b2_1, bft, true_or, or_true, Nat.zero_le, Nat.reduceAdd, Nat.reduceLeDiff, hI_uI, hL_uI, hR_uI, nx_uI, sl_uI, hI_uL, hL_uL, hR_uL, nx_uL, sl_uL, hI_uR, hL_uR, hR_uR, nx_uR, sl_uR, st_eq, if_true, if_false, eq_self, Nat.reduceEqDiff, Nat.reduceMul, reduceIte, kdT, ixT, w_cl, w_ti, w_s1, w_a, w_m12, w_m8, w_m3, w_m4, hM.r2, hM.r3, hM.r4, hM.r5, hM.r6, hM.r7, hM.r9, hM.r10, hM.r11, hM.r12, hM.r13, hM.r14, hM.r15, hM.r16, hM.r17, hM.r18, hM.r20, hM.r21, hM.r23, hM.r29, hM.r30, hM.r35, hM.r36, hM.r37, hM.r38, hM.r40, hM.r42, hM.r43, hM.r44, hM.r45, hM.r46, hM.r47, g1, g2, oi_, w_lt, kd_mFI, ln_mFI, kd_mFD, ln_mFD]
        rw [if_pos hk]
        unfold fst_
        by_cases q1 : L k 0 = it
        · rw [if_pos q1]
          by_cases q2 : da < L k 1
          · rw [if_pos q2, if_pos (Or.inr q2)]
          · rw [if_neg q2, if_neg (fun z => z.elim (fun y => y q1) q2)]
        · rw [if_neg q1, if_pos (Or.inl q1)]
      | some j =>
        have hj := hi j rfl
        obtain ⟨g4, g5, g6⟩ := e3 j (by omega)
        have hm1 := oi_m1 (show j < 2147483648 by omega)
        simp (disch := first | omega | assumption | decide) only [s144_0, s144_1, s144_3, s144_4, s144_8, s144_9, s144_12, s144_13, s144_16, s144_18, s144_19, s144_20, s144_23, s144_24, s144_27, s144_29, s144_30, s144_31, s144_34, s144_37, s144_39, s144_40, s144_43, s144_44, s144_47, s144_49, s144_50, s144_51, s144_54, s144_56, s144_57, s144_60, s144_62, s144_64, s144_67, s144_70, s144_72, s144_73, s144_76, s144_78, s144_81, s144_82, s144_85, s144_87, s144_88, K_v, K_0, acI, acA, acJ, acX, List.map_cons, List.map_nil, List.sum_cons, List.sum_nil, true_and, and_true, posT, b2_0, b2_1, bft, true_or, or_true, Nat.zero_le, Nat.reduceAdd, Nat.reduceLeDiff, hI_uI, hL_uI, hR_uI, nx_uI, sl_uI, hI_uL, hL_uL, hR_uL, nx_uL, sl_uL, hI_uR, hL_uR, hR_uR, nx_uR, sl_uR, st_eq, if_true, if_false, eq_self, Nat.reduceEqDiff, Nat.reduceMul, reduceIte, kdT, ixT, w_cl, w_ti, w_s1, w_a, w_m12, w_m8, w_m3, w_m4, hM.r2, hM.r3, hM.r4, hM.r5, hM.r6, hM.r7, hM.r9, hM.r10, hM.r11, hM.r12, hM.r13, hM.r14, hM.r15, hM.r16, hM.r17, hM.r18, hM.r20, hM.r21, hM.r23, hM.r29, hM.r30, hM.r35, hM.r36, hM.r37, hM.r38, hM.r40, hM.r42, hM.r43, hM.r44, hM.r45, hM.r46, hM.r47, g1, g2, g5, oi_, hm1, w_lt, kd_mFI, ln_mFI, kd_mFD, ln_mFD]
        rw [if_pos hk]
        unfold fst_
        by_cases q1 : L k 0 = it
        · rw [if_pos q1]
          by_cases q2 : da < L k 1
          · rw [if_pos q2, if_pos (Or.inr q2)]
          · have q12 : ¬ (¬ L k 0 = it ∨ da < L k 1) := fun z => z.elim (fun y => y q1) q2
            rw [if_neg q2]
            by_cases q3 : L k 1 < L j 1
            · simp only [if_pos q3, if_neg q12]
            · simp only [if_neg q3, if_neg q12]
        · rw [if_neg q1, if_pos (Or.inl q1)]
    · intro j hj
      unfold fst_ at hj
      split at hj
      · have := hi j hj; omega
      · split at hj
        · cases hj; omega
        · rename_i j0
          have := hi j0 rfl
          split at hj
          · cases hj; omega
          · cases hj; omega) n 0 none (by omega) (fun j hj => by cases hj)
  obtain ⟨L1, L2⟩ := L9
  simp (disch := first | omega | assumption | decide) only [s144_0, s144_1, s144_3, s144_4, s144_8, s144_9, s144_12, s144_13, s144_16, s144_18, s144_19, s144_20, s144_23, s144_24, s144_27, s144_29, s144_30, s144_31, s144_34, s144_37, s144_39, s144_40, s144_43, s144_44, s144_47, s144_49, s144_50, s144_51, s144_54, s144_56, s144_57, s144_60, s144_62, s144_64, s144_67, s144_70, s144_72, s144_73, s144_76, s144_78, s144_81, s144_82, s144_85, s144_87, s144_88, K_v, K_0, acI, acA, acJ, acX, List.map_cons, List.map_nil, List.sum_cons, List.sum_nil, true_and, and_true, posT, b2_0, b2_1, bft, true_or, or_true, Nat.zero_le, Nat.reduceAdd, Nat.reduceLeDiff, hI_uI, hL_uI, hR_uI, nx_uI, sl_uI, hI_uL, hL_uL, hR_uL, nx_uL, sl_uL, hI_uR, hL_uR, hR_uR, nx_uR, sl_uR, st_eq, if_true, if_false, eq_self, Nat.reduceEqDiff, Nat.reduceMul, reduceIte, kdT, ixT, w_cl, w_ti, w_s1, w_a, w_m12, w_m8, w_m3, w_m4]
  refine (show V_ xs d 144 6 [vA (some 33554440), vI it, vI da, vI (Int32.ofNat n), vI (oi_ none), vI (Int32.ofNat 0)] [] h Q ↔ _ from L1).trans ?_
  rw [s144_6]
  unfold hol_ hof_
  cases ho : it_ (fst_ L it da) n 0 none with
  | none =>
    simp (disch := first | omega | assumption | decide) only [s144_0, s144_1, s144_3, s144_4, s144_8, s144_9, s144_12, s144_13, s144_16, s144_18, s144_19, s144_20, s144_23, s144_24, s144_27, s144_29, s144_30, s144_31, s144_34, s144_37, s144_39, s144_40, s144_43, s144_44, s144_47, s144_49, s144_50, s144_51, s144_54, s144_56, s144_57, s144_60, s144_62, s144_64, s144_67, s144_70, s144_72, s144_73, s144_76, s144_78, s144_81, s144_82, s144_85, s144_87, s144_88, K_v, K_0, acI, acA, acJ, acX, List.map_cons, List.map_nil, List.sum_cons, List.sum_nil, true_and, and_true, posT, b2_0, b2_1, bft, true_or, or_true, Nat.zero_le, Nat.reduceAdd, Nat.reduceLeDiff, hI_uI, hL_uI, hR_uI, nx_uI, sl_uI, hI_uL, hL_uL, hR_uL, nx_uL, sl_uL, hI_uR, hL_uR, hR_uR, nx_uR, sl_uR, st_eq, if_true, if_false, eq_self, Nat.reduceEqDiff, Nat.reduceMul, reduceIte, kdT, ixT, w_cl, w_ti, w_s1, w_a, w_m12, w_m8, w_m3, w_m4, oi_, w_lt]
    rw [if_neg (by omega)]
  | some j =>
    have hj := L2 j ho
    obtain ⟨g4, g5, g6⟩ := e3 j (by omega)
    have hm1 := oi_m1 (show j < 2147483648 by omega)
    simp (disch := first | omega | assumption | decide) only [s144_0, s144_1, s144_3, s144_4, s144_8, s144_9, s144_12, s144_13, s144_16, s144_18, s144_19, s144_20, s144_23, s144_24, s144_27, s144_29, s144_30, s144_31, s144_34, s144_37, s144_39, s144_40, s144_43, s144_44, s144_47, s144_49, s144_50, s144_51, s144_54, s144_56, s144_57, s144_60, s144_62, s144_64, s144_67, s144_70, s144_72, s144_73, s144_76, s144_78, s144_81, s144_82, s144_85, s144_87, s144_88, K_v, K_0, acI, acA, acJ, acX, List.map_cons, List.map_nil, List.sum_cons, List.sum_nil, true_and, and_true, posT, b2_0, b2_1, bft, true_or, or_true, Nat.zero_le, Nat.reduceAdd, Nat.reduceLeDiff, hI_uI, hL_uI, hR_uI, nx_uI, sl_uI, hI_uL, hL_uL, hR_uL, nx_uL, sl_uL, hI_uR, hL_uR, hR_uR, nx_uR, sl_uR, st_eq, if_true, if_false, eq_self, Nat.reduceEqDiff, Nat.reduceMul, reduceIte, kdT, ixT, w_cl, w_ti, w_s1, w_a, w_m12, w_m8, w_m3, w_m4, hM.r2, hM.r3, hM.r4, hM.r5, hM.r6, hM.r7, hM.r9, hM.r10, hM.r11, hM.r12, hM.r13, hM.r14, hM.r15, hM.r16, hM.r17, hM.r18, hM.r20, hM.r21, hM.r23, hM.r29, hM.r30, hM.r35, hM.r36, hM.r37, hM.r38, hM.r40, hM.r42, hM.r43, hM.r44, hM.r45, hM.r46, hM.r47, g6, oi_, hm1, w_lt, kd_mFH, ln_mFH]
    rw [if_neg (by omega)]
end MLD
