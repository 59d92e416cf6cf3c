/-! the model: worths, holds -/
section MWO
variable {xs : Nat → Int32} {d : Nat} {h x0 : AH} {na : Nat} {F G : Nat → Nat → Int32} {hp : Option Nat} {Hd : Nat → Int32} {a : Nat} {day : Int32} {r : Nat → Int32} {L : List Trm_}
theorem MA_.rl (hr : RL_ x0 r) (H : MA_ na F G x0) : MA_ na F G (uI_ x0 33554440 r) := MA_.eq (by simp only [hI_uI, hL_uI, hR_uI, nx_uI, sl_uI, hI_uL, hL_uL, hR_uL, nx_uL, sl_uL, hI_uR, hL_uR, hR_uR, nx_uR, sl_uR, st_eq, if_true, if_false, eq_self, Nat.reduceEqDiff, Nat.reduceMul, reduceIte, kdT, ixT, w_cl, w_ti, w_s1, w_a, w_m12, w_m8, w_m3, w_m4]; exact hr 1 (by decide)) (by simp only [hI_uI, hL_uI, hR_uI, nx_uI, sl_uI, hI_uL, hL_uL, hR_uL, nx_uL, sl_uL, hI_uR, hL_uR, hR_uR, nx_uR, sl_uR, st_eq, if_true, if_false, eq_self, Nat.reduceEqDiff, Nat.reduceMul, reduceIte, kdT, ixT, w_cl, w_ti, w_s1, w_a, w_m12, w_m8, w_m3, w_m4]) (by simp only [hI_uI, hL_uI, hR_uI, nx_uI, sl_uI, hI_uL, hL_uL, hR_uL, nx_uL, sl_uL, hI_uR, hL_uR, hR_uR, nx_uR, sl_uR, st_eq, if_true, if_false, eq_self, Nat.reduceEqDiff, Nat.reduceMul, reduceIte, kdT, ixT, w_cl, w_ti, w_s1, w_a, w_m12, w_m8, w_m3, w_m4]) (by simp only [hI_uI, hL_uI, hR_uI, nx_uI, sl_uI, hI_uL, hL_uL, hR_uL, nx_uL, sl_uL, hI_uR, hL_uR, hR_uR, nx_uR, sl_uR, st_eq, if_true, if_false, eq_self, Nat.reduceEqDiff, Nat.reduceMul, reduceIte, kdT, ixT, w_cl, w_ti, w_s1, w_a, w_m12, w_m8, w_m3, w_m4]) (by simp only [hI_uI, hL_uI, hR_uI, nx_uI, sl_uI, hI_uL, hL_uL, hR_uL, nx_uL, sl_uL, hI_uR, hL_uR, hR_uR, nx_uR, sl_uR, st_eq, if_true, if_false, eq_self, Nat.reduceEqDiff, Nat.reduceMul, reduceIte, kdT, ixT, w_cl, w_ti, w_s1, w_a, w_m12, w_m8, w_m3, w_m4]) (by simp only [hI_uI, hL_uI, hR_uI, nx_uI, sl_uI, hI_uL, hL_uL, hR_uL, nx_uL, sl_uL, hI_uR, hL_uR, hR_uR, nx_uR, sl_uR, st_eq, if_true, if_false, eq_self, Nat.reduceEqDiff, Nat.reduceMul, reduceIte, kdT, ixT, w_cl, w_ti, w_s1, w_a, w_m12, w_m8, w_m3, w_m4]) (by simp only [hI_uI, hL_uI, hR_uI, nx_uI, sl_uI, hI_uL, hL_uL, hR_uL, nx_uL, sl_uL, hI_uR, hL_uR, hR_uR, nx_uR, sl_uR, st_eq, if_true, if_false, eq_self, Nat.reduceEqDiff, Nat.reduceMul, reduceIte, kdT, ixT, w_cl, w_ti, w_s1, w_a, w_m12, w_m8, w_m3, w_m4]) H
theorem MH_.rl (hr : RL_ x0 r) (H : MH_ hp Hd x0) : MH_ hp Hd (uI_ x0 33554440 r) := ⟨by simp only [hI_uI, hL_uI, hR_uI, nx_uI, sl_uI, hI_uL, hL_uL, hR_uL, nx_uL, sl_uL, hI_uR, hL_uR, hR_uR, nx_uR, sl_uR, st_eq, if_true, if_false, eq_self, Nat.reduceEqDiff, Nat.reduceMul, reduceIte, kdT, ixT, w_cl, w_ti, w_s1, w_a, w_m12, w_m8, w_m3, w_m4]; rw [hr 19 (by decide)]; exact H.1, H.2.1, fun i hi => by simp only [hI_uI, hL_uI, hR_uI, nx_uI, sl_uI, hI_uL, hL_uL, hR_uL, nx_uL, sl_uL, hI_uR, hL_uR, hR_uR, nx_uR, sl_uR, st_eq, if_true, if_false, eq_self, Nat.reduceEqDiff, Nat.reduceMul, reduceIte, kdT, ixT, w_cl, w_ti, w_s1, w_a, w_m12, w_m8, w_m3, w_m4]; exact H.2.2 i hi⟩
theorem m_worth (hM : MS_ x0) (hA : MA_ na F G x0) (hH : MH_ hp Hd x0) (h57 : hI_ x0 33554440 57 = Int32.ofNat a) (h58 : hL_ x0 33554440 58 = day.toInt64) (ha : a < na) : ∀ s, 20 ≤ s → s ≤ 24 → ∃ y : Int64, y.toInt = env_ F G hp Hd a day (wof_ s) ∧ ∀ (r : Nat → Int32) (d : Nat) (Q : OU_ → AH → Prop), RL_ x0 r → 2 ≤ d → (V_ xs d 162 0 [vA (some 33554440), vI (Int32.ofNat s)] [] (uI_ x0 33554440 r) Q ↔ Q (some (some (vJ y))) (uI_ x0 33554440 r)) := by
  obtain ⟨a1, a2, a3, a4⟩ := id hA
  obtain ⟨f0, f1, f2, f3, f4⟩ := a3 a ha
  intro s hs1 hs2
  rcases (show s = 20 ∨ s = 21 ∨ s = 22 ∨ s = 23 ∨ s = 24 by omega) with z | z | z | z | z
  all_goals subst z
  · obtain ⟨e1, e2, e3⟩ := l_df (a := F a 1) (b := day)
    obtain ⟨y, hy, -⟩ := c_downwards (xs := xs) (d := 0) (h := x0) e1 e2 e3
    refine ⟨y, ?_, fun r d Q hr hd => ?_⟩
    · rw [hy]
      show _ = (mea_ F G hp Hd a day 0).toInt
      rw [mea_0, yb_ti]; rfl
    · obtain ⟨y', hy', hV⟩ := c_downwards (xs := xs) (d := d - 1) (h := uI_ x0 33554440 r) e1 e2 e3
      have eyy : y' = y := Int64.toInt_inj.mp (hy'.trans hy.symm)
      rw [eyy] at hV
      have e57 : r 57 = Int32.ofNat a := (hr 57 (by decide)).trans h57
      have e20 : Int32.ofNat 20 = 20 := rfl
      simp (disch := first | omega | assumption | decide | (apply bT_; decide)) only [s162_0, s162_1_20, s162_1_21, s162_1_22, s162_1_23, s162_1_d, s162_32, s162_33, s162_36, s162_37, s162_40, s162_41, s162_44, s162_45, s162_46, s162_47, s162_50, s162_51, s162_52, s162_55, s162_56, s162_59, s162_60, s162_63, s162_64, s162_65, s162_66, s162_69, s162_70, s162_71, s162_74, s162_75, s162_78, s162_79, s162_80, s162_81, s162_82, s162_83, s162_86, s162_89, s162_90, s162_91, s162_92, s162_93, s162_96, s162_99, s162_100, K_v, K_0, acI, acA, acJ, acX, List.map_cons, List.map_nil, List.sum_cons, List.sum_nil, true_and, and_true, posT, b2_0, b2_1, bft, true_or, or_true, Nat.zero_le, Nat.reduceAdd, Nat.reduceLeDiff, hI_uI, hL_uI, hR_uI, nx_uI, sl_uI, hI_uL, hL_uL, hR_uL, nx_uL, sl_uL, hI_uR, hL_uR, hR_uR, nx_uR, sl_uR, st_eq, if_true, if_false, eq_self, Nat.reduceEqDiff, Nat.reduceMul, reduceIte, kdT, ixT, w_cl, w_ti, w_s1, w_a, w_m12, w_m8, w_m3, w_m4, hM.r2, hM.r3, hM.r4, hM.r5, hM.r6, hM.r7, hM.r9, hM.r10, hM.r11, hM.r12, hM.r13, hM.r14, hM.r15, hM.r16, hM.r17, hM.r18, hM.r20, hM.r21, hM.r23, hM.r29, hM.r30, hM.r35, hM.r36, hM.r37, hM.r38, hM.r40, hM.r42, hM.r43, hM.r44, hM.r45, hM.r46, hM.r47, e57, h58, f1, e20, hV, kd_M, ln_M, kd_mBirth, ln_mBirth]
  · obtain ⟨e1, e2, e3⟩ := l_df (a := F a 2) (b := day)
    obtain ⟨y, hy, -⟩ := c_downwards (xs := xs) (d := 0) (h := x0) e1 e2 e3
    refine ⟨y, ?_, fun r d Q hr hd => ?_⟩
    · rw [hy]
      show _ = (mea_ F G hp Hd a day 1).toInt
      rw [mea_1, yb_ti]; rfl
    · obtain ⟨y', hy', hV⟩ := c_downwards (xs := xs) (d := d - 1) (h := uI_ x0 33554440 r) e1 e2 e3
      have eyy : y' = y := Int64.toInt_inj.mp (hy'.trans hy.symm)
      rw [eyy] at hV
      have e57 : r 57 = Int32.ofNat a := (hr 57 (by decide)).trans h57
      have e20 : Int32.ofNat 21 = 21 := rfl
      simp (disch := first | omega | assumption | decide | (apply bT_; decide)) only [s162_0, s162_1_20, s162_1_21, s162_1_22, s162_1_23, s162_1_d, s162_32, s162_33, s162_36, s162_37, s162_40, s162_41, s162_44, s162_45, s162_46, s162_47, s162_50, s162_51, s162_52, s162_55, s162_56, s162_59, s162_60, s162_63, s162_64, s162_65, s162_66, s162_69, s162_70, s162_71, s162_74, s162_75, s162_78, s162_79, s162_80, s162_81, s162_82, s162_83, s162_86, s162_89, s162_90, s162_91, s162_92, s162_93, s162_96, s162_99, s162_100, K_v, K_0, acI, acA, acJ, acX, List.map_cons, List.map_nil, List.sum_cons, List.sum_nil, true_and, and_true, posT, b2_0, b2_1, bft, true_or, or_true, Nat.zero_le, Nat.reduceAdd, Nat.reduceLeDiff, hI_uI, hL_uI, hR_uI, nx_uI, sl_uI, hI_uL, hL_uL, hR_uL, nx_uL, sl_uL, hI_uR, hL_uR, hR_uR, nx_uR, sl_uR, st_eq, if_true, if_false, eq_self, Nat.reduceEqDiff, Nat.reduceMul, reduceIte, kdT, ixT, w_cl, w_ti, w_s1, w_a, w_m12, w_m8, w_m3, w_m4, hM.r2, hM.r3, hM.r4, hM.r5, hM.r6, hM.r7, hM.r9, hM.r10, hM.r11, hM.r12, hM.r13, hM.r14, hM.r15, hM.r16, hM.r17, hM.r18, hM.r20, hM.r21, hM.r23, hM.r29, hM.r30, hM.r35, hM.r36, hM.r37, hM.r38, hM.r40, hM.r42, hM.r43, hM.r44, hM.r45, hM.r46, hM.r47, e57, h58, f2, e20, hV, kd_M, ln_M, kd_mJoined, ln_mJoined]
  · refine ⟨(F a 0).toInt64, ?_, fun r d Q hr hd => ?_⟩
    · rw [Int32.toInt_toInt64]
      show _ = (mea_ F G hp Hd a day 2).toInt
      rw [mea_2]
    · have e57 : r 57 = Int32.ofNat a := (hr 57 (by decide)).trans h57
      have e20 : Int32.ofNat 22 = 22 := rfl
      simp (disch := first | omega | assumption | decide | (apply bT_; decide)) only [s162_0, s162_1_20, s162_1_21, s162_1_22, s162_1_23, s162_1_d, s162_32, s162_33, s162_36, s162_37, s162_40, s162_41, s162_44, s162_45, s162_46, s162_47, s162_50, s162_51, s162_52, s162_55, s162_56, s162_59, s162_60, s162_63, s162_64, s162_65, s162_66, s162_69, s162_70, s162_71, s162_74, s162_75, s162_78, s162_79, s162_80, s162_81, s162_82, s162_83, s162_86, s162_89, s162_90, s162_91, s162_92, s162_93, s162_96, s162_99, s162_100, K_v, K_0, acI, acA, acJ, acX, List.map_cons, List.map_nil, List.sum_cons, List.sum_nil, true_and, and_true, posT, b2_0, b2_1, bft, true_or, or_true, Nat.zero_le, Nat.reduceAdd, Nat.reduceLeDiff, hI_uI, hL_uI, hR_uI, nx_uI, sl_uI, hI_uL, hL_uL, hR_uL, nx_uL, sl_uL, hI_uR, hL_uR, hR_uR, nx_uR, sl_uR, st_eq, if_true, if_false, eq_self, Nat.reduceEqDiff, Nat.reduceMul, reduceIte, kdT, ixT, w_cl, w_ti, w_s1, w_a, w_m12, w_m8, w_m3, w_m4, hM.r2, hM.r3, hM.r4, hM.r5, hM.r6, hM.r7, hM.r9, hM.r10, hM.r11, hM.r12, hM.r13, hM.r14, hM.r15, hM.r16, hM.r17, hM.r18, hM.r20, hM.r21, hM.r23, hM.r29, hM.r30, hM.r35, hM.r36, hM.r37, hM.r38, hM.r40, hM.r42, hM.r43, hM.r44, hM.r45, hM.r46, hM.r47, e57, f0, e20, kd_M, ln_M, kd_mFee, ln_mFee]
  · refine ⟨(gre_ G a).toInt64, ?_, fun r d Q hr hd => ?_⟩
    · rw [Int32.toInt_toInt64]
      show _ = (mea_ F G hp Hd a day 3).toInt
      rw [mea_3]
    · have e57 : r 57 = Int32.ofNat a := (hr 57 (by decide)).trans h57
      have e20 : Int32.ofNat 23 = 23 := rfl
      have hgr := fun Q => c_mgreatest (xs := xs) (d := d - 1) (Q := Q) (h := uI_ x0 33554440 r) hM.u (hA.rl hr) ha (by omega)
      simp (disch := first | omega | assumption | decide | (apply bT_; decide)) only [s162_0, s162_1_20, s162_1_21, s162_1_22, s162_1_23, s162_1_d, s162_32, s162_33, s162_36, s162_37, s162_40, s162_41, s162_44, s162_45, s162_46, s162_47, s162_50, s162_51, s162_52, s162_55, s162_56, s162_59, s162_60, s162_63, s162_64, s162_65, s162_66, s162_69, s162_70, s162_71, s162_74, s162_75, s162_78, s162_79, s162_80, s162_81, s162_82, s162_83, s162_86, s162_89, s162_90, s162_91, s162_92, s162_93, s162_96, s162_99, s162_100, K_v, K_0, acI, acA, acJ, acX, List.map_cons, List.map_nil, List.sum_cons, List.sum_nil, true_and, and_true, posT, b2_0, b2_1, bft, true_or, or_true, Nat.zero_le, Nat.reduceAdd, Nat.reduceLeDiff, hI_uI, hL_uI, hR_uI, nx_uI, sl_uI, hI_uL, hL_uL, hR_uL, nx_uL, sl_uL, hI_uR, hL_uR, hR_uR, nx_uR, sl_uR, st_eq, if_true, if_false, eq_self, Nat.reduceEqDiff, Nat.reduceMul, reduceIte, kdT, ixT, w_cl, w_ti, w_s1, w_a, w_m12, w_m8, w_m3, w_m4, e57, hgr, e20, kd_M, ln_M]
  · refine ⟨(Int32.ofNat (had_ hp Hd (Int32.ofNat a))).toInt64, ?_, fun r d Q hr hd => ?_⟩
    · rw [Int32.toInt_toInt64]
      show _ = (mea_ F G hp Hd a day 6).toInt
      rw [mea_6]
    · have e57 : r 57 = Int32.ofNat a := (hr 57 (by decide)).trans h57
      have e20 : Int32.ofNat 24 = 24 := rfl
      have hha := fun Q => c_mhad (xs := xs) (d := d - 1) (Q := Q) (h := uI_ x0 33554440 r) (a := Int32.ofNat a) hM.u (hH.rl hr)
      have hout : (24 : Int32).toInt < 20 ∨ 23 < (24 : Int32).toInt := by decide
      simp (disch := first | omega | assumption | decide | (apply bT_; decide)) only [s162_0, s162_1_20, s162_1_21, s162_1_22, s162_1_23, s162_1_d, s162_32, s162_33, s162_36, s162_37, s162_40, s162_41, s162_44, s162_45, s162_46, s162_47, s162_50, s162_51, s162_52, s162_55, s162_56, s162_59, s162_60, s162_63, s162_64, s162_65, s162_66, s162_69, s162_70, s162_71, s162_74, s162_75, s162_78, s162_79, s162_80, s162_81, s162_82, s162_83, s162_86, s162_89, s162_90, s162_91, s162_92, s162_93, s162_96, s162_99, s162_100, K_v, K_0, acI, acA, acJ, acX, List.map_cons, List.map_nil, List.sum_cons, List.sum_nil, true_and, and_true, posT, b2_0, b2_1, bft, true_or, or_true, Nat.zero_le, Nat.reduceAdd, Nat.reduceLeDiff, hI_uI, hL_uI, hR_uI, nx_uI, sl_uI, hI_uL, hL_uL, hR_uL, nx_uL, sl_uL, hI_uR, hL_uR, hR_uR, nx_uR, sl_uR, st_eq, if_true, if_false, eq_self, Nat.reduceEqDiff, Nat.reduceMul, reduceIte, kdT, ixT, w_cl, w_ti, w_s1, w_a, w_m12, w_m8, w_m3, w_m4, e57, hha, e20, hout, kd_M, ln_M]
abbrev hoj_ : List Nat := [49, 50, 51, 52, 53, 54, 55, 56, 57]
/-- what is known of the model -/
def MB_ (na : Nat) (F G : Nat → Nat → Int32) (hp : Option Nat) (Hd : Nat → Int32) (L : List Trm_) (h : AH) : Prop := MS_ h ∧ MA_ na F G h ∧ MH_ hp Hd h ∧ (∀ i, i < na → (F i 3 = 0 ∨ F i 3 = 1) ∧ (F i 4 = 0 ∨ F i 4 = 1)) ∧ MG_ L h ∧ TL_ L
theorem MB_.kh {J : List Nat} {h1 : AH} (f : KH_ [] J h h1) (hJ : 1 ∉ J ∧ 19 ∉ J ∧ 60 ∉ J ∧ 41 ∉ J) (H : MB_ na F G hp Hd L h) : MB_ na F G hp Hd L h1 := by
  obtain ⟨b1, b2, b3, b4, b5, b6⟩ := H
  refine ⟨f.ms b1, MA_.eq (f.2.1 1 hJ.1) (f.1 _ (by decide) (by decide)) (f.1 _ (by decide) (by decide)) (f.1 _ (by decide) (by decide)) (f.1 _ (by decide) (by decide)) (f.1 _ (by decide) (by decide)) (f.1 _ (by decide) (by decide)) b2, ⟨by rw [f.2.1 19 hJ.2.1]; exact b3.1, b3.2.1, fun i hi => by rw [f.1 _ (by decide) (by decide)]; exact b3.2.2 i hi⟩, b4, b5.kh f (by decide) hJ.2.2, b6⟩
theorem m_holds {t : Nat} (hB : MB_ na F G hp Hd L h) (ht : t < L.length) (ha : a < na) (hd : 38 ≤ d) : ∃ h', KH_ [] hoj_ h h' ∧ Do_ xs d 167 [vA (some 33554440), vI (Int32.ofNat t), vI (Int32.ofNat a), vI day] h (some (some (vI (b2_ (hlv_ L t (env_ F G hp Hd a day)))))) h' := by
  obtain ⟨b1, b2, b3, b4, ⟨B, N, c1, c2, c3, c4, c5, c6⟩, b6⟩ := id hB
  have hna := b2.2.1
  have hmem : L.getD t dT_ ∈ L := by rw [List.getD_eq_getElem?_getD, List.getElem?_eq_getElem ht]; exact List.getElem_mem _
  obtain ⟨w1, w2, w3, w4, w5, k1, w6⟩ := c6 _ hmem
  have ebeg := (c5 t ht).2.2
  -- the fields before the start
  obtain ⟨x, hx⟩ : ∃ x, x = uL_ (uI_ h 33554440 (st_ (st_ (st_ (hI_ h 33554440) 54 0) 56 0) 57 (Int32.ofNat a))) 33554440 (st_ (hL_ h 33554440) 58 day.toInt64) := ⟨_, rfl⟩
  have kx : KH_ [] hoj_ h x := by
    rw [hx]
    refine ⟨fun b q _ => by rw [hI_uL, hI_uI, if_neg q], fun j hj => ?_, fun b q => by rw [hL_uL, if_neg q]; rfl, fun _ _ => rfl, fun _ _ => rfl, rfl, rfl⟩
    simp only [List.mem_cons, List.not_mem_nil, or_false, not_or] at hj
    rw [hI_uL, hI_uI, if_pos rfl, st_eq, st_eq, st_eq, if_neg hj.2.2.2.2.2.2.2.2, if_neg hj.2.2.2.2.2.2.2.1, if_neg hj.2.2.2.2.2.1]
  have hMx : MS_ x := kx.ms b1
  have hTX : TX_ B N 40945681 x := ⟨c1.1, fun i hi => by rw [kx.1 _ (by decide) (by decide)]; exact c1.2 i hi⟩
  obtain ⟨r, a1, a2, a3, a4⟩ := m_starts (xs := xs) (d := d - 1) (i := enk_ B N (ps_ B N (L.getD t dT_).2.2.2)) hMx hTX (Or.inr rfl) enk_le (by omega)
  rw [ps_s] at a1
  obtain ⟨x1, hx1⟩ : ∃ x1, x1 = uI_ (uR_ x 33554440 (st_ (hR_ x 33554440) 48 (some 40945681))) 33554440 r := ⟨_, rfl⟩
  rw [← hx1] at a4
  have eM1 : hI_ x1 33554440 = r := by rw [hx1]; simp only [hI_uI, hL_uI, hR_uI, nx_uI, sl_uI, hI_uL, hL_uL, hR_uL, nx_uL, sl_uL, hI_uR, hL_uR, hR_uR, nx_uR, sl_uR, st_eq, if_true, if_false, eq_self, Nat.reduceEqDiff, Nat.reduceMul, reduceIte, kdT, ixT, w_cl, w_ti, w_s1, w_a, w_m12, w_m8, w_m3, w_m4]
  have k1' : KH_ [] hoj_ h x1 := by
    refine kx.tr ?_
    rw [hx1]
    refine ⟨fun b q _ => by rw [hI_uI, if_neg q]; rfl, fun j hj => ?_, fun _ _ => rfl, fun b q => by rw [hR_uI, hR_uR, if_neg q], fun j hj => by rw [hR_uI, hR_uR, if_pos rfl, st_eq, if_neg hj], rfl, rfl⟩
    rw [hI_uI, if_pos rfl]
    exact a3 j (fun z => hj (by revert z; simp only [List.mem_cons, List.not_mem_nil, or_false]; omega))
  have hB1 := MB_.kh k1' (by decide) hB
  obtain ⟨d1, d2, d3, d4, d5, d6⟩ := id hB1
  have h57 : hI_ x1 33554440 57 = Int32.ofNat a := by rw [eM1, a3 57 (by decide), hx]; simp only [hI_uI, hL_uI, hR_uI, nx_uI, sl_uI, hI_uL, hL_uL, hR_uL, nx_uL, sl_uL, hI_uR, hL_uR, hR_uR, nx_uR, sl_uR, st_eq, if_true, if_false, eq_self, Nat.reduceEqDiff, Nat.reduceMul, reduceIte, kdT, ixT, w_cl, w_ti, w_s1, w_a, w_m12, w_m8, w_m3, w_m4]
  have h56 : hI_ x1 33554440 56 = b2_ false := by rw [eM1, a3 56 (by decide), hx]; simp only [hI_uI, hL_uI, hR_uI, nx_uI, sl_uI, hI_uL, hL_uL, hR_uL, nx_uL, sl_uL, hI_uR, hL_uR, hR_uR, nx_uR, sl_uR, st_eq, if_true, if_false, eq_self, Nat.reduceEqDiff, Nat.reduceMul, reduceIte, kdT, ixT, w_cl, w_ti, w_s1, w_a, w_m12, w_m8, w_m3, w_m4]; rfl
  have h54 : hI_ x1 33554440 54 = 0 := by rw [eM1, a3 54 (by decide), hx]; simp only [hI_uI, hL_uI, hR_uI, nx_uI, sl_uI, hI_uL, hL_uL, hR_uL, nx_uL, sl_uL, hI_uR, hL_uR, hR_uR, nx_uR, sl_uR, st_eq, if_true, if_false, eq_self, Nat.reduceEqDiff, Nat.reduceMul, reduceIte, kdT, ixT, w_cl, w_ti, w_s1, w_a, w_m12, w_m8, w_m3, w_m4]
  have h58 : hL_ x1 33554440 58 = day.toInt64 := by rw [hx1, hx]; simp only [hI_uI, hL_uI, hR_uI, nx_uI, sl_uI, hI_uL, hL_uL, hR_uL, nx_uL, sl_uL, hI_uR, hL_uR, hR_uR, nx_uR, sl_uR, st_eq, if_true, if_false, eq_self, Nat.reduceEqDiff, Nat.reduceMul, reduceIte, kdT, ixT, w_cl, w_ti, w_s1, w_a, w_m12, w_m8, w_m3, w_m4]
  have hR1 : RW_ B N 40945681 x1 := ⟨⟨c1.1, fun i hi => by rw [k1'.1 _ (by decide) (by decide)]; exact c1.2 i hi⟩, by rw [hx1]; simp only [hI_uI, hL_uI, hR_uI, nx_uI, sl_uI, hI_uL, hL_uL, hR_uL, nx_uL, sl_uL, hI_uR, hL_uR, hR_uR, nx_uR, sl_uR, st_eq, if_true, if_false, eq_self, Nat.reduceEqDiff, Nat.reduceMul, reduceIte, kdT, ixT, w_cl, w_ti, w_s1, w_a, w_m12, w_m8, w_m3, w_m4], by rw [eM1]; exact a2, Or.inr rfl⟩
  have hgu : hI_ x1 34603794 a = b2_ (decide (1 ≤ env_ F G hp Hd a day 4)) := by
    have e1 := (d2.2.2.1 a ha).2.2.2.1
    rw [e1]
    show _ = b2_ (decide (1 ≤ (mea_ F G hp Hd a day 4).toInt))
    rw [mea_4]
    rcases (b4 a ha).1 with z | z <;> rw [z] <;> decide
  have hHB : HB_ xs B N 40945681 x1 false (env_ F G hp Hd a day) := ⟨hR1, d1, h56, fun _ => ⟨a, by omega, h57, hgu, m_worth d1 d2 d3 h57 h58 ha⟩⟩
  have Z1 : MZ_ B N x1 ((L.getD t dT_).2.2.2 + 1) (hI_ x1 33554440) := ⟨by rw [eM1]; exact a1, h54, fun _ _ => rfl⟩
  have hle : (L.getD t dT_).2.2.2 + 1 ≤ N := by
    rcases Nat.lt_or_ge (L.getD t dT_).2.2.2 N with z | z
    · exact z
    · rw [stk_0 _ z] at w5; cases w5
  have hE := m_expr (xs := xs) (d := d - 1) hHB (by omega) hle Z1
  rw [w6] at hE
  obtain ⟨r2, v, e1, e2, e3⟩ := hE
  rw [uI_self] at e3
  dsimp only at e3
  have ev : v = hlv_ L t (env_ F G hp Hd a day) := e2 rfl
  rw [ev] at e3
  refine ⟨uI_ x1 33554440 r2, k1'.tr ⟨fun b q _ => by rw [hI_uI, if_neg q], fun j hj => ?_, fun _ _ => rfl, fun _ _ => rfl, fun _ _ => rfl, rfl, rfl⟩, fun Q => ?_⟩
  · rw [hI_uI, if_pos rfl]
    exact e1.2.2 j (fun z => hj (by revert z; simp only [List.mem_cons, List.not_mem_nil, or_false]; omega))
  · have nb30 : nb_ 3 0 = true := by decide
    have c2' := c2
    rw [hx] at a4
    simp (disch := first | omega | assumption | decide | (apply bT_; decide)) only [s167_0, s167_1, s167_2, s167_5, s167_6, s167_7, s167_10, s167_11, s167_12, s167_15, s167_16, s167_17, s167_18, s167_21, s167_22, s167_23, s167_26, s167_27, s167_30, s167_31, s167_34, s167_35, s167_36, s167_39, s167_40, s167_41, s167_44, K_v, K_0, acI, acA, acJ, acX, List.map_cons, List.map_nil, List.sum_cons, List.sum_nil, true_and, and_true, posT, b2_0, b2_1, bft, true_or, or_true, Nat.zero_le, Nat.reduceAdd, Nat.reduceLeDiff, hI_uI, hL_uI, hR_uI, nx_uI, sl_uI, hI_uL, hL_uL, hR_uL, nx_uL, sl_uL, hI_uR, hL_uR, hR_uR, nx_uR, sl_uR, st_eq, if_true, if_false, eq_self, Nat.reduceEqDiff, Nat.reduceMul, reduceIte, kdT, ixT, w_cl, w_ti, w_s1, w_a, w_m12, w_m8, w_m3, w_m4, b1.r2, b1.r3, b1.r4, b1.r5, b1.r6, b1.r7, b1.r9, b1.r10, b1.r11, b1.r12, b1.r13, b1.r14, b1.r15, b1.r16, b1.r17, b1.r18, b1.r20, b1.r21, b1.r23, b1.r29, b1.r30, b1.r35, b1.r36, b1.r37, b1.r38, b1.r40, b1.r42, b1.r43, b1.r44, b1.r45, b1.r46, b1.r47, uI_uI, nb30, ebeg, c2', a4, e3, kd_M, ln_M, kd_mBegins, ln_mBegins]
end MWO
