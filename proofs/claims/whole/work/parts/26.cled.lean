/-! the class: facts -/
def VL_ (nf : Nat) (L : Nat → Nat → Int32) : Prop := ∀ i, i < nf → wi_ (L i 0) 0 19 = true ∧ wi_ (L i 2) (-2) 11 = true
def CL_ (nf : Nat) (L : Nat → Nat → Int32) (h : AH) : Prop := hI_ h 28311555 0 = Int32.ofNat nf ∧ nf ≤ 200 ∧ VL_ nf L ∧ ∀ i, i < nf → hI_ h 28586512 i = L i 0 ∧ hI_ h 28848656 i = L i 1 ∧ hI_ h 29110800 i = L i 2
theorem CL_.eq {nf : Nat} {L : Nat → Nat → Int32} {h h1 : AH} (e0 : hI_ h1 28311555 = hI_ h 28311555) (e1 : hI_ h1 28586512 = hI_ h 28586512) (e2 : hI_ h1 28848656 = hI_ h 28848656) (e3 : hI_ h1 29110800 = hI_ h 29110800) (H : CL_ nf L h) : CL_ nf L h1 := by
  unfold CL_ at H ⊢
  rw [e0, e1, e2, e3]
  exact H
section CLD
variable {xs : Nat → Int32} {d : Nat} {h : AH} {Q : OU_ → AH → Prop} {nf : Nat} {L : Nat → Nat → Int32}
theorem c_tell {it da ho : Int32} (hC : CS_ h) (hL : CL_ nf L h) (hda : wi_ da (-100000) 100000 = true) (hd : 2 ≤ d) : ∃ h', FX_ [28311555, 28586512, 28848656, 29110800] [] h h' ∧ (∀ a, hR_ h' a = hR_ h a) ∧ nx_ h' = nx_ h ∧ sl_ h' = sl_ h ∧
    (if okF_ nf it da ho = true then Do_ xs d 27 [vA (some 28311555), vI it, vI da, vI ho] h (some (some (vI (Int32.ofNat nf)))) h' ∧ CL_ (nf + 1) (upF_ L nf (fl3_ it da ho)) h'
     else Do_ xs d 27 [vA (some 28311555), vI it, vI da, vI ho] h (some (some (vI (-1)))) h' ∧ CL_ nf L h') := by
  obtain ⟨e1, e2, e3, e4⟩ := id hL
  by_cases c : okF_ nf it da ho = true
  · simp only [if_pos c]
    unfold okF_ at c
    rw [Bool.and_eq_true, Bool.and_eq_true, Bool.and_eq_true, decide_eq_true_iff] at c
    obtain ⟨c1, c3, c4, c5⟩ := c
    have hlt : Int32.ofNat nf < 200 := (w200 (by omega)).mpr c1
    refine ⟨uI_ (uI_ (uI_ (uI_ h 28586512 (st_ (hI_ h 28586512) nf it)) 28848656 (st_ (hI_ h 28848656) nf da)) 29110800 (st_ (hI_ h 29110800) nf ho)) 28311555 (st_ (hI_ h 28311555) 0 (Int32.ofNat (nf + 1))), ?_, fun _ => rfl, rfl, rfl, fun Q => ?_, ?_⟩
    · exact (((FX_.rf.uI (Or.inl (by decide)) (by decide)).uI (Or.inl (by decide)) (by decide)).uI (Or.inl (by decide)) (by decide)).uI (Or.inl (by decide)) (by decide)
    · simp (disch := first | omega | assumption | decide | (apply bT_; decide)) only [s27_0, s27_1, s27_4, s27_7, s27_10, s27_11, s27_12, s27_15, s27_18, s27_19, s27_20, s27_23, s27_26, s27_27, s27_28, s27_29, s27_32, s27_33, s27_36, s27_37, s27_38, s27_39, s27_42, s27_43, s27_46, s27_47, s27_48, s27_49, s27_52, s27_53, s27_56, s27_57, s27_58, s27_59, s27_59i, s27_60, s27_63, s27_64, s27_65, s27_66, s27_69, K_v, K_0, acI, acA, acJ, acX, List.map_cons, List.map_nil, List.sum_cons, List.sum_nil, true_and, and_true, posT, b2_0, b2_1, bft, true_or, or_true, Nat.zero_le, Nat.reduceAdd, Nat.reduceLeDiff, hI_uI, hL_uI, hR_uI, nx_uI, sl_uI, hI_uL, hL_uL, hR_uL, nx_uL, sl_uL, hI_uR, hL_uR, hR_uR, nx_uR, sl_uR, st_eq, if_true, if_false, eq_self, Nat.reduceEqDiff, Nat.reduceMul, reduceIte, kdT, ixT, w_cl, w_ti, w_s1, w_a, w_m12, w_m8, w_m3, w_m4, hC.x0, hC.x2, hC.x4, hC.x7, hC.x8, hC.x9, hC.x11, hC.f0, hC.f1, hC.f2, hC.p0, hC.p1, hC.p2, hC.p3, hC.l1, hC.l2, hC.l3, hC.l4, hC.d0, hC.d1, hC.d2, hC.g1, hC.g2, hC.g3, hC.g4, hC.k1, hC.k2, hC.k3, hC.k4, e1, c_isItem, c_isHolder, c3, c5, if_pos hlt, kd_LI, ln_LI, kd_LD, ln_LD, kd_LH, ln_LH, Bool.true_eq_false]
    · refine ⟨by simp only [hI_uI, hL_uI, hR_uI, nx_uI, sl_uI, hI_uL, hL_uL, hR_uL, nx_uL, sl_uL, hI_uR, hL_uR, hR_uR, nx_uR, sl_uR, st_eq, if_true, if_false, eq_self, Nat.reduceEqDiff, Nat.reduceMul, reduceIte, kdT, ixT, w_cl, w_ti, w_s1, w_a, w_m12, w_m8, w_m3, w_m4], by omega, fun p hp => ?_, fun p hp => ?_⟩
      · unfold upF_ fl3_
        by_cases q : p = nf
        · simp only [if_pos q, Nat.reduceEqDiff, reduceIte]; exact ⟨c3, c5⟩
        · simp only [if_neg q]; exact e3 p (by omega)
      · simp only [hI_uI, hL_uI, hR_uI, nx_uI, sl_uI, hI_uL, hL_uL, hR_uL, nx_uL, sl_uL, hI_uR, hL_uR, hR_uR, nx_uR, sl_uR, st_eq, if_true, if_false, eq_self, Nat.reduceEqDiff, Nat.reduceMul, reduceIte, kdT, ixT, w_cl, w_ti, w_s1, w_a, w_m12, w_m8, w_m3, w_m4, upF_, fl3_]
        by_cases q : p = nf
        · simp only [if_pos q, true_and]
        · simp only [if_neg q]
          exact e4 p (by omega)
  · simp only [if_neg c]
    refine ⟨h, FX_.rf, fun _ => rfl, rfl, rfl, fun Q => ?_, hL⟩
    simp (disch := first | omega | assumption | decide | (apply bT_; decide)) only [s27_0, s27_1, s27_4, s27_7, s27_10, s27_11, s27_12, s27_15, s27_18, s27_19, s27_20, s27_23, s27_26, s27_27, s27_28, s27_29, s27_32, s27_33, s27_36, s27_37, s27_38, s27_39, s27_42, s27_43, s27_46, s27_47, s27_48, s27_49, s27_52, s27_53, s27_56, s27_57, s27_58, s27_59, s27_59i, s27_60, s27_63, s27_64, s27_65, s27_66, s27_69, K_v, K_0, acI, acA, acJ, acX, List.map_cons, List.map_nil, List.sum_cons, List.sum_nil, true_and, and_true, posT, b2_0, b2_1, bft, true_or, or_true, Nat.zero_le, Nat.reduceAdd, Nat.reduceLeDiff, hI_uI, hL_uI, hR_uI, nx_uI, sl_uI, hI_uL, hL_uL, hR_uL, nx_uL, sl_uL, hI_uR, hL_uR, hR_uR, nx_uR, sl_uR, st_eq, if_true, if_false, eq_self, Nat.reduceEqDiff, Nat.reduceMul, reduceIte, kdT, ixT, w_cl, w_ti, w_s1, w_a, w_m12, w_m8, w_m3, w_m4, e1, c_isItem, c_isHolder, w200]
    by_cases q1 : nf < 200
    · rw [if_pos q1]
      unfold okF_ at c
      rw [Bool.and_eq_true, Bool.and_eq_true, Bool.and_eq_true, decide_eq_true_iff] at c
      by_cases q2 : wi_ it 0 19 = false
      · rw [if_pos q2]
      · rw [if_neg q2]
        by_cases q4 : wi_ ho (-2) 11 = false
        · rw [if_pos q4]
        · exact absurd ⟨q1, by simpa using q2, hda, by simpa using q4⟩ c
    · rw [if_neg q1]
theorem x_fact {it da ho : Int32} (hC : CS_ h) (hL : CL_ nf L h) (hd : 3 ≤ d) : ∃ h', FX_ [28311555, 28586512, 28848656, 29110800] [] h h' ∧ (∀ a, hR_ h' a = hR_ h a) ∧ nx_ h' = nx_ h ∧ sl_ h' = sl_ h ∧
    (if okF_ nf it da ho = true then Do_ xs d 78 [vA (some 25165831), vI it, vI da, vI ho] h (some (some (vI (Int32.ofNat nf)))) h' ∧ CL_ (nf + 1) (upF_ L nf (fl3_ it da ho)) h'
     else Do_ xs d 78 [vA (some 25165831), vI it, vI da, vI ho] h (some (some (vI (-1)))) h' ∧ CL_ nf L h') := by
  by_cases c : wi_ da (-100000) 100000 = true
  · obtain ⟨h', f1, f0, f2, f3, f4⟩ := c_tell (xs := xs) (d := d - 1) (it := it) (ho := ho) hC hL c (by omega)
    by_cases c2 : okF_ nf it da ho = true
    · rw [if_pos c2] at f4
      simp only [if_pos c2]
      refine ⟨h', f1, f0, f2, f3, fun Q => ?_, f4.2⟩
      simp (disch := first | omega | assumption | decide | (apply bT_; decide)) only [s78_0, s78_1, s78_4, s78_7, s78_8, s78_11, s78_12, s78_13, s78_14, s78_17, s78_20, s78_21, K_v, K_0, acI, acA, acJ, acX, List.map_cons, List.map_nil, List.sum_cons, List.sum_nil, true_and, and_true, posT, b2_0, b2_1, bft, true_or, or_true, Nat.zero_le, Nat.reduceAdd, Nat.reduceLeDiff, hI_uI, hL_uI, hR_uI, nx_uI, sl_uI, hI_uL, hL_uL, hR_uL, nx_uL, sl_uL, hI_uR, hL_uR, hR_uR, nx_uR, sl_uR, st_eq, if_true, if_false, eq_self, Nat.reduceEqDiff, Nat.reduceMul, reduceIte, kdT, ixT, w_cl, w_ti, w_s1, w_a, w_m12, w_m8, w_m3, w_m4, hC.x0, hC.x2, hC.x4, hC.x7, hC.x8, hC.x9, hC.x11, hC.f0, hC.f1, hC.f2, hC.p0, hC.p1, hC.p2, hC.p3, hC.l1, hC.l2, hC.l3, hC.l4, hC.d0, hC.d1, hC.d2, hC.g1, hC.g2, hC.g3, hC.g4, hC.k1, hC.k2, hC.k3, hC.k4, c_isDay, c, f4.1, Bool.true_eq_false]
    · rw [if_neg c2] at f4
      simp only [if_neg c2]
      refine ⟨h', f1, f0, f2, f3, fun Q => ?_, f4.2⟩
      simp (disch := first | omega | assumption | decide | (apply bT_; decide)) only [s78_0, s78_1, s78_4, s78_7, s78_8, s78_11, s78_12, s78_13, s78_14, s78_17, s78_20, s78_21, K_v, K_0, acI, acA, acJ, acX, List.map_cons, List.map_nil, List.sum_cons, List.sum_nil, true_and, and_true, posT, b2_0, b2_1, bft, true_or, or_true, Nat.zero_le, Nat.reduceAdd, Nat.reduceLeDiff, hI_uI, hL_uI, hR_uI, nx_uI, sl_uI, hI_uL, hL_uL, hR_uL, nx_uL, sl_uL, hI_uR, hL_uR, hR_uR, nx_uR, sl_uR, st_eq, if_true, if_false, eq_self, Nat.reduceEqDiff, Nat.reduceMul, reduceIte, kdT, ixT, w_cl, w_ti, w_s1, w_a, w_m12, w_m8, w_m3, w_m4, hC.x0, hC.x2, hC.x4, hC.x7, hC.x8, hC.x9, hC.x11, hC.f0, hC.f1, hC.f2, hC.p0, hC.p1, hC.p2, hC.p3, hC.l1, hC.l2, hC.l3, hC.l4, hC.d0, hC.d1, hC.d2, hC.g1, hC.g2, hC.g3, hC.g4, hC.k1, hC.k2, hC.k3, hC.k4, c_isDay, c, f4.1, Bool.true_eq_false]
  · have c' : wi_ da (-100000) 100000 = false := by simpa using c
    have hc : okF_ nf it da ho = false := by unfold okF_; rw [c']; simp
    simp only [hc, Bool.false_eq_true, if_false]
    refine ⟨h, FX_.rf, fun _ => rfl, rfl, rfl, fun Q => ?_, hL⟩
    simp (disch := first | omega | assumption | decide | (apply bT_; decide)) only [s78_0, s78_1, s78_4, s78_8, s78_11, s78_12, s78_13, s78_14, s78_17, s78_20, s78_21, K_v, K_0, acI, acA, acJ, acX, List.map_cons, List.map_nil, List.sum_cons, List.sum_nil, true_and, and_true, posT, b2_0, b2_1, bft, true_or, or_true, Nat.zero_le, Nat.reduceAdd, Nat.reduceLeDiff, hI_uI, hL_uI, hR_uI, nx_uI, sl_uI, hI_uL, hL_uL, hR_uL, nx_uL, sl_uL, hI_uR, hL_uR, hR_uR, nx_uR, sl_uR, st_eq, if_true, if_false, eq_self, Nat.reduceEqDiff, Nat.reduceMul, reduceIte, kdT, ixT, w_cl, w_ti, w_s1, w_a, w_m12, w_m8, w_m3, w_m4, c_isDay, c']
theorem c_holderOf {n : Nat} {it da : Int32} (hC : CS_ h) (hL : CL_ nf L h) (hn : n ≤ nf) : V_ xs d 28 0 [vA (some 28311555), vI it, vI da, vI (Int32.ofNat n), vX 0, vX 0] [] h Q ↔ Q (some (some (vI (hol_ L it da n)))) h := by
  obtain ⟨e1, e2, -, e3⟩ := id hL
  have L9 := loop_ (P := fun k o => V_ xs d 28 6 [vA (some 28311555), vI it, vI da, vI (Int32.ofNat n), vI (oi_ o), vI (Int32.ofNat k)] [] h Q) (f := fst_ L it da) (n := n) (fun k o => ∀ j, o = some j → j < k) (fun k o hk hi => by
    obtain ⟨g1, g2, g3⟩ := e3 k (by omega)
    have hk2 : k < nf := by omega
    constructor
    · rw [s28_6]
      cases o with
      | none =>
        simp (disch := first | omega | assumption | decide | (apply bT_; decide)) only [s28_0, s28_1, s28_3, s28_4, s28_8, s28_9, s28_12, s28_14, s28_15, s28_18, s28_21, s28_22, s28_25, s28_27, s28_28, s28_29, s28_32, s28_33, s28_36, s28_38, s28_39, s28_40, s28_43, s28_45, s28_46, s28_49, s28_50, s28_53, s28_55, s28_56, s28_57, s28_60, s28_62, s28_63, s28_66, s28_68, s28_70, s28_73, s28_76, s28_78, s28_79, s28_82, s28_84, s28_87, s28_88, s28_91, s28_93, s28_94, K_v, K_0, acI, acA, acJ, acX, List.map_cons, List.map_nil, List.sum_cons, List.sum_nil, true_and, and_true, posT, b2_0, b2_1, bft, true_or, or_true, Nat.zero_le, Nat.reduceAdd, Nat.reduceLeDiff, hI_uI, hL_uI, hR_uI, nx_uI, sl_uI, hI_uL, hL_uL, hR_uL, nx_uL, sl_uL, hI_uR, hL_uR, hR_uR, nx_uR, sl_uR, st_eq, if_true, if_false, eq_self, Nat.reduceEqDiff, Nat.reduceMul, reduceIte, kdT, ixT, w_cl, w_ti, w_s1, w_a, w_m12, w_m8, w_m3, w_m4, hC.x0, hC.x2, hC.x4, hC.x7, hC.x8, hC.x9, hC.x11, hC.f0, hC.f1, hC.f2, hC.p0, hC.p1, hC.p2, hC.p3, hC.l1, hC.l2, hC.l3, hC.l4, hC.d0, hC.d1, hC.d2, hC.g1, hC.g2, hC.g3, hC.g4, hC.k1, hC.k2, hC.k3, hC.k4, e1, g1, g2, oi_, w_lt, kd_LI, ln_LI, kd_LD, ln_LD]
        rw [if_pos hk, if_pos hk2]
        unfold fst_
        by_cases q1 : L k 0 = it
        · rw [if_pos q1]
          by_cases q2 : da < L k 1
          · rw [if_pos q2, if_pos (Or.inr q2)]
          · rw [if_neg q2, if_neg (fun z => z.elim (fun y => y q1) q2)]
        · rw [if_neg q1, if_pos (Or.inl q1)]
      | some j =>
        have hj := hi j rfl
        obtain ⟨g4, g5, g6⟩ := e3 j (by omega)
        have hm1 := oi_m1 (show j < 2147483648 by omega)
        simp (disch := first | omega | assumption | decide | (apply bT_; decide)) only [s28_0, s28_1, s28_3, s28_4, s28_8, s28_9, s28_12, s28_14, s28_15, s28_18, s28_21, s28_22, s28_25, s28_27, s28_28, s28_29, s28_32, s28_33, s28_36, s28_38, s28_39, s28_40, s28_43, s28_45, s28_46, s28_49, s28_50, s28_53, s28_55, s28_56, s28_57, s28_60, s28_62, s28_63, s28_66, s28_68, s28_70, s28_73, s28_76, s28_78, s28_79, s28_82, s28_84, s28_87, s28_88, s28_91, s28_93, s28_94, K_v, K_0, acI, acA, acJ, acX, List.map_cons, List.map_nil, List.sum_cons, List.sum_nil, true_and, and_true, posT, b2_0, b2_1, bft, true_or, or_true, Nat.zero_le, Nat.reduceAdd, Nat.reduceLeDiff, hI_uI, hL_uI, hR_uI, nx_uI, sl_uI, hI_uL, hL_uL, hR_uL, nx_uL, sl_uL, hI_uR, hL_uR, hR_uR, nx_uR, sl_uR, st_eq, if_true, if_false, eq_self, Nat.reduceEqDiff, Nat.reduceMul, reduceIte, kdT, ixT, w_cl, w_ti, w_s1, w_a, w_m12, w_m8, w_m3, w_m4, hC.x0, hC.x2, hC.x4, hC.x7, hC.x8, hC.x9, hC.x11, hC.f0, hC.f1, hC.f2, hC.p0, hC.p1, hC.p2, hC.p3, hC.l1, hC.l2, hC.l3, hC.l4, hC.d0, hC.d1, hC.d2, hC.g1, hC.g2, hC.g3, hC.g4, hC.k1, hC.k2, hC.k3, hC.k4, e1, g1, g2, g5, oi_, hm1, w_lt, kd_LI, ln_LI, kd_LD, ln_LD]
        rw [if_pos hk, if_pos hk2]
        unfold fst_
        by_cases q1 : L k 0 = it
        · rw [if_pos q1]
          by_cases q2 : da < L k 1
          · rw [if_pos q2, if_pos (Or.inr q2)]
          · have q12 : ¬ (¬ L k 0 = it ∨ da < L k 1) := fun z => z.elim (fun y => y q1) q2
            rw [if_neg q2]
            by_cases q3 : L k 1 < L j 1
            · simp only [if_pos q3, if_neg q12]
            · simp only [if_neg q3, if_neg q12]
        · rw [if_neg q1, if_pos (Or.inl q1)]
    · intro j hj
      unfold fst_ at hj
      split at hj
      · have := hi j hj; omega
      · split at hj
        · cases hj; omega
        · rename_i j0
          have := hi j0 rfl
          split at hj
          · cases hj; omega
          · cases hj; omega) n 0 none (by omega) (fun j hj => by cases hj)
  obtain ⟨L1, L2⟩ := L9
  simp (disch := first | omega | assumption | decide | (apply bT_; decide)) only [s28_0, s28_1, s28_3, s28_4, s28_8, s28_9, s28_12, s28_14, s28_15, s28_18, s28_21, s28_22, s28_25, s28_27, s28_28, s28_29, s28_32, s28_33, s28_36, s28_38, s28_39, s28_40, s28_43, s28_45, s28_46, s28_49, s28_50, s28_53, s28_55, s28_56, s28_57, s28_60, s28_62, s28_63, s28_66, s28_68, s28_70, s28_73, s28_76, s28_78, s28_79, s28_82, s28_84, s28_87, s28_88, s28_91, s28_93, s28_94, K_v, K_0, acI, acA, acJ, acX, List.map_cons, List.map_nil, List.sum_cons, List.sum_nil, true_and, and_true, posT, b2_0, b2_1, bft, true_or, or_true, Nat.zero_le, Nat.reduceAdd, Nat.reduceLeDiff, hI_uI, hL_uI, hR_uI, nx_uI, sl_uI, hI_uL, hL_uL, hR_uL, nx_uL, sl_uL, hI_uR, hL_uR, hR_uR, nx_uR, sl_uR, st_eq, if_true, if_false, eq_self, Nat.reduceEqDiff, Nat.reduceMul, reduceIte, kdT, ixT, w_cl, w_ti, w_s1, w_a, w_m12, w_m8, w_m3, w_m4]
  refine (show V_ xs d 28 6 [vA (some 28311555), vI it, vI da, vI (Int32.ofNat n), vI (oi_ none), vI (Int32.ofNat 0)] [] h Q ↔ _ from L1).trans ?_
  rw [s28_6]
  unfold hol_ hof_
  cases ho : it_ (fst_ L it da) n 0 none with
  | none =>
    simp (disch := first | omega | assumption | decide | (apply bT_; decide)) only [s28_0, s28_1, s28_3, s28_4, s28_8, s28_9, s28_12, s28_14, s28_15, s28_18, s28_21, s28_22, s28_25, s28_27, s28_28, s28_29, s28_32, s28_33, s28_36, s28_38, s28_39, s28_40, s28_43, s28_45, s28_46, s28_49, s28_50, s28_53, s28_55, s28_56, s28_57, s28_60, s28_62, s28_63, s28_66, s28_68, s28_70, s28_73, s28_76, s28_78, s28_79, s28_82, s28_84, s28_87, s28_88, s28_91, s28_93, s28_94, K_v, K_0, acI, acA, acJ, acX, List.map_cons, List.map_nil, List.sum_cons, List.sum_nil, true_and, and_true, posT, b2_0, b2_1, bft, true_or, or_true, Nat.zero_le, Nat.reduceAdd, Nat.reduceLeDiff, hI_uI, hL_uI, hR_uI, nx_uI, sl_uI, hI_uL, hL_uL, hR_uL, nx_uL, sl_uL, hI_uR, hL_uR, hR_uR, nx_uR, sl_uR, st_eq, if_true, if_false, eq_self, Nat.reduceEqDiff, Nat.reduceMul, reduceIte, kdT, ixT, w_cl, w_ti, w_s1, w_a, w_m12, w_m8, w_m3, w_m4, oi_, w_lt]
    rw [if_neg (by omega)]
  | some j =>
    have hj := L2 j ho
    obtain ⟨g4, g5, g6⟩ := e3 j (by omega)
    have hm1 := oi_m1 (show j < 2147483648 by omega)
    simp (disch := first | omega | assumption | decide | (apply bT_; decide)) only [s28_0, s28_1, s28_3, s28_4, s28_8, s28_9, s28_12, s28_14, s28_15, s28_18, s28_21, s28_22, s28_25, s28_27, s28_28, s28_29, s28_32, s28_33, s28_36, s28_38, s28_39, s28_40, s28_43, s28_45, s28_46, s28_49, s28_50, s28_53, s28_55, s28_56, s28_57, s28_60, s28_62, s28_63, s28_66, s28_68, s28_70, s28_73, s28_76, s28_78, s28_79, s28_82, s28_84, s28_87, s28_88, s28_91, s28_93, s28_94, K_v, K_0, acI, acA, acJ, acX, List.map_cons, List.map_nil, List.sum_cons, List.sum_nil, true_and, and_true, posT, b2_0, b2_1, bft, true_or, or_true, Nat.zero_le, Nat.reduceAdd, Nat.reduceLeDiff, hI_uI, hL_uI, hR_uI, nx_uI, sl_uI, hI_uL, hL_uL, hR_uL, nx_uL, sl_uL, hI_uR, hL_uR, hR_uR, nx_uR, sl_uR, st_eq, if_true, if_false, eq_self, Nat.reduceEqDiff, Nat.reduceMul, reduceIte, kdT, ixT, w_cl, w_ti, w_s1, w_a, w_m12, w_m8, w_m3, w_m4, hC.x0, hC.x2, hC.x4, hC.x7, hC.x8, hC.x9, hC.x11, hC.f0, hC.f1, hC.f2, hC.p0, hC.p1, hC.p2, hC.p3, hC.l1, hC.l2, hC.l3, hC.l4, hC.d0, hC.d1, hC.d2, hC.g1, hC.g2, hC.g3, hC.g4, hC.k1, hC.k2, hC.k3, hC.k4, g6, oi_, hm1, w_lt, kd_LH, ln_LH]
    rw [if_neg (by omega)]
theorem x_where {it da n : Int32} (hC : CS_ h) (hL : CL_ nf L h) (hd : 3 ≤ d) : 
    (if okW_ nf it n = true then Do_ xs d 79 [vA (some 25165831), vI it, vI da, vI n] h (some (some (vI (hol_ L it da n.toNatClampNeg)))) h
     else Do_ xs d 79 [vA (some 25165831), vI it, vI da, vI n] h none (xh_ h)) := by
  obtain ⟨e1, e2, -, e3⟩ := id hL
  by_cases c : okW_ nf it n = true
  · rw [if_pos c]
    unfold okW_ at c
    rw [Bool.and_eq_true] at c
    obtain ⟨c1, c2⟩ := c
    have c3 := wi_t.mp c2
    obtain ⟨k, rfl, hk1, hk2⟩ := w_of (x := n) (by have : (0 : Int32).toInt = 0 := rfl; omega)
    have hk : k ≤ nf := by rw [w_ti (by omega : nf < 2147483648)] at c3; omega
    rw [w_cl hk2]
    intro Q
    simp (disch := first | omega | assumption | decide | (apply bT_; decide)) only [s79_0, s79_1, s79_4, s79_5, s79_8, s79_11, s79_12, s79_13, s79_14, s79_17, s79_20, s79_23, s79_26, s79_29, s79_29i, s79_34, s79_35, s79_38, s79_39, s79_40, s79_41, s79_44, K_v, K_0, acI, acA, acJ, acX, List.map_cons, List.map_nil, List.sum_cons, List.sum_nil, true_and, and_true, posT, b2_0, b2_1, bft, true_or, or_true, Nat.zero_le, Nat.reduceAdd, Nat.reduceLeDiff, hI_uI, hL_uI, hR_uI, nx_uI, sl_uI, hI_uL, hL_uL, hR_uL, nx_uL, sl_uL, hI_uR, hL_uR, hR_uR, nx_uR, sl_uR, st_eq, if_true, if_false, eq_self, Nat.reduceEqDiff, Nat.reduceMul, reduceIte, kdT, ixT, w_cl, w_ti, w_s1, w_a, w_m12, w_m8, w_m3, w_m4, hC.x0, hC.x2, hC.x4, hC.x7, hC.x8, hC.x9, hC.x11, hC.f0, hC.f1, hC.f2, hC.p0, hC.p1, hC.p2, hC.p3, hC.l1, hC.l2, hC.l3, hC.l4, hC.d0, hC.d1, hC.d2, hC.g1, hC.g2, hC.g3, hC.g4, hC.k1, hC.k2, hC.k3, hC.k4, e1, c_isItem, c_within, c1, c2, c_holderOf hC hL hk, Bool.true_eq_false]
  · rw [if_neg c]
    unfold okW_ at c
    rw [Bool.and_eq_true] at c
    intro Q
    by_cases q1 : wi_ it 0 19 = false
    · simp (disch := first | omega | assumption | decide | (apply bT_; decide)) only [s79_0, s79_1, s79_4, s79_5, s79_8, s79_12, s79_13, s79_14, s79_17, s79_20, s79_23, s79_26, s79_29, s79_29i, s79_34, s79_35, s79_38, s79_39, s79_40, s79_41, s79_44, K_v, K_0, acI, acA, acJ, acX, List.map_cons, List.map_nil, List.sum_cons, List.sum_nil, true_and, and_true, posT, b2_0, b2_1, bft, true_or, or_true, Nat.zero_le, Nat.reduceAdd, Nat.reduceLeDiff, hI_uI, hL_uI, hR_uI, nx_uI, sl_uI, hI_uL, hL_uL, hR_uL, nx_uL, sl_uL, hI_uR, hL_uR, hR_uR, nx_uR, sl_uR, st_eq, if_true, if_false, eq_self, Nat.reduceEqDiff, Nat.reduceMul, reduceIte, kdT, ixT, w_cl, w_ti, w_s1, w_a, w_m12, w_m8, w_m3, w_m4, hC.x0, hC.x2, hC.x4, hC.x7, hC.x8, hC.x9, hC.x11, hC.f0, hC.f1, hC.f2, hC.p0, hC.p1, hC.p2, hC.p3, hC.l1, hC.l2, hC.l3, hC.l4, hC.d0, hC.d1, hC.d2, hC.g1, hC.g2, hC.g3, hC.g4, hC.k1, hC.k2, hC.k3, hC.k4, c_isItem, q1]
    · have q2 : wi_ it 0 19 = true := by simpa using q1
      have q3 : wi_ n 0 (Int32.ofNat nf) = false := by
        cases hq : wi_ n 0 (Int32.ofNat nf)
        · rfl
        · exact absurd ⟨q2, hq⟩ c
      simp (disch := first | omega | assumption | decide | (apply bT_; decide)) only [s79_0, s79_1, s79_4, s79_5, s79_8, s79_11, s79_12, s79_13, s79_14, s79_17, s79_20, s79_23, s79_26, s79_29, s79_29i, s79_34, s79_35, s79_38, s79_39, s79_40, s79_41, s79_44, K_v, K_0, acI, acA, acJ, acX, List.map_cons, List.map_nil, List.sum_cons, List.sum_nil, true_and, and_true, posT, b2_0, b2_1, bft, true_or, or_true, Nat.zero_le, Nat.reduceAdd, Nat.reduceLeDiff, hI_uI, hL_uI, hR_uI, nx_uI, sl_uI, hI_uL, hL_uL, hR_uL, nx_uL, sl_uL, hI_uR, hL_uR, hR_uR, nx_uR, sl_uR, st_eq, if_true, if_false, eq_self, Nat.reduceEqDiff, Nat.reduceMul, reduceIte, kdT, ixT, w_cl, w_ti, w_s1, w_a, w_m12, w_m8, w_m3, w_m4, hC.x0, hC.x2, hC.x4, hC.x7, hC.x8, hC.x9, hC.x11, hC.f0, hC.f1, hC.f2, hC.p0, hC.p1, hC.p2, hC.p3, hC.l1, hC.l2, hC.l3, hC.l4, hC.d0, hC.d1, hC.d2, hC.g1, hC.g2, hC.g3, hC.g4, hC.k1, hC.k2, hC.k3, hC.k4, e1, c_isItem, c_within, q2, q3, Bool.true_eq_false]
end CLD
