/-! the model's actors -/
theorem uI_uI {h : AH} {a : Nat} {f g : Nat → Int32} : uI_ (uI_ h a f) a g = uI_ h a g := by
  unfold uI_
  congr 1
  funext b
  split
  · rfl
  · rename_i hb; exact if_neg hb
theorem uI_self {h : AH} {a : Nat} : uI_ h a (hI_ h a) = h := by
  unfold uI_ hI_
  refine Prod.ext ?_ rfl
  funext b
  show (if b = a then h.1 a else h.1 b) = h.1 b
  split
  · rename_i hb; rw [hb]
  · rfl
theorem uL_uL {h : AH} {a : Nat} {f g : Nat → Int64} : uL_ (uL_ h a f) a g = uL_ h a g := by
  unfold uL_
  congr 2
  funext b
  split
  · rfl
  · rename_i hb; exact if_neg hb
theorem uL_self {h : AH} {a : Nat} : uL_ h a (hL_ h a) = h := by
  unfold uL_ hL_
  refine Prod.ext rfl (Prod.ext ?_ rfl)
  funext b
  show (if b = a then h.2.1 a else h.2.1 b) = h.2.1 b
  split
  · rename_i hb; rw [hb]
  · rfl
section MAC
variable {xs : Nat → Int32} {d : Nat} {h : AH} {na : Nat} {F G : Nat → Nat → Int32}
/-- numbers as told for an actor -/
def okA_t (fee birth joined : Int32) : Bool := wi_ fee 1 100 && (wi_ birth (-100000) 100000 && wi_ joined (-100000) 100000)
def upF_ (F : Nat → Nat → Int32) (i : Nat) (v : Nat → Int32) : Nat → Nat → Int32 := fun a j => if a = i then v j else F a j
def fa_ (fee birth joined g : Int32) : Nat → Int32 := fun j => if j = 0 then fee else if j = 1 then birth else if j = 2 then joined else if j = 3 then g else 1
theorem m_actor_l {v1 v2 v3 v4 : AV} {Q : OU_ → AH → Prop} (hM : MS_ h) (e1 : hI_ h 33554440 1 = Int32.ofNat na) (c1 : na < 12) : V_ xs d 109 102 [vA (some 33554440), v1, v2, v3, v4, vI 0] [] h Q ↔ V_ xs d 109 131 [vA (some 33554440), v1, v2, v3, v4, vI (Int32.ofNat 12)] [] (uI_ h 35136528 (it_ (fun k r => st_ r (12 * na + k) 0) 12 0 (hI_ h 35136528))) Q := by
  have L := loop_ (P := fun k r => V_ xs d 109 102 [vA (some 33554440), v1, v2, v3, v4, vI (Int32.ofNat k)] [] (uI_ h 35136528 r) Q) (f := fun k r => st_ r (12 * na + k) 0) (n := 12) (fun _ _ => True) (fun k r hk _ => ⟨by
    rw [s109_102]
    simp (disch := first | omega | assumption | decide) only [s109_0, s109_1, s109_2, s109_5, s109_6, s109_9, s109_11, s109_14, s109_15, s109_16, s109_18, s109_21, s109_24, s109_25, s109_27, s109_29, s109_32, s109_35, s109_36, s109_38, s109_40, s109_43, s109_46, s109_47, s109_48, s109_49, s109_52, s109_53, s109_56, s109_57, s109_58, s109_59, s109_62, s109_63, s109_66, s109_67, s109_68, s109_69, s109_72, s109_73, s109_76, s109_77, s109_78, s109_79, s109_82, s109_83, s109_86, s109_88, s109_89, s109_90, s109_93, s109_94, s109_97, s109_98, s109_99, s109_100, s109_104, s109_106, s109_109, s109_110, s109_113, s109_115, s109_116, s109_119, s109_120, s109_122, s109_123, s109_124, s109_125, s109_128, s109_131, s109_132, s109_132i, s109_133, s109_136, s109_137, s109_138, s109_141, s109_142, s109_145, s109_146, s109_147, K_v, K_0, acI, acA, acJ, acX, List.map_cons, List.map_nil, List.sum_cons, List.sum_nil, true_and, and_true, posT, b2_0, b2_1, bft, true_or, or_true, Nat.zero_le, Nat.reduceAdd, Nat.reduceLeDiff, hI_uI, hL_uI, hR_uI, nx_uI, sl_uI, hI_uL, hL_uL, hR_uL, nx_uL, sl_uL, hI_uR, hL_uR, hR_uR, nx_uR, sl_uR, st_eq, if_true, if_false, eq_self, Nat.reduceEqDiff, Nat.reduceMul, reduceIte, kdT, ixT, w_cl, w_ti, w_s1, w_a, w_m12, w_m8, w_m3, w_m4, hM.r2, hM.r3, hM.r4, hM.r5, hM.r6, hM.r7, hM.r9, hM.r10, hM.r11, hM.r12, hM.r13, hM.r14, hM.r15, hM.r16, hM.r17, hM.r18, hM.r20, hM.r21, hM.r23, hM.r29, hM.r30, hM.r35, hM.r36, hM.r37, hM.r38, hM.r40, hM.r42, hM.r43, hM.r44, hM.r45, hM.r46, hM.r47, e1, kd_mGrade, ln_mGrade, w12, uI_uI]
    rw [if_pos hk], trivial⟩) 12 0 (hI_ h 35136528) rfl trivial
  have L1 := L.1
  rw [uI_self] at L1
  refine L1.trans ?_
  rw [s109_102]
  simp (disch := first | omega | assumption | decide) only [s109_0, s109_1, s109_2, s109_5, s109_6, s109_9, s109_11, s109_14, s109_15, s109_16, s109_18, s109_21, s109_24, s109_25, s109_27, s109_29, s109_32, s109_35, s109_36, s109_38, s109_40, s109_43, s109_46, s109_47, s109_48, s109_49, s109_52, s109_53, s109_56, s109_57, s109_58, s109_59, s109_62, s109_63, s109_66, s109_67, s109_68, s109_69, s109_72, s109_73, s109_76, s109_77, s109_78, s109_79, s109_82, s109_83, s109_86, s109_88, s109_89, s109_90, s109_93, s109_94, s109_97, s109_98, s109_99, s109_100, s109_104, s109_106, s109_109, s109_110, s109_113, s109_115, s109_116, s109_119, s109_120, s109_122, s109_123, s109_124, s109_125, s109_128, s109_132, s109_132i, s109_133, s109_136, s109_137, s109_138, s109_141, s109_142, s109_145, s109_146, s109_147, K_v, K_0, acI, acA, acJ, acX, List.map_cons, List.map_nil, List.sum_cons, List.sum_nil, true_and, and_true, posT, b2_0, b2_1, bft, true_or, or_true, Nat.zero_le, Nat.reduceAdd, Nat.reduceLeDiff, hI_uI, hL_uI, hR_uI, nx_uI, sl_uI, hI_uL, hL_uL, hR_uL, nx_uL, sl_uL, hI_uR, hL_uR, hR_uR, nx_uR, sl_uR, st_eq, if_true, if_false, eq_self, Nat.reduceEqDiff, Nat.reduceMul, reduceIte, kdT, ixT, w_cl, w_ti, w_s1, w_a, w_m12, w_m8, w_m3, w_m4, w12]
  rw [if_neg (by omega)]
theorem zr_it (na : Nat) (r : Nat → Int32) : ∀ (k i j : Nat), it_ (fun k r => st_ r (12 * na + k) 0) k i r j = if 12 * na + i ≤ j ∧ j < 12 * na + i + k then 0 else r j := by
  intro k
  induction k generalizing r with
  | zero => intro i j; rw [if_neg (by omega)]; rfl
  | succ k ih =>
    intro i j
    show it_ _ k (i + 1) (st_ r (12 * na + i) 0) j = _
    rw [ih, st_eq]
    by_cases c : 12 * na + i + 1 ≤ j ∧ j < 12 * na + i + 1 + k
    · rw [if_pos (by omega), if_pos (by omega)]
    · rw [if_neg (by omega)]
      by_cases c2 : j = 12 * na + i
      · rw [if_pos c2, if_pos (by omega)]
      · rw [if_neg c2, if_neg (by omega)]
theorem m_actor {fee birth joined g : Int32} (hM : MS_ h) (hA : MA_ na F G h) (hg : g = 0 ∨ g = 1) (hd : 2 ≤ d) : ∃ h', FM_ [33817360, 34079504, 34341648, 34603794, 34865938, 35136528] [0, 1] h h' ∧ hI_ h' 33554440 0 = 0 ∧
    (if na < 12 ∧ okA_t fee birth joined = true then Do_ xs d 109 [vA (some 33554440), vI fee, vI birth, vI joined, vI g, vX 0] h (some (some (vI (Int32.ofNat na)))) h' ∧ MA_ (na + 1) (upF_ F na (fa_ fee birth joined g)) (upF_ G na (fun _ => 0)) h'
     else Do_ xs d 109 [vA (some 33554440), vI fee, vI birth, vI joined, vI g, vX 0] h (some (some (vI (-1)))) h' ∧ MA_ na F G h') := by
  obtain ⟨e1, e2, e3, e4⟩ := id hA
  have hb1 : kd_ 34603794 = 17 ∧ nb_ 4 g = true ∨ kd_ 34603794 = 18 ∧ nb_ 3 g = true := Or.inr ⟨rfl, nb_3.mpr hg⟩
  have hb2 : kd_ 34865938 = 17 ∧ nb_ 4 1 = true ∨ kd_ 34865938 = 18 ∧ nb_ 3 1 = true := Or.inr ⟨rfl, rfl⟩
  by_cases c : na < 12 ∧ okA_t fee birth joined = true
  · simp only [if_pos c]
    obtain ⟨c1, c2⟩ := c
    unfold okA_t at c2
    rw [Bool.and_eq_true, Bool.and_eq_true] at c2
    obtain ⟨c3, c4, c5⟩ := c2
    have hne : ¬ (Int32.ofNat na = 12) := by rw [e12 (by omega)]; omega
    have c9 : (0 : Nat) = 0 := rfl
    obtain ⟨h1, hh1⟩ : ∃ h1, h1 = uI_ (uI_ (uI_ (uI_ (uI_ (uI_ h 33554440 (st_ (hI_ h 33554440) 0 0)) 33817360 (st_ (hI_ h 33817360) na fee)) 34079504 (st_ (hI_ h 34079504) na birth)) 34341648 (st_ (hI_ h 34341648) na joined)) 34603794 (st_ (hI_ h 34603794) na g)) 34865938 (st_ (hI_ h 34865938) na 1) := ⟨_, rfl⟩
    have f1 : FM_ [33817360, 34079504, 34341648, 34603794, 34865938, 35136528] [0, 1] h h1 := by
      rw [hh1]
      exact ((((((FM_.rf.uM (by decide)).uW (by decide) (by decide)).uW (by decide) (by decide)).uW (by decide) (by decide)).uW (by decide) (by decide)).uW (by decide) (by decide))
    have hM1 : MS_ h1 := f1.MS hM
    have e1' : hI_ h1 33554440 1 = Int32.ofNat na := by
      rw [hh1]
      simp only [hI_uI, hL_uI, hR_uI, nx_uI, sl_uI, hI_uL, hL_uL, hR_uL, nx_uL, sl_uL, hI_uR, hL_uR, hR_uR, nx_uR, sl_uR, st_eq, if_true, if_false, eq_self, Nat.reduceEqDiff, Nat.reduceMul, reduceIte, kdT, ixT, w_cl, w_ti, w_s1, w_a, w_m12, w_m8, w_m3, w_m4, e1]
    refine ⟨uI_ (uI_ h1 35136528 (it_ (fun k r => st_ r (12 * na + k) 0) 12 0 (hI_ h1 35136528))) 33554440 (st_ (hI_ h1 33554440) 1 (Int32.ofNat (na + 1))), ?_, ?_, fun Q => ?_, ?_⟩
    · exact (f1.uW (by decide) (by decide)).uM (j := 1) (by decide)
    · rw [hh1]
      simp only [hI_uI, hL_uI, hR_uI, nx_uI, sl_uI, hI_uL, hL_uL, hR_uL, nx_uL, sl_uL, hI_uR, hL_uR, hR_uR, nx_uR, sl_uR, st_eq, if_true, if_false, eq_self, Nat.reduceEqDiff, Nat.reduceMul, reduceIte, kdT, ixT, w_cl, w_ti, w_s1, w_a, w_m12, w_m8, w_m3, w_m4]
    · have L := m_actor_l (xs := xs) (d := d) (v1 := vI fee) (v2 := vI birth) (v3 := vI joined) (v4 := vI g) (Q := Q) hM1 e1' c1
      simp (disch := first | omega | assumption | decide) only [s109_0, s109_1, s109_2, s109_5, s109_6, s109_9, s109_11, s109_14, s109_15, s109_16, s109_18, s109_21, s109_24, s109_25, s109_27, s109_29, s109_32, s109_35, s109_36, s109_38, s109_40, s109_43, s109_46, s109_47, s109_48, s109_49, s109_52, s109_53, s109_56, s109_57, s109_58, s109_59, s109_62, s109_63, s109_66, s109_67, s109_68, s109_69, s109_72, s109_73, s109_76, s109_77, s109_78, s109_79, s109_82, s109_83, s109_86, s109_88, s109_89, s109_90, s109_93, s109_94, s109_97, s109_98, s109_99, s109_100, s109_104, s109_106, s109_109, s109_110, s109_113, s109_115, s109_116, s109_119, s109_120, s109_122, s109_123, s109_124, s109_125, s109_128, s109_131, s109_132, s109_132i, s109_133, s109_136, s109_137, s109_138, s109_141, s109_142, s109_145, s109_146, s109_147, K_v, K_0, acI, acA, acJ, acX, List.map_cons, List.map_nil, List.sum_cons, List.sum_nil, true_and, and_true, posT, b2_0, b2_1, bft, true_or, or_true, Nat.zero_le, Nat.reduceAdd, Nat.reduceLeDiff, hI_uI, hL_uI, hR_uI, nx_uI, sl_uI, hI_uL, hL_uL, hR_uL, nx_uL, sl_uL, hI_uR, hL_uR, hR_uR, nx_uR, sl_uR, st_eq, if_true, if_false, eq_self, Nat.reduceEqDiff, Nat.reduceMul, reduceIte, kdT, ixT, w_cl, w_ti, w_s1, w_a, w_m12, w_m8, w_m3, w_m4, hM.r2, hM.r3, hM.r4, hM.r5, hM.r6, hM.r7, hM.r9, hM.r10, hM.r11, hM.r12, hM.r13, hM.r14, hM.r15, hM.r16, hM.r17, hM.r18, hM.r20, hM.r21, hM.r23, hM.r29, hM.r30, hM.r35, hM.r36, hM.r37, hM.r38, hM.r40, hM.r42, hM.r43, hM.r44, hM.r45, hM.r46, hM.r47, e1, c_mwithin, c3, c4, c5, hne, kd_mFee, ln_mFee, kd_mBirth, ln_mBirth, kd_mJoined, ln_mJoined, kd_mGuest, ln_mGuest, kd_mIn, ln_mIn, Bool.true_eq_false]
      rw [← hh1, L]
      simp (disch := first | omega | assumption | decide) only [s109_0, s109_1, s109_2, s109_5, s109_6, s109_9, s109_11, s109_14, s109_15, s109_16, s109_18, s109_21, s109_24, s109_25, s109_27, s109_29, s109_32, s109_35, s109_36, s109_38, s109_40, s109_43, s109_46, s109_47, s109_48, s109_49, s109_52, s109_53, s109_56, s109_57, s109_58, s109_59, s109_62, s109_63, s109_66, s109_67, s109_68, s109_69, s109_72, s109_73, s109_76, s109_77, s109_78, s109_79, s109_82, s109_83, s109_86, s109_88, s109_89, s109_90, s109_93, s109_94, s109_97, s109_98, s109_99, s109_100, s109_104, s109_106, s109_109, s109_110, s109_113, s109_115, s109_116, s109_119, s109_120, s109_122, s109_123, s109_124, s109_125, s109_128, s109_131, s109_132, s109_132i, s109_133, s109_136, s109_137, s109_138, s109_141, s109_142, s109_145, s109_146, s109_147, K_v, K_0, acI, acA, acJ, acX, List.map_cons, List.map_nil, List.sum_cons, List.sum_nil, true_and, and_true, posT, b2_0, b2_1, bft, true_or, or_true, Nat.zero_le, Nat.reduceAdd, Nat.reduceLeDiff, hI_uI, hL_uI, hR_uI, nx_uI, sl_uI, hI_uL, hL_uL, hR_uL, nx_uL, sl_uL, hI_uR, hL_uR, hR_uR, nx_uR, sl_uR, st_eq, if_true, if_false, eq_self, Nat.reduceEqDiff, Nat.reduceMul, reduceIte, kdT, ixT, w_cl, w_ti, w_s1, w_a, w_m12, w_m8, w_m3, w_m4, e1']
      rw [w_p1 (by omega)]
      rfl
    · refine ⟨?_, by omega, fun i hi => ?_, fun i k hi hk => ?_⟩
      · simp only [hI_uI, hL_uI, hR_uI, nx_uI, sl_uI, hI_uL, hL_uL, hR_uL, nx_uL, sl_uL, hI_uR, hL_uR, hR_uR, nx_uR, sl_uR, st_eq, if_true, if_false, eq_self, Nat.reduceEqDiff, Nat.reduceMul, reduceIte, kdT, ixT, w_cl, w_ti, w_s1, w_a, w_m12, w_m8, w_m3, w_m4]
      · rw [hh1]
        simp only [hI_uI, hL_uI, hR_uI, nx_uI, sl_uI, hI_uL, hL_uL, hR_uL, nx_uL, sl_uL, hI_uR, hL_uR, hR_uR, nx_uR, sl_uR, st_eq, if_true, if_false, eq_self, Nat.reduceEqDiff, Nat.reduceMul, reduceIte, kdT, ixT, w_cl, w_ti, w_s1, w_a, w_m12, w_m8, w_m3, w_m4, upF_, fa_]
        by_cases q : i = na
        · simp only [if_pos q, Nat.reduceEqDiff, reduceIte, true_and]
        · simp only [if_neg q]
          exact e3 i (by omega)
      · rw [hh1]
        simp only [hI_uI, hL_uI, hR_uI, nx_uI, sl_uI, hI_uL, hL_uL, hR_uL, nx_uL, sl_uL, hI_uR, hL_uR, hR_uR, nx_uR, sl_uR, st_eq, if_true, if_false, eq_self, Nat.reduceEqDiff, Nat.reduceMul, reduceIte, kdT, ixT, w_cl, w_ti, w_s1, w_a, w_m12, w_m8, w_m3, w_m4, upF_, zr_it]
        by_cases q : i = na
        · rw [if_pos q, if_pos (by omega)]
        · rw [if_neg q, if_neg (by omega)]
          exact e4 i k (by omega) hk
  · simp only [if_neg c]
    refine ⟨uI_ h 33554440 (st_ (hI_ h 33554440) 0 0), FM_.rf.uM (by decide), by simp only [hI_uI, hL_uI, hR_uI, nx_uI, sl_uI, hI_uL, hL_uL, hR_uL, nx_uL, sl_uL, hI_uR, hL_uR, hR_uR, nx_uR, sl_uR, st_eq, if_true, if_false, eq_self, Nat.reduceEqDiff, Nat.reduceMul, reduceIte, kdT, ixT, w_cl, w_ti, w_s1, w_a, w_m12, w_m8, w_m3, w_m4], fun Q => ?_, MA_.eq (by simp only [hI_uI, hL_uI, hR_uI, nx_uI, sl_uI, hI_uL, hL_uL, hR_uL, nx_uL, sl_uL, hI_uR, hL_uR, hR_uR, nx_uR, sl_uR, st_eq, if_true, if_false, eq_self, Nat.reduceEqDiff, Nat.reduceMul, reduceIte, kdT, ixT, w_cl, w_ti, w_s1, w_a, w_m12, w_m8, w_m3, w_m4]) (by simp only [hI_uI, hL_uI, hR_uI, nx_uI, sl_uI, hI_uL, hL_uL, hR_uL, nx_uL, sl_uL, hI_uR, hL_uR, hR_uR, nx_uR, sl_uR, st_eq, if_true, if_false, eq_self, Nat.reduceEqDiff, Nat.reduceMul, reduceIte, kdT, ixT, w_cl, w_ti, w_s1, w_a, w_m12, w_m8, w_m3, w_m4]) (by simp only [hI_uI, hL_uI, hR_uI, nx_uI, sl_uI, hI_uL, hL_uL, hR_uL, nx_uL, sl_uL, hI_uR, hL_uR, hR_uR, nx_uR, sl_uR, st_eq, if_true, if_false, eq_self, Nat.reduceEqDiff, Nat.reduceMul, reduceIte, kdT, ixT, w_cl, w_ti, w_s1, w_a, w_m12, w_m8, w_m3, w_m4]) (by simp only [hI_uI, hL_uI, hR_uI, nx_uI, sl_uI, hI_uL, hL_uL, hR_uL, nx_uL, sl_uL, hI_uR, hL_uR, hR_uR, nx_uR, sl_uR, st_eq, if_true, if_false, eq_self, Nat.reduceEqDiff, Nat.reduceMul, reduceIte, kdT, ixT, w_cl, w_ti, w_s1, w_a, w_m12, w_m8, w_m3, w_m4]) (by simp only [hI_uI, hL_uI, hR_uI, nx_uI, sl_uI, hI_uL, hL_uL, hR_uL, nx_uL, sl_uL, hI_uR, hL_uR, hR_uR, nx_uR, sl_uR, st_eq, if_true, if_false, eq_self, Nat.reduceEqDiff, Nat.reduceMul, reduceIte, kdT, ixT, w_cl, w_ti, w_s1, w_a, w_m12, w_m8, w_m3, w_m4]) (by simp only [hI_uI, hL_uI, hR_uI, nx_uI, sl_uI, hI_uL, hL_uL, hR_uL, nx_uL, sl_uL, hI_uR, hL_uR, hR_uR, nx_uR, sl_uR, st_eq, if_true, if_false, eq_self, Nat.reduceEqDiff, Nat.reduceMul, reduceIte, kdT, ixT, w_cl, w_ti, w_s1, w_a, w_m12, w_m8, w_m3, w_m4]) (by simp only [hI_uI, hL_uI, hR_uI, nx_uI, sl_uI, hI_uL, hL_uL, hR_uL, nx_uL, sl_uL, hI_uR, hL_uR, hR_uR, nx_uR, sl_uR, st_eq, if_true, if_false, eq_self, Nat.reduceEqDiff, Nat.reduceMul, reduceIte, kdT, ixT, w_cl, w_ti, w_s1, w_a, w_m12, w_m8, w_m3, w_m4]) hA⟩
    simp (disch := first | omega | assumption | decide) only [s109_0, s109_1, s109_2, s109_5, s109_6, s109_9, s109_11, s109_14, s109_15, s109_16, s109_18, s109_21, s109_24, s109_25, s109_27, s109_29, s109_32, s109_35, s109_36, s109_38, s109_40, s109_43, s109_46, s109_47, s109_49, s109_52, s109_53, s109_56, s109_57, s109_58, s109_59, s109_62, s109_63, s109_66, s109_67, s109_68, s109_69, s109_72, s109_73, s109_76, s109_77, s109_78, s109_79, s109_82, s109_83, s109_86, s109_88, s109_89, s109_90, s109_93, s109_94, s109_97, s109_98, s109_99, s109_100, s109_102, s109_104, s109_106, s109_109, s109_110, s109_113, s109_115, s109_116, s109_119, s109_120, s109_122, s109_123, s109_124, s109_125, s109_128, s109_131, s109_132, s109_132i, s109_133, s109_136, s109_137, s109_138, s109_141, s109_142, s109_145, s109_146, s109_147, K_v, K_0, acI, acA, acJ, acX, List.map_cons, List.map_nil, List.sum_cons, List.sum_nil, true_and, and_true, posT, b2_0, b2_1, bft, true_or, or_true, Nat.zero_le, Nat.reduceAdd, Nat.reduceLeDiff, hI_uI, hL_uI, hR_uI, nx_uI, sl_uI, hI_uL, hL_uL, hR_uL, nx_uL, sl_uL, hI_uR, hL_uR, hR_uR, nx_uR, sl_uR, st_eq, if_true, if_false, eq_self, Nat.reduceEqDiff, Nat.reduceMul, reduceIte, kdT, ixT, w_cl, w_ti, w_s1, w_a, w_m12, w_m8, w_m3, w_m4, hM.r2, hM.r3, hM.r4, hM.r5, hM.r6, hM.r7, hM.r9, hM.r10, hM.r11, hM.r12, hM.r13, hM.r14, hM.r15, hM.r16, hM.r17, hM.r18, hM.r20, hM.r21, hM.r23, hM.r29, hM.r30, hM.r35, hM.r36, hM.r37, hM.r38, hM.r40, hM.r42, hM.r43, hM.r44, hM.r45, hM.r46, hM.r47, e1, c_mwithin, e12]
    by_cases q1 : na = 12
    · rw [if_pos q1]
    · rw [if_neg q1]
      unfold okA_t at c
      rw [Bool.and_eq_true, Bool.and_eq_true] at c
      by_cases q2 : wi_ fee 1 100 = false
      · rw [if_pos q2]
      · rw [if_neg q2]
        by_cases q3 : wi_ birth (-100000) 100000 = false
        · rw [if_pos q3]
        · rw [if_neg q3]
          by_cases q4 : wi_ joined (-100000) 100000 = false
          · rw [if_pos q4]
          · exact absurd ⟨by omega, by simpa using q2, by simpa using q3, by simpa using q4⟩ c
end MAC
