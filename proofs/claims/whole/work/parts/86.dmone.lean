/-! the model reads an expression, or works it out -/
section MON
variable {xs : Nat → Int32} {d : Nat} {x0 : AH} {B : Nat → Int32} {N c k : Nat} {r : Nat → Int32} {Rd : Bool} {m : Nat → Int}
theorem bfz_ : b2_ false = 0 := rfl
theorem btz_ : b2_ true = 1 := rfl
theorem m_simple {D : Int32} (hB : HB_ xs B N c x0 Rd m) (H : MZ_ B N x0 k r) (hq : ¬ (stk_ B N k = 17 ∨ stk_ B N k = 4)) (hd : 9 ≤ d) : MRV_ (fun Q => V_ xs d 160 0 [vA (some 33554440), vI D, vX 0, vX 0, vX 0] [] (uI_ x0 33554440 r) Q) B N x0 Rd m (psm_ (stk_ B N) (vlk_ B N) k) := by
  obtain ⟨hR, hM, h56, hE⟩ := hB
  have hl := stk_lt (B := B) (N := N) (k := k)
  have n3 : r 52 = Int32.ofNat (stk_ B N k) := H.1.2.2.1
  have h54 := H.2.1
  have k10 : ¬ ((1 : Int32) = 0) := by decide
  have teq : ∀ (j n : Nat), n < 25 → (Int32.ofNat (stk_ B N j) = Int32.ofNat n ↔ stk_ B N j = n) := fun j n hn => w_eq (by have := stk_lt (B := B) (N := N) (k := j); omega) (by omega)
  have t17 : ¬ (Int32.ofNat (stk_ B N k) = 17) := fun z => hq (Or.inl ((teq k 17 (by omega)).mp z))
  have t4 : ¬ (Int32.ofNat (stk_ B N k) = 4) := fun z => hq (Or.inr ((teq k 4 (by omega)).mp z))
  obtain ⟨r1, a1, a2⟩ := m_next (xs := xs) (d := d - 1) hR H (by omega)
  have e56 : r1 56 = b2_ Rd := (a1.2.2 56 (by decide)).trans h56
  unfold psm_
  by_cases q1 : stk_ B N k = 18
  · rw [if_pos q1]
    have t18 : Int32.ofNat (stk_ B N k) = 18 := (teq k 18 (by omega)).mpr q1
    cases Rd
    · obtain ⟨a, ha, e57, hgu, -⟩ := hE rfl
      have e57' : r1 57 = Int32.ofNat a := (a1.2.2 57 (by decide)).trans e57
      have hk18 : kd_ 34603794 = 17 ∨ kd_ 34603794 = 18 := Or.inr rfl
      refine ⟨r1, decide (1 ≤ m 4), a1, fun _ => rfl, fun Q => ?_⟩
      by_cases q : 1 ≤ m 4
      · rw [decide_eq_true q] at hgu ⊢
        simp (disch := first | omega | assumption | decide | (apply bT_; decide)) only [s160_0, s160_1, s160_4, s160_8, s160_9, s160_10, s160_13, s160_15, s160_18, s160_19, s160_22, s160_23, s160_27, s160_29, s160_32, s160_33, s160_34, s160_37, s160_38, s160_39, s160_40, s160_43, s160_45, s160_48, s160_49, s160_52, s160_53, s160_54, s160_55, s160_58, s160_59, s160_62, s160_63, s160_64, s160_65, s160_66, s160_69, s160_72, s160_73, s160_76, s160_77, s160_78, s160_79, s160_80, s160_81, s160_82, s160_85, s160_86, s160_87, s160_88, s160_91, s160_92, s160_93, s160_94, s160_97, s160_99, s160_102, s160_103, s160_106, s160_107, s160_110, s160_113, s160_114, s160_117, s160_118, s160_121, s160_122, s160_125, s160_126, s160_130, s160_132, s160_135, s160_137, s160_140, s160_141, s160_142, s160_145, s160_146, s160_147, s160_148, s160_151, s160_152, s160_153, s160_156, s160_157, s160_160, s160_162, s160_165, s160_166, s160_169, s160_171, s160_174, s160_175, s160_176, s160_179, s160_180, s160_181, s160_182, s160_185, s160_187, s160_190, s160_191, s160_194, s160_195, s160_196, s160_197, s160_200, s160_201, s160_204, s160_205, s160_208, s160_209, s160_210, s160_213, s160_214, s160_215, s160_216, s160_219, s160_221, s160_222, s160_225, s160_226, s160_229, s160_232, s160_233, s160_236, s160_237, s160_238, s160_241, s160_243, s160_244, s160_245, s160_248, s160_251, s160_252, s160_253, s160_256, s160_258, s160_259, s160_260, s160_263, s160_264, s160_267, s160_268, K_v, K_0, acI, acA, acJ, acX, List.map_cons, List.map_nil, List.sum_cons, List.sum_nil, true_and, and_true, posT, b2_0, b2_1, bft, true_or, or_true, Nat.zero_le, Nat.reduceAdd, Nat.reduceLeDiff, hI_uI, hL_uI, hR_uI, nx_uI, sl_uI, hI_uL, hL_uL, hR_uL, nx_uL, sl_uL, hI_uR, hL_uR, hR_uR, nx_uR, sl_uR, st_eq, if_true, if_false, eq_self, Nat.reduceEqDiff, Nat.reduceMul, reduceIte, kdT, ixT, w_cl, w_ti, w_s1, w_a, w_m12, w_m8, w_m3, w_m4, hM.r2, hM.r3, hM.r4, hM.r5, hM.r6, hM.r7, hM.r9, hM.r10, hM.r11, hM.r12, hM.r13, hM.r14, hM.r15, hM.r16, hM.r17, hM.r18, hM.r20, hM.r21, hM.r23, hM.r29, hM.r30, hM.r35, hM.r36, hM.r37, hM.r38, hM.r40, hM.r42, hM.r43, hM.r44, hM.r45, hM.r46, hM.r47, h54, n3, if_neg t17, if_neg t4, if_pos t18, a2, e56, e57', hgu, bfz_, btz_, hk18, k10, kd_M, ln_M, kd_mGuest, ln_mGuest]
      · rw [decide_eq_false q] at hgu ⊢
        simp (disch := first | omega | assumption | decide | (apply bT_; decide)) only [s160_0, s160_1, s160_4, s160_8, s160_9, s160_10, s160_13, s160_15, s160_18, s160_19, s160_22, s160_23, s160_27, s160_29, s160_32, s160_33, s160_34, s160_37, s160_38, s160_39, s160_40, s160_43, s160_45, s160_48, s160_49, s160_52, s160_53, s160_54, s160_55, s160_58, s160_59, s160_62, s160_63, s160_64, s160_65, s160_66, s160_69, s160_72, s160_73, s160_76, s160_77, s160_78, s160_79, s160_80, s160_81, s160_82, s160_85, s160_86, s160_87, s160_88, s160_91, s160_92, s160_93, s160_94, s160_97, s160_99, s160_102, s160_103, s160_106, s160_107, s160_110, s160_113, s160_114, s160_117, s160_118, s160_121, s160_122, s160_126, s160_129, s160_130, s160_132, s160_135, s160_137, s160_140, s160_141, s160_142, s160_145, s160_146, s160_147, s160_148, s160_151, s160_152, s160_153, s160_156, s160_157, s160_160, s160_162, s160_165, s160_166, s160_169, s160_171, s160_174, s160_175, s160_176, s160_179, s160_180, s160_181, s160_182, s160_185, s160_187, s160_190, s160_191, s160_194, s160_195, s160_196, s160_197, s160_200, s160_201, s160_204, s160_205, s160_208, s160_209, s160_210, s160_213, s160_214, s160_215, s160_216, s160_219, s160_221, s160_222, s160_225, s160_226, s160_229, s160_232, s160_233, s160_236, s160_237, s160_238, s160_241, s160_243, s160_244, s160_245, s160_248, s160_251, s160_252, s160_253, s160_256, s160_258, s160_259, s160_260, s160_263, s160_264, s160_267, s160_268, K_v, K_0, acI, acA, acJ, acX, List.map_cons, List.map_nil, List.sum_cons, List.sum_nil, true_and, and_true, posT, b2_0, b2_1, bft, true_or, or_true, Nat.zero_le, Nat.reduceAdd, Nat.reduceLeDiff, hI_uI, hL_uI, hR_uI, nx_uI, sl_uI, hI_uL, hL_uL, hR_uL, nx_uL, sl_uL, hI_uR, hL_uR, hR_uR, nx_uR, sl_uR, st_eq, if_true, if_false, eq_self, Nat.reduceEqDiff, Nat.reduceMul, reduceIte, kdT, ixT, w_cl, w_ti, w_s1, w_a, w_m12, w_m8, w_m3, w_m4, hM.r2, hM.r3, hM.r4, hM.r5, hM.r6, hM.r7, hM.r9, hM.r10, hM.r11, hM.r12, hM.r13, hM.r14, hM.r15, hM.r16, hM.r17, hM.r18, hM.r20, hM.r21, hM.r23, hM.r29, hM.r30, hM.r35, hM.r36, hM.r37, hM.r38, hM.r40, hM.r42, hM.r43, hM.r44, hM.r45, hM.r46, hM.r47, h54, n3, if_neg t17, if_neg t4, if_pos t18, a2, e56, e57', hgu, bfz_, btz_, hk18, k10, kd_M, ln_M, kd_mGuest, ln_mGuest]
    · refine ⟨r1, false, a1, fun z => (by cases z), fun Q => ?_⟩
      simp (disch := first | omega | assumption | decide | (apply bT_; decide)) only [s160_0, s160_1, s160_4, s160_8, s160_9, s160_10, s160_13, s160_15, s160_18, s160_19, s160_22, s160_23, s160_27, s160_29, s160_32, s160_33, s160_34, s160_37, s160_38, s160_39, s160_40, s160_43, s160_45, s160_48, s160_49, s160_52, s160_53, s160_54, s160_55, s160_58, s160_59, s160_62, s160_63, s160_64, s160_65, s160_66, s160_69, s160_72, s160_73, s160_76, s160_77, s160_78, s160_79, s160_80, s160_81, s160_82, s160_85, s160_86, s160_87, s160_88, s160_91, s160_92, s160_93, s160_94, s160_97, s160_99, s160_102, s160_103, s160_106, s160_107, s160_110, s160_114, s160_117, s160_118, s160_121, s160_122, s160_125, s160_126, s160_129, s160_130, s160_132, s160_135, s160_137, s160_140, s160_141, s160_142, s160_145, s160_146, s160_147, s160_148, s160_151, s160_152, s160_153, s160_156, s160_157, s160_160, s160_162, s160_165, s160_166, s160_169, s160_171, s160_174, s160_175, s160_176, s160_179, s160_180, s160_181, s160_182, s160_185, s160_187, s160_190, s160_191, s160_194, s160_195, s160_196, s160_197, s160_200, s160_201, s160_204, s160_205, s160_208, s160_209, s160_210, s160_213, s160_214, s160_215, s160_216, s160_219, s160_221, s160_222, s160_225, s160_226, s160_229, s160_232, s160_233, s160_236, s160_237, s160_238, s160_241, s160_243, s160_244, s160_245, s160_248, s160_251, s160_252, s160_253, s160_256, s160_258, s160_259, s160_260, s160_263, s160_264, s160_267, s160_268, K_v, K_0, acI, acA, acJ, acX, List.map_cons, List.map_nil, List.sum_cons, List.sum_nil, true_and, and_true, posT, b2_0, b2_1, bft, true_or, or_true, Nat.zero_le, Nat.reduceAdd, Nat.reduceLeDiff, hI_uI, hL_uI, hR_uI, nx_uI, sl_uI, hI_uL, hL_uL, hR_uL, nx_uL, sl_uL, hI_uR, hL_uR, hR_uR, nx_uR, sl_uR, st_eq, if_true, if_false, eq_self, Nat.reduceEqDiff, Nat.reduceMul, reduceIte, kdT, ixT, w_cl, w_ti, w_s1, w_a, w_m12, w_m8, w_m3, w_m4, h54, n3, if_neg t17, if_neg t4, if_pos t18, a2, e56, bfz_, btz_, k10, kd_M, ln_M]
  · rw [if_neg q1]
    have t18 : ¬ (Int32.ofNat (stk_ B N k) = 18) := fun z => q1 ((teq k 18 (by omega)).mp z)
    by_cases q2 : stk_ B N k < 20
    · rw [if_pos q2]
      have t20 : Int32.ofNat (stk_ B N k) < 20 := (w_lt (b := 20) (by omega) (by omega)).mpr q2
      obtain ⟨r', b1, b2⟩ := m_fails (xs := xs) (d := d - 1) (w := 1) (Or.inl rfl) H
      have b2' : ∀ Q : OU_ → AH → Prop, V_ xs (d - 1) 156 0 [vA (some 33554440), vI 1] [] (uI_ x0 33554440 r) Q ↔ Q (some none) (uI_ x0 33554440 r') := b2
      refine ⟨r', false, b1, fun Q => ?_⟩
      simp (disch := first | omega | assumption | decide | (apply bT_; decide)) only [s160_0, s160_1, s160_4, s160_8, s160_9, s160_10, s160_13, s160_15, s160_18, s160_19, s160_22, s160_23, s160_27, s160_29, s160_32, s160_33, s160_34, s160_37, s160_38, s160_39, s160_40, s160_43, s160_45, s160_48, s160_49, s160_52, s160_53, s160_54, s160_55, s160_58, s160_59, s160_62, s160_63, s160_64, s160_65, s160_66, s160_69, s160_72, s160_73, s160_76, s160_77, s160_78, s160_79, s160_80, s160_81, s160_82, s160_85, s160_86, s160_87, s160_88, s160_91, s160_92, s160_93, s160_94, s160_97, s160_99, s160_103, s160_106, s160_107, s160_110, s160_113, s160_114, s160_117, s160_118, s160_121, s160_122, s160_125, s160_126, s160_129, s160_130, s160_131, s160_132, s160_135, s160_137, s160_140, s160_141, s160_142, s160_145, s160_146, s160_148, s160_151, s160_152, s160_153, s160_156, s160_157, s160_160, s160_162, s160_165, s160_166, s160_169, s160_171, s160_174, s160_175, s160_176, s160_179, s160_180, s160_181, s160_182, s160_185, s160_187, s160_190, s160_191, s160_194, s160_195, s160_196, s160_197, s160_200, s160_201, s160_204, s160_205, s160_208, s160_209, s160_210, s160_213, s160_214, s160_215, s160_216, s160_219, s160_221, s160_222, s160_225, s160_226, s160_229, s160_232, s160_233, s160_236, s160_237, s160_238, s160_241, s160_243, s160_244, s160_245, s160_248, s160_251, s160_252, s160_253, s160_256, s160_258, s160_259, s160_260, s160_263, s160_264, s160_267, s160_268, K_v, K_0, acI, acA, acJ, acX, List.map_cons, List.map_nil, List.sum_cons, List.sum_nil, true_and, and_true, posT, b2_0, b2_1, bft, true_or, or_true, Nat.zero_le, Nat.reduceAdd, Nat.reduceLeDiff, hI_uI, hL_uI, hR_uI, nx_uI, sl_uI, hI_uL, hL_uL, hR_uL, nx_uL, sl_uL, hI_uR, hL_uR, hR_uR, nx_uR, sl_uR, st_eq, if_true, if_false, eq_self, Nat.reduceEqDiff, Nat.reduceMul, reduceIte, kdT, ixT, w_cl, w_ti, w_s1, w_a, w_m12, w_m8, w_m3, w_m4, h54, n3, if_neg t17, if_neg t4, if_neg t18, t20, b2', bfz_, kd_M, ln_M]
    · rw [if_neg q2]
      have t20 : ¬ (Int32.ofNat (stk_ B N k) < 20) := fun z => q2 ((w_lt (b := 20) (by omega) (by omega)).mp z)
      have n31 : r1 52 = Int32.ofNat (stk_ B N (k + 1)) := a1.1.2.2.1
      have hl1 := stk_lt (B := B) (N := N) (k := k + 1)
      have way1 : ∀ Q, V_ xs d 160 0 [vA (some 33554440), vI D, vX 0, vX 0, vX 0] [] (uI_ x0 33554440 r) Q ↔ V_ xs d 160 156 [vA (some 33554440), vI D, vI (Int32.ofNat (stk_ B N k)), vX 0, vX 0] [] (uI_ x0 33554440 r1) Q := by
        intro Q
        simp (disch := first | omega | assumption | decide | (apply bT_; decide)) only [s160_0, s160_1, s160_4, s160_8, s160_9, s160_10, s160_13, s160_15, s160_18, s160_19, s160_22, s160_23, s160_27, s160_29, s160_32, s160_33, s160_34, s160_37, s160_38, s160_39, s160_40, s160_43, s160_45, s160_48, s160_49, s160_52, s160_53, s160_54, s160_55, s160_58, s160_59, s160_62, s160_63, s160_64, s160_65, s160_66, s160_69, s160_72, s160_73, s160_76, s160_77, s160_78, s160_79, s160_80, s160_81, s160_82, s160_85, s160_86, s160_87, s160_88, s160_91, s160_92, s160_93, s160_94, s160_97, s160_99, s160_103, s160_106, s160_107, s160_110, s160_113, s160_114, s160_117, s160_118, s160_121, s160_122, s160_125, s160_126, s160_129, s160_130, s160_131, s160_132, s160_135, s160_137, s160_141, s160_142, s160_145, s160_146, s160_147, s160_148, s160_151, s160_152, s160_153, s160_157, s160_160, s160_162, s160_165, s160_166, s160_169, s160_171, s160_174, s160_175, s160_176, s160_179, s160_180, s160_181, s160_182, s160_185, s160_187, s160_190, s160_191, s160_194, s160_195, s160_196, s160_197, s160_200, s160_201, s160_204, s160_205, s160_208, s160_209, s160_210, s160_213, s160_214, s160_215, s160_216, s160_219, s160_221, s160_222, s160_225, s160_226, s160_229, s160_232, s160_233, s160_236, s160_237, s160_238, s160_241, s160_243, s160_244, s160_245, s160_248, s160_251, s160_252, s160_253, s160_256, s160_258, s160_259, s160_260, s160_263, s160_264, s160_267, s160_268, K_v, K_0, acI, acA, acJ, acX, List.map_cons, List.map_nil, List.sum_cons, List.sum_nil, true_and, and_true, posT, b2_0, b2_1, bft, true_or, or_true, Nat.zero_le, Nat.reduceAdd, Nat.reduceLeDiff, hI_uI, hL_uI, hR_uI, nx_uI, sl_uI, hI_uL, hL_uL, hR_uL, nx_uL, sl_uL, hI_uR, hL_uR, hR_uR, nx_uR, sl_uR, st_eq, if_true, if_false, eq_self, Nat.reduceEqDiff, Nat.reduceMul, reduceIte, kdT, ixT, w_cl, w_ti, w_s1, w_a, w_m12, w_m8, w_m3, w_m4, h54, n3, if_neg t17, if_neg t4, if_neg t18, t20, a2, kd_M, ln_M]
      by_cases q3 : stk_ B N (k + 1) = 7 ∨ stk_ B N (k + 1) = 8
      · rw [if_pos q3]
        obtain ⟨r2, c1, c2⟩ := m_next (xs := xs) (d := d - 1) hR a1 (by omega)
        have n32 : r2 52 = Int32.ofNat (stk_ B N (k + 2)) := c1.1.2.2.1
        have hl2 := stk_lt (B := B) (N := N) (k := k + 2)
        have way2 : ∀ Q, V_ xs d 160 0 [vA (some 33554440), vI D, vX 0, vX 0, vX 0] [] (uI_ x0 33554440 r) Q ↔ V_ xs d 160 200 [vA (some 33554440), vI D, vI (Int32.ofNat (stk_ B N k)), vI (b2_ (decide (stk_ B N (k + 1) = 7))), vX 0] [] (uI_ x0 33554440 r2) Q := by
          intro Q
          rw [way1 Q, s160_156]
          by_cases q7 : stk_ B N (k + 1) = 7
          · have t7 : Int32.ofNat (stk_ B N (k + 1)) = 7 := (teq (k + 1) 7 (by omega)).mpr q7
            rw [decide_eq_true q7]
            simp (disch := first | omega | assumption | decide | (apply bT_; decide)) only [s160_0, s160_1, s160_4, s160_7, s160_8, s160_9, s160_10, s160_13, s160_15, s160_18, s160_19, s160_22, s160_23, s160_26, s160_27, s160_29, s160_32, s160_33, s160_34, s160_37, s160_38, s160_39, s160_40, s160_43, s160_45, s160_48, s160_49, s160_52, s160_53, s160_54, s160_55, s160_58, s160_59, s160_62, s160_63, s160_64, s160_65, s160_66, s160_69, s160_72, s160_73, s160_76, s160_77, s160_78, s160_79, s160_80, s160_81, s160_82, s160_85, s160_86, s160_87, s160_88, s160_91, s160_92, s160_93, s160_94, s160_97, s160_99, s160_102, s160_103, s160_106, s160_107, s160_110, s160_113, s160_114, s160_117, s160_118, s160_121, s160_122, s160_125, s160_126, s160_129, s160_130, s160_131, s160_132, s160_135, s160_137, s160_140, s160_141, s160_142, s160_145, s160_146, s160_147, s160_148, s160_151, s160_152, s160_153, s160_157, s160_160, s160_162, s160_166, s160_169, s160_171, s160_175, s160_176, s160_179, s160_180, s160_181, s160_182, s160_185, s160_187, s160_190, s160_191, s160_195, s160_196, s160_197, s160_201, s160_204, s160_205, s160_208, s160_209, s160_210, s160_213, s160_214, s160_215, s160_216, s160_219, s160_221, s160_222, s160_225, s160_226, s160_229, s160_232, s160_233, s160_236, s160_237, s160_238, s160_241, s160_243, s160_244, s160_245, s160_248, s160_251, s160_252, s160_253, s160_256, s160_258, s160_259, s160_260, s160_263, s160_264, s160_267, s160_268, K_v, K_0, acI, acA, acJ, acX, List.map_cons, List.map_nil, List.sum_cons, List.sum_nil, true_and, and_true, posT, b2_0, b2_1, bft, true_or, or_true, Nat.zero_le, Nat.reduceAdd, Nat.reduceLeDiff, hI_uI, hL_uI, hR_uI, nx_uI, sl_uI, hI_uL, hL_uL, hR_uL, nx_uL, sl_uL, hI_uR, hL_uR, hR_uR, nx_uR, sl_uR, st_eq, if_true, if_false, eq_self, Nat.reduceEqDiff, Nat.reduceMul, reduceIte, kdT, ixT, w_cl, w_ti, w_s1, w_a, w_m12, w_m8, w_m3, w_m4, n31, if_pos t7, c2, btz_, kd_M, ln_M]
          · have t7 : ¬ (Int32.ofNat (stk_ B N (k + 1)) = 7) := fun z => q7 ((teq (k + 1) 7 (by omega)).mp z)
            have t8 : Int32.ofNat (stk_ B N (k + 1)) = 8 := (teq (k + 1) 8 (by omega)).mpr (by omega)
            rw [decide_eq_false q7]
            simp (disch := first | omega | assumption | decide | (apply bT_; decide)) only [s160_0, s160_1, s160_4, s160_7, s160_8, s160_9, s160_10, s160_13, s160_15, s160_18, s160_19, s160_22, s160_23, s160_26, s160_27, s160_29, s160_32, s160_33, s160_34, s160_37, s160_38, s160_39, s160_40, s160_43, s160_45, s160_48, s160_49, s160_52, s160_53, s160_54, s160_55, s160_58, s160_59, s160_62, s160_63, s160_64, s160_65, s160_66, s160_69, s160_72, s160_73, s160_76, s160_77, s160_78, s160_79, s160_80, s160_81, s160_82, s160_85, s160_86, s160_87, s160_88, s160_91, s160_92, s160_93, s160_94, s160_97, s160_99, s160_102, s160_103, s160_106, s160_107, s160_110, s160_113, s160_114, s160_117, s160_118, s160_121, s160_122, s160_125, s160_126, s160_129, s160_130, s160_131, s160_132, s160_135, s160_137, s160_140, s160_141, s160_142, s160_145, s160_146, s160_147, s160_148, s160_151, s160_152, s160_153, s160_157, s160_160, s160_162, s160_165, s160_166, s160_169, s160_171, s160_175, s160_176, s160_179, s160_180, s160_181, s160_182, s160_185, s160_187, s160_191, s160_194, s160_195, s160_196, s160_197, s160_201, s160_204, s160_205, s160_208, s160_209, s160_210, s160_213, s160_214, s160_215, s160_216, s160_219, s160_221, s160_222, s160_225, s160_226, s160_229, s160_232, s160_233, s160_236, s160_237, s160_238, s160_241, s160_243, s160_244, s160_245, s160_248, s160_251, s160_252, s160_253, s160_256, s160_258, s160_259, s160_260, s160_263, s160_264, s160_267, s160_268, K_v, K_0, acI, acA, acJ, acX, List.map_cons, List.map_nil, List.sum_cons, List.sum_nil, true_and, and_true, posT, b2_0, b2_1, bft, true_or, or_true, Nat.zero_le, Nat.reduceAdd, Nat.reduceLeDiff, hI_uI, hL_uI, hR_uI, nx_uI, sl_uI, hI_uL, hL_uL, hR_uL, nx_uL, sl_uL, hI_uR, hL_uR, hR_uR, nx_uR, sl_uR, st_eq, if_true, if_false, eq_self, Nat.reduceEqDiff, Nat.reduceMul, reduceIte, kdT, ixT, w_cl, w_ti, w_s1, w_a, w_m12, w_m8, w_m3, w_m4, n31, if_neg t7, if_pos t8, c2, bfz_, kd_M, ln_M]
        refine MRV_.tr way2 ?_
        by_cases q4 : stk_ B N (k + 2) = 2
        · rw [if_pos q4]
          have t2 : Int32.ofNat (stk_ B N (k + 2)) = 2 := (teq (k + 2) 2 (by omega)).mpr q4
          have n53 : r2 53 = vlk_ B N (k + 2) := c1.1.2.2.2 q4
          obtain ⟨r3, d1, d2⟩ := m_next (xs := xs) (d := d - 1) hR c1 (by omega)
          have e563 : r3 56 = b2_ Rd := (d1.2.2 56 (by decide)).trans h56
          cases Rd
          · obtain ⟨a, ha, e57, hgu, hwo⟩ := hE rfl
            obtain ⟨y, hy, hV⟩ := hwo (stk_ B N k) (by omega) (by omega)
            have hV3 := fun Q => hV r3 (d - 1) Q d1.2.2 (by omega)
            have hlt : lg_cmp y (vlk_ B N (k + 2)).toInt64 < 0 ↔ m (wof_ (stk_ B N k)) < (vlk_ B N (k + 2)).toInt := by rw [lc_lt, hy, Int32.toInt_toInt64]
            refine ⟨r3, (cmpE_ (wof_ (stk_ B N k)) (decide (stk_ B N (k + 1) = 7)) (vlk_ B N (k + 2))).2 m, d1, fun _ => rfl, fun Q => ?_⟩
            show _ ↔ Q (some (some (vI (b2_ (if decide (stk_ B N (k + 1) = 7) = true then decide (m (wof_ (stk_ B N k)) < (vlk_ B N (k + 2)).toInt) else decide ((vlk_ B N (k + 2)).toInt ≤ m (wof_ (stk_ B N k)))))))) _
            rw [s160_200]
            by_cases q7 : stk_ B N (k + 1) = 7
            · rw [decide_eq_true q7, if_pos rfl]
              by_cases q : m (wof_ (stk_ B N k)) < (vlk_ B N (k + 2)).toInt
              · have hc := hlt.mpr q
                rw [decide_eq_true q]
                simp (disch := first | omega | assumption | decide | (apply bT_; decide)) only [s160_0, s160_1, s160_4, s160_7, s160_8, s160_9, s160_10, s160_13, s160_15, s160_18, s160_19, s160_22, s160_23, s160_26, s160_27, s160_29, s160_32, s160_33, s160_34, s160_37, s160_38, s160_39, s160_40, s160_43, s160_45, s160_48, s160_49, s160_52, s160_53, s160_54, s160_55, s160_58, s160_59, s160_62, s160_63, s160_64, s160_65, s160_66, s160_69, s160_72, s160_73, s160_76, s160_77, s160_78, s160_79, s160_80, s160_81, s160_82, s160_85, s160_86, s160_87, s160_88, s160_91, s160_92, s160_93, s160_94, s160_97, s160_99, s160_102, s160_103, s160_106, s160_107, s160_110, s160_113, s160_114, s160_117, s160_118, s160_121, s160_122, s160_125, s160_126, s160_129, s160_130, s160_131, s160_132, s160_135, s160_137, s160_140, s160_141, s160_142, s160_145, s160_146, s160_147, s160_148, s160_151, s160_152, s160_153, s160_156, s160_157, s160_160, s160_162, s160_165, s160_166, s160_169, s160_171, s160_174, s160_175, s160_176, s160_179, s160_180, s160_181, s160_182, s160_185, s160_187, s160_190, s160_191, s160_194, s160_195, s160_196, s160_197, s160_201, s160_204, s160_205, s160_209, s160_210, s160_213, s160_214, s160_215, s160_216, s160_219, s160_221, s160_222, s160_225, s160_226, s160_229, s160_232, s160_233, s160_236, s160_237, s160_238, s160_241, s160_243, s160_244, s160_245, s160_248, s160_252, s160_253, s160_256, s160_258, s160_259, s160_260, s160_263, s160_264, s160_268, K_v, K_0, acI, acA, acJ, acX, List.map_cons, List.map_nil, List.sum_cons, List.sum_nil, true_and, and_true, posT, b2_0, b2_1, bft, true_or, or_true, Nat.zero_le, Nat.reduceAdd, Nat.reduceLeDiff, hI_uI, hL_uI, hR_uI, nx_uI, sl_uI, hI_uL, hL_uL, hR_uL, nx_uL, sl_uL, hI_uR, hL_uR, hR_uR, nx_uR, sl_uR, st_eq, if_true, if_false, eq_self, Nat.reduceEqDiff, Nat.reduceMul, reduceIte, kdT, ixT, w_cl, w_ti, w_s1, w_a, w_m12, w_m8, w_m3, w_m4, n32, if_pos t2, n53, d2, e563, hV3, hc, bfz_, btz_, k10, kd_M, ln_M]
              · have hc : ¬ _ := fun z => q (hlt.mp z)
                rw [decide_eq_false q]
                simp (disch := first | omega | assumption | decide | (apply bT_; decide)) only [s160_0, s160_1, s160_4, s160_7, s160_8, s160_9, s160_10, s160_13, s160_15, s160_18, s160_19, s160_22, s160_23, s160_26, s160_27, s160_29, s160_32, s160_33, s160_34, s160_37, s160_38, s160_39, s160_40, s160_43, s160_45, s160_48, s160_49, s160_52, s160_53, s160_54, s160_55, s160_58, s160_59, s160_62, s160_63, s160_64, s160_65, s160_66, s160_69, s160_72, s160_73, s160_76, s160_77, s160_78, s160_79, s160_80, s160_81, s160_82, s160_85, s160_86, s160_87, s160_88, s160_91, s160_92, s160_93, s160_94, s160_97, s160_99, s160_102, s160_103, s160_106, s160_107, s160_110, s160_113, s160_114, s160_117, s160_118, s160_121, s160_122, s160_125, s160_126, s160_129, s160_130, s160_131, s160_132, s160_135, s160_137, s160_140, s160_141, s160_142, s160_145, s160_146, s160_147, s160_148, s160_151, s160_152, s160_153, s160_156, s160_157, s160_160, s160_162, s160_165, s160_166, s160_169, s160_171, s160_174, s160_175, s160_176, s160_179, s160_180, s160_181, s160_182, s160_185, s160_187, s160_190, s160_191, s160_194, s160_195, s160_196, s160_197, s160_201, s160_204, s160_205, s160_209, s160_210, s160_213, s160_214, s160_215, s160_216, s160_219, s160_221, s160_222, s160_225, s160_226, s160_229, s160_232, s160_233, s160_236, s160_237, s160_238, s160_241, s160_243, s160_244, s160_245, s160_252, s160_253, s160_256, s160_258, s160_259, s160_260, s160_263, s160_264, s160_267, s160_268, K_v, K_0, acI, acA, acJ, acX, List.map_cons, List.map_nil, List.sum_cons, List.sum_nil, true_and, and_true, posT, b2_0, b2_1, bft, true_or, or_true, Nat.zero_le, Nat.reduceAdd, Nat.reduceLeDiff, hI_uI, hL_uI, hR_uI, nx_uI, sl_uI, hI_uL, hL_uL, hR_uL, nx_uL, sl_uL, hI_uR, hL_uR, hR_uR, nx_uR, sl_uR, st_eq, if_true, if_false, eq_self, Nat.reduceEqDiff, Nat.reduceMul, reduceIte, kdT, ixT, w_cl, w_ti, w_s1, w_a, w_m12, w_m8, w_m3, w_m4, n32, if_pos t2, n53, d2, e563, hV3, hc, bfz_, btz_, k10, kd_M, ln_M]
            · rw [decide_eq_false q7, if_neg (show ¬ (false = true) by decide)]
              by_cases q : m (wof_ (stk_ B N k)) < (vlk_ B N (k + 2)).toInt
              · have hc := hlt.mpr q
                rw [decide_eq_false (by omega)]
                simp (disch := first | omega | assumption | decide | (apply bT_; decide)) only [s160_0, s160_1, s160_4, s160_7, s160_8, s160_9, s160_10, s160_13, s160_15, s160_18, s160_19, s160_22, s160_23, s160_26, s160_27, s160_29, s160_32, s160_33, s160_34, s160_37, s160_38, s160_39, s160_40, s160_43, s160_45, s160_48, s160_49, s160_52, s160_53, s160_54, s160_55, s160_58, s160_59, s160_62, s160_63, s160_64, s160_65, s160_66, s160_69, s160_72, s160_73, s160_76, s160_77, s160_78, s160_79, s160_80, s160_81, s160_82, s160_85, s160_86, s160_87, s160_88, s160_91, s160_92, s160_93, s160_94, s160_97, s160_99, s160_102, s160_103, s160_106, s160_107, s160_110, s160_113, s160_114, s160_117, s160_118, s160_121, s160_122, s160_125, s160_126, s160_129, s160_130, s160_131, s160_132, s160_135, s160_137, s160_140, s160_141, s160_142, s160_145, s160_146, s160_147, s160_148, s160_151, s160_152, s160_153, s160_156, s160_157, s160_160, s160_162, s160_165, s160_166, s160_169, s160_171, s160_174, s160_175, s160_176, s160_179, s160_180, s160_181, s160_182, s160_185, s160_187, s160_190, s160_191, s160_194, s160_195, s160_196, s160_197, s160_201, s160_204, s160_205, s160_209, s160_210, s160_213, s160_214, s160_215, s160_216, s160_219, s160_221, s160_222, s160_225, s160_226, s160_229, s160_232, s160_233, s160_237, s160_238, s160_241, s160_243, s160_244, s160_245, s160_248, s160_251, s160_252, s160_253, s160_256, s160_258, s160_259, s160_260, s160_264, s160_267, s160_268, K_v, K_0, acI, acA, acJ, acX, List.map_cons, List.map_nil, List.sum_cons, List.sum_nil, true_and, and_true, posT, b2_0, b2_1, bft, true_or, or_true, Nat.zero_le, Nat.reduceAdd, Nat.reduceLeDiff, hI_uI, hL_uI, hR_uI, nx_uI, sl_uI, hI_uL, hL_uL, hR_uL, nx_uL, sl_uL, hI_uR, hL_uR, hR_uR, nx_uR, sl_uR, st_eq, if_true, if_false, eq_self, Nat.reduceEqDiff, Nat.reduceMul, reduceIte, kdT, ixT, w_cl, w_ti, w_s1, w_a, w_m12, w_m8, w_m3, w_m4, n32, if_pos t2, n53, d2, e563, hV3, hc, bfz_, btz_, k10, kd_M, ln_M]
              · have hc : ¬ _ := fun z => q (hlt.mp z)
                rw [decide_eq_true (by omega)]
                simp (disch := first | omega | assumption | decide | (apply bT_; decide)) only [s160_0, s160_1, s160_4, s160_7, s160_8, s160_9, s160_10, s160_13, s160_15, s160_18, s160_19, s160_22, s160_23, s160_26, s160_27, s160_29, s160_32, s160_33, s160_34, s160_37, s160_38, s160_39, s160_40, s160_43, s160_45, s160_48, s160_49, s160_52, s160_53, s160_54, s160_55, s160_58, s160_59, s160_62, s160_63, s160_64, s160_65, s160_66, s160_69, s160_72, s160_73, s160_76, s160_77, s160_78, s160_79, s160_80, s160_81, s160_82, s160_85, s160_86, s160_87, s160_88, s160_91, s160_92, s160_93, s160_94, s160_97, s160_99, s160_102, s160_103, s160_106, s160_107, s160_110, s160_113, s160_114, s160_117, s160_118, s160_121, s160_122, s160_125, s160_126, s160_129, s160_130, s160_131, s160_132, s160_135, s160_137, s160_140, s160_141, s160_142, s160_145, s160_146, s160_147, s160_148, s160_151, s160_152, s160_153, s160_156, s160_157, s160_160, s160_162, s160_165, s160_166, s160_169, s160_171, s160_174, s160_175, s160_176, s160_179, s160_180, s160_181, s160_182, s160_185, s160_187, s160_190, s160_191, s160_194, s160_195, s160_196, s160_197, s160_201, s160_204, s160_205, s160_209, s160_210, s160_213, s160_214, s160_215, s160_216, s160_219, s160_221, s160_222, s160_225, s160_226, s160_229, s160_232, s160_233, s160_237, s160_238, s160_241, s160_243, s160_244, s160_245, s160_248, s160_251, s160_252, s160_253, s160_256, s160_258, s160_259, s160_260, s160_263, s160_264, s160_268, K_v, K_0, acI, acA, acJ, acX, List.map_cons, List.map_nil, List.sum_cons, List.sum_nil, true_and, and_true, posT, b2_0, b2_1, bft, true_or, or_true, Nat.zero_le, Nat.reduceAdd, Nat.reduceLeDiff, hI_uI, hL_uI, hR_uI, nx_uI, sl_uI, hI_uL, hL_uL, hR_uL, nx_uL, sl_uL, hI_uR, hL_uR, hR_uR, nx_uR, sl_uR, st_eq, if_true, if_false, eq_self, Nat.reduceEqDiff, Nat.reduceMul, reduceIte, kdT, ixT, w_cl, w_ti, w_s1, w_a, w_m12, w_m8, w_m3, w_m4, n32, if_pos t2, n53, d2, e563, hV3, hc, bfz_, btz_, k10, kd_M, ln_M]
          · refine ⟨r3, false, d1, fun z => (by cases z), fun Q => ?_⟩
            rw [s160_200]
            simp (disch := first | omega | assumption | decide | (apply bT_; decide)) only [s160_0, s160_1, s160_4, s160_7, s160_8, s160_9, s160_10, s160_13, s160_15, s160_18, s160_19, s160_22, s160_23, s160_26, s160_27, s160_29, s160_32, s160_33, s160_34, s160_37, s160_38, s160_39, s160_40, s160_43, s160_45, s160_48, s160_49, s160_52, s160_53, s160_54, s160_55, s160_58, s160_59, s160_62, s160_63, s160_64, s160_65, s160_66, s160_69, s160_72, s160_73, s160_76, s160_77, s160_78, s160_79, s160_80, s160_81, s160_82, s160_85, s160_86, s160_87, s160_88, s160_91, s160_92, s160_93, s160_94, s160_97, s160_99, s160_102, s160_103, s160_106, s160_107, s160_110, s160_113, s160_114, s160_117, s160_118, s160_121, s160_122, s160_125, s160_126, s160_129, s160_130, s160_131, s160_132, s160_135, s160_137, s160_140, s160_141, s160_142, s160_145, s160_146, s160_147, s160_148, s160_151, s160_152, s160_153, s160_156, s160_157, s160_160, s160_162, s160_165, s160_166, s160_169, s160_171, s160_174, s160_175, s160_176, s160_179, s160_180, s160_181, s160_182, s160_185, s160_187, s160_190, s160_191, s160_194, s160_195, s160_196, s160_197, s160_201, s160_204, s160_205, s160_209, s160_210, s160_213, s160_214, s160_215, s160_216, s160_219, s160_221, s160_222, s160_225, s160_226, s160_229, s160_233, s160_236, s160_237, s160_238, s160_241, s160_243, s160_244, s160_245, s160_248, s160_251, s160_252, s160_253, s160_256, s160_258, s160_259, s160_260, s160_263, s160_264, s160_267, s160_268, K_v, K_0, acI, acA, acJ, acX, List.map_cons, List.map_nil, List.sum_cons, List.sum_nil, true_and, and_true, posT, b2_0, b2_1, bft, true_or, or_true, Nat.zero_le, Nat.reduceAdd, Nat.reduceLeDiff, hI_uI, hL_uI, hR_uI, nx_uI, sl_uI, hI_uL, hL_uL, hR_uL, nx_uL, sl_uL, hI_uR, hL_uR, hR_uR, nx_uR, sl_uR, st_eq, if_true, if_false, eq_self, Nat.reduceEqDiff, Nat.reduceMul, reduceIte, kdT, ixT, w_cl, w_ti, w_s1, w_a, w_m12, w_m8, w_m3, w_m4, n32, if_pos t2, n53, d2, e563, bfz_, btz_, k10, kd_M, ln_M]
        · rw [if_neg q4]
          have t2 : ¬ (Int32.ofNat (stk_ B N (k + 2)) = 2) := fun z => q4 ((teq (k + 2) 2 (by omega)).mp z)
          obtain ⟨r', b1, b2⟩ := m_fails (xs := xs) (d := d - 1) (w := 1) (Or.inl rfl) c1
          have b2' : ∀ Q : OU_ → AH → Prop, V_ xs (d - 1) 156 0 [vA (some 33554440), vI 1] [] (uI_ x0 33554440 r2) Q ↔ Q (some none) (uI_ x0 33554440 r') := b2
          refine ⟨r', false, b1, fun Q => ?_⟩
          rw [s160_200]
          simp (disch := first | omega | assumption | decide | (apply bT_; decide)) only [s160_0, s160_1, s160_4, s160_7, s160_8, s160_9, s160_10, s160_13, s160_15, s160_18, s160_19, s160_22, s160_23, s160_26, s160_27, s160_29, s160_32, s160_33, s160_34, s160_37, s160_38, s160_39, s160_40, s160_43, s160_45, s160_48, s160_49, s160_52, s160_53, s160_54, s160_55, s160_58, s160_59, s160_62, s160_63, s160_64, s160_65, s160_66, s160_69, s160_72, s160_73, s160_76, s160_77, s160_78, s160_79, s160_80, s160_81, s160_82, s160_85, s160_86, s160_87, s160_88, s160_91, s160_92, s160_93, s160_94, s160_97, s160_99, s160_102, s160_103, s160_106, s160_107, s160_110, s160_113, s160_114, s160_117, s160_118, s160_121, s160_122, s160_125, s160_126, s160_129, s160_130, s160_131, s160_132, s160_135, s160_137, s160_140, s160_141, s160_142, s160_145, s160_146, s160_147, s160_148, s160_151, s160_152, s160_153, s160_156, s160_157, s160_160, s160_162, s160_165, s160_166, s160_169, s160_171, s160_174, s160_175, s160_176, s160_179, s160_180, s160_181, s160_182, s160_185, s160_187, s160_190, s160_191, s160_194, s160_195, s160_196, s160_197, s160_201, s160_204, s160_205, s160_208, s160_209, s160_210, s160_213, s160_214, s160_216, s160_219, s160_221, s160_222, s160_225, s160_226, s160_229, s160_232, s160_233, s160_236, s160_237, s160_238, s160_241, s160_243, s160_244, s160_245, s160_248, s160_251, s160_252, s160_253, s160_256, s160_258, s160_259, s160_260, s160_263, s160_264, s160_267, s160_268, K_v, K_0, acI, acA, acJ, acX, List.map_cons, List.map_nil, List.sum_cons, List.sum_nil, true_and, and_true, posT, b2_0, b2_1, bft, true_or, or_true, Nat.zero_le, Nat.reduceAdd, Nat.reduceLeDiff, hI_uI, hL_uI, hR_uI, nx_uI, sl_uI, hI_uL, hL_uL, hR_uL, nx_uL, sl_uL, hI_uR, hL_uR, hR_uR, nx_uR, sl_uR, st_eq, if_true, if_false, eq_self, Nat.reduceEqDiff, Nat.reduceMul, reduceIte, kdT, ixT, w_cl, w_ti, w_s1, w_a, w_m12, w_m8, w_m3, w_m4, n32, if_neg t2, b2', bfz_, kd_M, ln_M]
      · rw [if_neg q3]
        have t7 : ¬ (Int32.ofNat (stk_ B N (k + 1)) = 7) := fun z => q3 (Or.inl ((teq (k + 1) 7 (by omega)).mp z))
        have t8 : ¬ (Int32.ofNat (stk_ B N (k + 1)) = 8) := fun z => q3 (Or.inr ((teq (k + 1) 8 (by omega)).mp z))
        obtain ⟨r', b1, b2⟩ := m_fails (xs := xs) (d := d - 1) (w := 1) (Or.inl rfl) a1
        have b2' : ∀ Q : OU_ → AH → Prop, V_ xs (d - 1) 156 0 [vA (some 33554440), vI 1] [] (uI_ x0 33554440 r1) Q ↔ Q (some none) (uI_ x0 33554440 r') := b2
        refine ⟨r', false, b1, fun Q => (way1 Q).trans ?_⟩
        rw [s160_156]
        simp (disch := first | omega | assumption | decide | (apply bT_; decide)) only [s160_0, s160_1, s160_4, s160_7, s160_8, s160_9, s160_10, s160_13, s160_15, s160_18, s160_19, s160_22, s160_23, s160_26, s160_27, s160_29, s160_32, s160_33, s160_34, s160_37, s160_38, s160_39, s160_40, s160_43, s160_45, s160_48, s160_49, s160_52, s160_53, s160_54, s160_55, s160_58, s160_59, s160_62, s160_63, s160_64, s160_65, s160_66, s160_69, s160_72, s160_73, s160_76, s160_77, s160_78, s160_79, s160_80, s160_81, s160_82, s160_85, s160_86, s160_87, s160_88, s160_91, s160_92, s160_93, s160_94, s160_97, s160_99, s160_102, s160_103, s160_106, s160_107, s160_110, s160_113, s160_114, s160_117, s160_118, s160_121, s160_122, s160_125, s160_126, s160_129, s160_130, s160_131, s160_132, s160_135, s160_137, s160_140, s160_141, s160_142, s160_145, s160_146, s160_147, s160_148, s160_151, s160_152, s160_153, s160_157, s160_160, s160_162, s160_165, s160_166, s160_169, s160_171, s160_174, s160_175, s160_176, s160_179, s160_180, s160_182, s160_185, s160_187, s160_190, s160_191, s160_194, s160_195, s160_196, s160_197, s160_200, s160_201, s160_204, s160_205, s160_208, s160_209, s160_210, s160_213, s160_214, s160_215, s160_216, s160_219, s160_221, s160_222, s160_225, s160_226, s160_229, s160_232, s160_233, s160_236, s160_237, s160_238, s160_241, s160_243, s160_244, s160_245, s160_248, s160_251, s160_252, s160_253, s160_256, s160_258, s160_259, s160_260, s160_263, s160_264, s160_267, s160_268, K_v, K_0, acI, acA, acJ, acX, List.map_cons, List.map_nil, List.sum_cons, List.sum_nil, true_and, and_true, posT, b2_0, b2_1, bft, true_or, or_true, Nat.zero_le, Nat.reduceAdd, Nat.reduceLeDiff, hI_uI, hL_uI, hR_uI, nx_uI, sl_uI, hI_uL, hL_uL, hR_uL, nx_uL, sl_uL, hI_uR, hL_uR, hR_uR, nx_uR, sl_uR, st_eq, if_true, if_false, eq_self, Nat.reduceEqDiff, Nat.reduceMul, reduceIte, kdT, ixT, w_cl, w_ti, w_s1, w_a, w_m12, w_m8, w_m3, w_m4, n31, if_neg t7, if_neg t8, b2', bfz_, kd_M, ln_M]
theorem m_loopAnd {D : Int32} {DD : Nat} {sub : Nat → PR_} (hB : HB_ xs B N c x0 Rd m) (hd : 9 ≤ d) (hok : ∀ k, k ≤ N → PO_ N k DD (sub k)) (hsub : ∀ (k : Nat) (r : Nat → Int32), k ≤ N → MZ_ B N x0 k r → MRV_ (fun Q => V_ xs (d - 1) 160 0 [vA (some 33554440), vI D, vX 0, vX 0, vX 0] [] (uI_ x0 33554440 r) Q) B N x0 Rd m (sub k)) : ∀ (mm : Nat) (e : Ex_) (k : Nat) (r : Nat → Int32) (v : Bool) (v3 : AV), 800 ≤ k + mm → k ≤ N → MZ_ B N x0 k r → (Rd = false → v = e.2 m) → MRV_ (fun Q => V_ xs d 159 6 [vA (some 33554440), vI D, vI (b2_ v), v3] [] (uI_ x0 33554440 r) Q) B N x0 Rd m (plp_ (stk_ B N) 16 andE_ sub mm e k) := by
  obtain ⟨hR, hM, h56, hE⟩ := id hB
  have hN8 := hR.1.1
  have k10 : ¬ ((1 : Int32) = 0) := by decide
  intro mm
  induction mm with
  | zero =>
    intro e k r v v3 hk hkN H hv
    have n3 : r 52 = Int32.ofNat (stk_ B N k) := H.1.2.2.1
    have h54 := H.2.1
    have t0 : ¬ (Int32.ofNat (stk_ B N k) = 16) := by rw [stk_0 k (by omega)]; decide
    refine ⟨r, v, H, hv, fun Q => ?_⟩
    dsimp only
    rw [s159_6]
    simp (disch := first | omega | assumption | decide | (apply bT_; decide)) only [s159_0, s159_1, s159_2, s159_5, s159_7, s159_10, s159_13, s159_14, s159_17, s159_19, s159_23, s159_26, s159_27, s159_28, s159_31, s159_32, s159_33, s159_36, s159_37, s159_40, s159_41, s159_44, s159_45, s159_46, s159_49, s159_50, K_v, K_0, acI, acA, acJ, acX, List.map_cons, List.map_nil, List.sum_cons, List.sum_nil, true_and, and_true, posT, b2_0, b2_1, bft, true_or, or_true, Nat.zero_le, Nat.reduceAdd, Nat.reduceLeDiff, hI_uI, hL_uI, hR_uI, nx_uI, sl_uI, hI_uL, hL_uL, hR_uL, nx_uL, sl_uL, hI_uR, hL_uR, hR_uR, nx_uR, sl_uR, st_eq, if_true, if_false, eq_self, Nat.reduceEqDiff, Nat.reduceMul, reduceIte, kdT, ixT, w_cl, w_ti, w_s1, w_a, w_m12, w_m8, w_m3, w_m4, h54, n3, if_neg t0, kd_M, ln_M]
  | succ mm ih =>
    intro e k r v v3 hk hkN H hv
    have n3 : r 52 = Int32.ofNat (stk_ B N k) := H.1.2.2.1
    have h54 := H.2.1
    have hl := stk_lt (B := B) (N := N) (k := k)
    have teq : Int32.ofNat (stk_ B N k) = 16 ↔ stk_ B N k = 16 := w_eq (b := 16) (by omega) (by omega)
    show MRV_ _ B N x0 Rd m (if stk_ B N k = 16 then (match sub (k + 1) with | .inl x => .inl x | .inr (e2, k2) => plp_ (stk_ B N) 16 andE_ sub mm (andE_ e e2) k2) else .inr (e, k))
    by_cases q : stk_ B N k = 16
    · rw [if_pos q]
      have t0 := teq.mpr q
      have hkN' : k + 1 ≤ N := by
        rcases Nat.lt_or_ge k N with z | z
        · exact z
        · rw [stk_0 k z] at q; cases q
      obtain ⟨r1, a1, a2⟩ := m_next (xs := xs) (d := d - 1) hR H (by omega)
      have hs := hsub (k + 1) r1 hkN' a1
      have ho := hok (k + 1) hkN'
      cases hr : sub (k + 1) with
      | inl y =>
        obtain ⟨w, k1⟩ := y
        rw [hr] at hs
        obtain ⟨r2, v2, b1, b2⟩ := hs
        dsimp only at b2
        have f54 := b1.1
        have hw := b1.2.2.1
        have n0 : ¬ (Int32.ofNat w = 0) := fun z => by
          have := (w_eq (b := 0) (by omega) (by omega)).mp z
          omega
        refine ⟨r2, v && v2, b1, fun Q => ?_⟩
        dsimp only
        rw [s159_6]
        cases v <;> cases v2
        all_goals simp (disch := first | omega | assumption | decide | (apply bT_; decide)) only [s159_0, s159_1, s159_2, s159_5, s159_7, s159_10, s159_13, s159_14, s159_17, s159_19, s159_22, s159_23, s159_26, s159_27, s159_28, s159_31, s159_32, s159_33, s159_36, s159_37, s159_40, s159_41, s159_44, s159_45, s159_46, s159_50, K_v, K_0, acI, acA, acJ, acX, List.map_cons, List.map_nil, List.sum_cons, List.sum_nil, true_and, and_true, posT, b2_0, b2_1, bft, true_or, or_true, Nat.zero_le, Nat.reduceAdd, Nat.reduceLeDiff, hI_uI, hL_uI, hR_uI, nx_uI, sl_uI, hI_uL, hL_uL, hR_uL, nx_uL, sl_uL, hI_uR, hL_uR, hR_uR, nx_uR, sl_uR, st_eq, if_true, if_false, eq_self, Nat.reduceEqDiff, Nat.reduceMul, reduceIte, kdT, ixT, w_cl, w_ti, w_s1, w_a, w_m12, w_m8, w_m3, w_m4, h54, n3, if_pos t0, a2, b2, bfz_, btz_, k10, kd_M, ln_M]
        all_goals rw [s159_6]
        all_goals simp (disch := first | omega | assumption | decide | (apply bT_; decide)) only [s159_0, s159_1, s159_2, s159_5, s159_7, s159_10, s159_14, s159_17, s159_19, s159_22, s159_23, s159_26, s159_27, s159_28, s159_31, s159_32, s159_33, s159_36, s159_37, s159_40, s159_41, s159_44, s159_45, s159_46, s159_49, s159_50, K_v, K_0, acI, acA, acJ, acX, List.map_cons, List.map_nil, List.sum_cons, List.sum_nil, true_and, and_true, posT, b2_0, b2_1, bft, true_or, or_true, Nat.zero_le, Nat.reduceAdd, Nat.reduceLeDiff, hI_uI, hL_uI, hR_uI, nx_uI, sl_uI, hI_uL, hL_uL, hR_uL, nx_uL, sl_uL, hI_uR, hL_uR, hR_uR, nx_uR, sl_uR, st_eq, if_true, if_false, eq_self, Nat.reduceEqDiff, Nat.reduceMul, reduceIte, kdT, ixT, w_cl, w_ti, w_s1, w_a, w_m12, w_m8, w_m3, w_m4, f54, n0, kd_M, ln_M]
        all_goals simp [b2_]
      | inr y =>
        obtain ⟨e2, k2⟩ := y
        rw [hr] at hs ho
        obtain ⟨r2, v2, b1, b2, b3⟩ := hs
        dsimp only at b3
        obtain ⟨o1, o2, -, -⟩ := ho
        have hnext := ih (andE_ e e2) k2 r2 (v && v2) (vI (b2_ v2)) (by omega) o2 b1 (fun z => by rw [hv z, b2 z]; rfl)
        refine MRV_.tr (fun Q => ?_) hnext
        rw [s159_6]
        cases v <;> cases v2
        all_goals simp (disch := first | omega | assumption | decide | (apply bT_; decide)) only [s159_0, s159_1, s159_2, s159_5, s159_7, s159_10, s159_13, s159_14, s159_17, s159_19, s159_22, s159_23, s159_26, s159_27, s159_28, s159_31, s159_32, s159_33, s159_36, s159_37, s159_40, s159_41, s159_44, s159_45, s159_46, s159_50, K_v, K_0, acI, acA, acJ, acX, List.map_cons, List.map_nil, List.sum_cons, List.sum_nil, true_and, and_true, posT, b2_0, b2_1, bft, true_or, or_true, Nat.zero_le, Nat.reduceAdd, Nat.reduceLeDiff, hI_uI, hL_uI, hR_uI, nx_uI, sl_uI, hI_uL, hL_uL, hR_uL, nx_uL, sl_uL, hI_uR, hL_uR, hR_uR, nx_uR, sl_uR, st_eq, if_true, if_false, eq_self, Nat.reduceEqDiff, Nat.reduceMul, reduceIte, kdT, ixT, w_cl, w_ti, w_s1, w_a, w_m12, w_m8, w_m3, w_m4, h54, n3, if_pos t0, a2, b3, bfz_, btz_, k10, kd_M, ln_M]
        all_goals exact Iff.rfl
    · rw [if_neg q]
      have t0 : ¬ _ := fun z => q (teq.mp z)
      refine ⟨r, v, H, hv, fun Q => ?_⟩
      dsimp only
      rw [s159_6]
      simp (disch := first | omega | assumption | decide | (apply bT_; decide)) only [s159_0, s159_1, s159_2, s159_5, s159_7, s159_10, s159_13, s159_14, s159_17, s159_19, s159_23, s159_26, s159_27, s159_28, s159_31, s159_32, s159_33, s159_36, s159_37, s159_40, s159_41, s159_44, s159_45, s159_46, s159_49, s159_50, K_v, K_0, acI, acA, acJ, acX, List.map_cons, List.map_nil, List.sum_cons, List.sum_nil, true_and, and_true, posT, b2_0, b2_1, bft, true_or, or_true, Nat.zero_le, Nat.reduceAdd, Nat.reduceLeDiff, hI_uI, hL_uI, hR_uI, nx_uI, sl_uI, hI_uL, hL_uL, hR_uL, nx_uL, sl_uL, hI_uR, hL_uR, hR_uR, nx_uR, sl_uR, st_eq, if_true, if_false, eq_self, Nat.reduceEqDiff, Nat.reduceMul, reduceIte, kdT, ixT, w_cl, w_ti, w_s1, w_a, w_m12, w_m8, w_m3, w_m4, h54, n3, if_neg t0, kd_M, ln_M]
theorem m_all {D : Int32} {DD : Nat} {sub : Nat → PR_} (hB : HB_ xs B N c x0 Rd m) (hd : 9 ≤ d) (hok : ∀ k, k ≤ N → PO_ N k DD (sub k)) (hsub : ∀ (k : Nat) (r : Nat → Int32), k ≤ N → MZ_ B N x0 k r → MRV_ (fun Q => V_ xs (d - 1) 160 0 [vA (some 33554440), vI D, vX 0, vX 0, vX 0] [] (uI_ x0 33554440 r) Q) B N x0 Rd m (sub k)) (hk : k ≤ N) (H : MZ_ B N x0 k r) : MRV_ (fun Q => V_ xs d 159 0 [vA (some 33554440), vI D, vX 0, vX 0] [] (uI_ x0 33554440 r) Q) B N x0 Rd m (pst_ (stk_ B N) 16 andE_ sub k) := by
  have hs := hsub k r hk H
  have ho := hok k hk
  unfold pst_
  cases hr : sub k with
  | inl y =>
    obtain ⟨w, k1⟩ := y
    rw [hr] at hs
    obtain ⟨r2, v2, b1, b2⟩ := hs
    dsimp only at b2
    have f54 := b1.1
    have hw := b1.2.2.1
    have n0 : ¬ (Int32.ofNat w = 0) := fun z => by
      have := (w_eq (b := 0) (by omega) (by omega)).mp z
      omega
    refine ⟨r2, v2, b1, fun Q => ?_⟩
    simp (disch := first | omega | assumption | decide | (apply bT_; decide)) only [s159_0, s159_1, s159_2, s159_5, s159_7, s159_10, s159_13, s159_14, s159_17, s159_19, s159_22, s159_23, s159_26, s159_27, s159_28, s159_31, s159_32, s159_33, s159_36, s159_37, s159_40, s159_41, s159_44, s159_45, s159_46, s159_49, s159_50, K_v, K_0, acI, acA, acJ, acX, List.map_cons, List.map_nil, List.sum_cons, List.sum_nil, true_and, and_true, posT, b2_0, b2_1, bft, true_or, or_true, Nat.zero_le, Nat.reduceAdd, Nat.reduceLeDiff, hI_uI, hL_uI, hR_uI, nx_uI, sl_uI, hI_uL, hL_uL, hR_uL, nx_uL, sl_uL, hI_uR, hL_uR, hR_uR, nx_uR, sl_uR, st_eq, if_true, if_false, eq_self, Nat.reduceEqDiff, Nat.reduceMul, reduceIte, kdT, ixT, w_cl, w_ti, w_s1, w_a, w_m12, w_m8, w_m3, w_m4, b2, kd_M, ln_M]
    rw [s159_6]
    simp (disch := first | omega | assumption | decide | (apply bT_; decide)) only [s159_0, s159_1, s159_2, s159_5, s159_7, s159_10, s159_14, s159_17, s159_19, s159_22, s159_23, s159_26, s159_27, s159_28, s159_31, s159_32, s159_33, s159_36, s159_37, s159_40, s159_41, s159_44, s159_45, s159_46, s159_49, s159_50, K_v, K_0, acI, acA, acJ, acX, List.map_cons, List.map_nil, List.sum_cons, List.sum_nil, true_and, and_true, posT, b2_0, b2_1, bft, true_or, or_true, Nat.zero_le, Nat.reduceAdd, Nat.reduceLeDiff, hI_uI, hL_uI, hR_uI, nx_uI, sl_uI, hI_uL, hL_uL, hR_uL, nx_uL, sl_uL, hI_uR, hL_uR, hR_uR, nx_uR, sl_uR, st_eq, if_true, if_false, eq_self, Nat.reduceEqDiff, Nat.reduceMul, reduceIte, kdT, ixT, w_cl, w_ti, w_s1, w_a, w_m12, w_m8, w_m3, w_m4, f54, n0, kd_M, ln_M]
  | inr y =>
    obtain ⟨e, k1⟩ := y
    rw [hr] at hs ho
    obtain ⟨r2, v2, b1, b2, b3⟩ := hs
    dsimp only at b3
    obtain ⟨o1, o2, -, -⟩ := ho
    refine MRV_.tr (fun Q => ?_) (m_loopAnd (xs := xs) hB hd hok hsub 800 e k1 r2 v2 (vX 0) (by omega) o2 b1 b2)
    simp (disch := first | omega | assumption | decide | (apply bT_; decide)) only [s159_0, s159_1, s159_2, s159_5, s159_7, s159_10, s159_13, s159_14, s159_17, s159_19, s159_22, s159_23, s159_26, s159_27, s159_28, s159_31, s159_32, s159_33, s159_36, s159_37, s159_40, s159_41, s159_44, s159_45, s159_46, s159_49, s159_50, K_v, K_0, acI, acA, acJ, acX, List.map_cons, List.map_nil, List.sum_cons, List.sum_nil, true_and, and_true, posT, b2_0, b2_1, bft, true_or, or_true, Nat.zero_le, Nat.reduceAdd, Nat.reduceLeDiff, hI_uI, hL_uI, hR_uI, nx_uI, sl_uI, hI_uL, hL_uL, hR_uL, nx_uL, sl_uL, hI_uR, hL_uR, hR_uR, nx_uR, sl_uR, st_eq, if_true, if_false, eq_self, Nat.reduceEqDiff, Nat.reduceMul, reduceIte, kdT, ixT, w_cl, w_ti, w_s1, w_a, w_m12, w_m8, w_m3, w_m4, b3, kd_M, ln_M]
theorem m_loopOr {D : Int32} {DD : Nat} {sub : Nat → PR_} (hB : HB_ xs B N c x0 Rd m) (hd : 9 ≤ d) (hok : ∀ k, k ≤ N → PO_ N k DD (sub k)) (hsub : ∀ (k : Nat) (r : Nat → Int32), k ≤ N → MZ_ B N x0 k r → MRV_ (fun Q => V_ xs (d - 1) 159 0 [vA (some 33554440), vI D, vX 0, vX 0] [] (uI_ x0 33554440 r) Q) B N x0 Rd m (sub k)) : ∀ (mm : Nat) (e : Ex_) (k : Nat) (r : Nat → Int32) (v : Bool) (v3 : AV), 800 ≤ k + mm → k ≤ N → MZ_ B N x0 k r → (Rd = false → v = e.2 m) → MRV_ (fun Q => V_ xs d 158 6 [vA (some 33554440), vI D, vI (b2_ v), v3] [] (uI_ x0 33554440 r) Q) B N x0 Rd m (plp_ (stk_ B N) 15 orE_ sub mm e k) := by
  obtain ⟨hR, hM, h56, hE⟩ := id hB
  have hN8 := hR.1.1
  have k10 : ¬ ((1 : Int32) = 0) := by decide
  intro mm
  induction mm with
  | zero =>
    intro e k r v v3 hk hkN H hv
    have n3 : r 52 = Int32.ofNat (stk_ B N k) := H.1.2.2.1
    have h54 := H.2.1
    have t0 : ¬ (Int32.ofNat (stk_ B N k) = 15) := by rw [stk_0 k (by omega)]; decide
    refine ⟨r, v, H, hv, fun Q => ?_⟩
    dsimp only
    rw [s158_6]
    simp (disch := first | omega | assumption | decide | (apply bT_; decide)) only [s158_0, s158_1, s158_2, s158_5, s158_7, s158_10, s158_13, s158_14, s158_17, s158_19, s158_23, s158_26, s158_27, s158_28, s158_31, s158_32, s158_33, s158_36, s158_37, s158_40, s158_41, s158_44, s158_45, s158_46, s158_49, s158_50, K_v, K_0, acI, acA, acJ, acX, List.map_cons, List.map_nil, List.sum_cons, List.sum_nil, true_and, and_true, posT, b2_0, b2_1, bft, true_or, or_true, Nat.zero_le, Nat.reduceAdd, Nat.reduceLeDiff, hI_uI, hL_uI, hR_uI, nx_uI, sl_uI, hI_uL, hL_uL, hR_uL, nx_uL, sl_uL, hI_uR, hL_uR, hR_uR, nx_uR, sl_uR, st_eq, if_true, if_false, eq_self, Nat.reduceEqDiff, Nat.reduceMul, reduceIte, kdT, ixT, w_cl, w_ti, w_s1, w_a, w_m12, w_m8, w_m3, w_m4, h54, n3, if_neg t0, kd_M, ln_M]
  | succ mm ih =>
    intro e k r v v3 hk hkN H hv
    have n3 : r 52 = Int32.ofNat (stk_ B N k) := H.1.2.2.1
    have h54 := H.2.1
    have hl := stk_lt (B := B) (N := N) (k := k)
    have teq : Int32.ofNat (stk_ B N k) = 15 ↔ stk_ B N k = 15 := w_eq (b := 15) (by omega) (by omega)
    show MRV_ _ B N x0 Rd m (if stk_ B N k = 15 then (match sub (k + 1) with | .inl x => .inl x | .inr (e2, k2) => plp_ (stk_ B N) 15 orE_ sub mm (orE_ e e2) k2) else .inr (e, k))
    by_cases q : stk_ B N k = 15
    · rw [if_pos q]
      have t0 := teq.mpr q
      have hkN' : k + 1 ≤ N := by
        rcases Nat.lt_or_ge k N with z | z
        · exact z
        · rw [stk_0 k z] at q; cases q
      obtain ⟨r1, a1, a2⟩ := m_next (xs := xs) (d := d - 1) hR H (by omega)
      have hs := hsub (k + 1) r1 hkN' a1
      have ho := hok (k + 1) hkN'
      cases hr : sub (k + 1) with
      | inl y =>
        obtain ⟨w, k1⟩ := y
        rw [hr] at hs
        obtain ⟨r2, v2, b1, b2⟩ := hs
        dsimp only at b2
        have f54 := b1.1
        have hw := b1.2.2.1
        have n0 : ¬ (Int32.ofNat w = 0) := fun z => by
          have := (w_eq (b := 0) (by omega) (by omega)).mp z
          omega
        refine ⟨r2, v || v2, b1, fun Q => ?_⟩
        dsimp only
        rw [s158_6]
        cases v <;> cases v2
        all_goals simp (disch := first | omega | assumption | decide | (apply bT_; decide)) only [s158_0, s158_1, s158_2, s158_5, s158_7, s158_10, s158_13, s158_14, s158_17, s158_19, s158_22, s158_23, s158_26, s158_27, s158_28, s158_31, s158_32, s158_33, s158_36, s158_37, s158_40, s158_41, s158_44, s158_45, s158_46, s158_50, K_v, K_0, acI, acA, acJ, acX, List.map_cons, List.map_nil, List.sum_cons, List.sum_nil, true_and, and_true, posT, b2_0, b2_1, bft, true_or, or_true, Nat.zero_le, Nat.reduceAdd, Nat.reduceLeDiff, hI_uI, hL_uI, hR_uI, nx_uI, sl_uI, hI_uL, hL_uL, hR_uL, nx_uL, sl_uL, hI_uR, hL_uR, hR_uR, nx_uR, sl_uR, st_eq, if_true, if_false, eq_self, Nat.reduceEqDiff, Nat.reduceMul, reduceIte, kdT, ixT, w_cl, w_ti, w_s1, w_a, w_m12, w_m8, w_m3, w_m4, h54, n3, if_pos t0, a2, b2, bfz_, btz_, k10, kd_M, ln_M]
        all_goals rw [s158_6]
        all_goals simp (disch := first | omega | assumption | decide | (apply bT_; decide)) only [s158_0, s158_1, s158_2, s158_5, s158_7, s158_10, s158_14, s158_17, s158_19, s158_22, s158_23, s158_26, s158_27, s158_28, s158_31, s158_32, s158_33, s158_36, s158_37, s158_40, s158_41, s158_44, s158_45, s158_46, s158_49, s158_50, K_v, K_0, acI, acA, acJ, acX, List.map_cons, List.map_nil, List.sum_cons, List.sum_nil, true_and, and_true, posT, b2_0, b2_1, bft, true_or, or_true, Nat.zero_le, Nat.reduceAdd, Nat.reduceLeDiff, hI_uI, hL_uI, hR_uI, nx_uI, sl_uI, hI_uL, hL_uL, hR_uL, nx_uL, sl_uL, hI_uR, hL_uR, hR_uR, nx_uR, sl_uR, st_eq, if_true, if_false, eq_self, Nat.reduceEqDiff, Nat.reduceMul, reduceIte, kdT, ixT, w_cl, w_ti, w_s1, w_a, w_m12, w_m8, w_m3, w_m4, f54, n0, kd_M, ln_M]
        all_goals simp [b2_]
      | inr y =>
        obtain ⟨e2, k2⟩ := y
        rw [hr] at hs ho
        obtain ⟨r2, v2, b1, b2, b3⟩ := hs
        dsimp only at b3
        obtain ⟨o1, o2, -, -⟩ := ho
        have hnext := ih (orE_ e e2) k2 r2 (v || v2) (vI (b2_ v2)) (by omega) o2 b1 (fun z => by rw [hv z, b2 z]; rfl)
        refine MRV_.tr (fun Q => ?_) hnext
        rw [s158_6]
        cases v <;> cases v2
        all_goals simp (disch := first | omega | assumption | decide | (apply bT_; decide)) only [s158_0, s158_1, s158_2, s158_5, s158_7, s158_10, s158_13, s158_14, s158_17, s158_19, s158_22, s158_23, s158_26, s158_27, s158_28, s158_31, s158_32, s158_33, s158_36, s158_37, s158_40, s158_41, s158_44, s158_45, s158_46, s158_50, K_v, K_0, acI, acA, acJ, acX, List.map_cons, List.map_nil, List.sum_cons, List.sum_nil, true_and, and_true, posT, b2_0, b2_1, bft, true_or, or_true, Nat.zero_le, Nat.reduceAdd, Nat.reduceLeDiff, hI_uI, hL_uI, hR_uI, nx_uI, sl_uI, hI_uL, hL_uL, hR_uL, nx_uL, sl_uL, hI_uR, hL_uR, hR_uR, nx_uR, sl_uR, st_eq, if_true, if_false, eq_self, Nat.reduceEqDiff, Nat.reduceMul, reduceIte, kdT, ixT, w_cl, w_ti, w_s1, w_a, w_m12, w_m8, w_m3, w_m4, h54, n3, if_pos t0, a2, b3, bfz_, btz_, k10, kd_M, ln_M]
        all_goals exact Iff.rfl
    · rw [if_neg q]
      have t0 : ¬ _ := fun z => q (teq.mp z)
      refine ⟨r, v, H, hv, fun Q => ?_⟩
      dsimp only
      rw [s158_6]
      simp (disch := first | omega | assumption | decide | (apply bT_; decide)) only [s158_0, s158_1, s158_2, s158_5, s158_7, s158_10, s158_13, s158_14, s158_17, s158_19, s158_23, s158_26, s158_27, s158_28, s158_31, s158_32, s158_33, s158_36, s158_37, s158_40, s158_41, s158_44, s158_45, s158_46, s158_49, s158_50, K_v, K_0, acI, acA, acJ, acX, List.map_cons, List.map_nil, List.sum_cons, List.sum_nil, true_and, and_true, posT, b2_0, b2_1, bft, true_or, or_true, Nat.zero_le, Nat.reduceAdd, Nat.reduceLeDiff, hI_uI, hL_uI, hR_uI, nx_uI, sl_uI, hI_uL, hL_uL, hR_uL, nx_uL, sl_uL, hI_uR, hL_uR, hR_uR, nx_uR, sl_uR, st_eq, if_true, if_false, eq_self, Nat.reduceEqDiff, Nat.reduceMul, reduceIte, kdT, ixT, w_cl, w_ti, w_s1, w_a, w_m12, w_m8, w_m3, w_m4, h54, n3, if_neg t0, kd_M, ln_M]
theorem m_either {D : Int32} {DD : Nat} {sub : Nat → PR_} (hB : HB_ xs B N c x0 Rd m) (hd : 9 ≤ d) (hok : ∀ k, k ≤ N → PO_ N k DD (sub k)) (hsub : ∀ (k : Nat) (r : Nat → Int32), k ≤ N → MZ_ B N x0 k r → MRV_ (fun Q => V_ xs (d - 1) 159 0 [vA (some 33554440), vI D, vX 0, vX 0] [] (uI_ x0 33554440 r) Q) B N x0 Rd m (sub k)) (hk : k ≤ N) (H : MZ_ B N x0 k r) : MRV_ (fun Q => V_ xs d 158 0 [vA (some 33554440), vI D, vX 0, vX 0] [] (uI_ x0 33554440 r) Q) B N x0 Rd m (pst_ (stk_ B N) 15 orE_ sub k) := by
  have hs := hsub k r hk H
  have ho := hok k hk
  unfold pst_
  cases hr : sub k with
  | inl y =>
    obtain ⟨w, k1⟩ := y
    rw [hr] at hs
    obtain ⟨r2, v2, b1, b2⟩ := hs
    dsimp only at b2
    have f54 := b1.1
    have hw := b1.2.2.1
    have n0 : ¬ (Int32.ofNat w = 0) := fun z => by
      have := (w_eq (b := 0) (by omega) (by omega)).mp z
      omega
    refine ⟨r2, v2, b1, fun Q => ?_⟩
    simp (disch := first | omega | assumption | decide | (apply bT_; decide)) only [s158_0, s158_1, s158_2, s158_5, s158_7, s158_10, s158_13, s158_14, s158_17, s158_19, s158_22, s158_23, s158_26, s158_27, s158_28, s158_31, s158_32, s158_33, s158_36, s158_37, s158_40, s158_41, s158_44, s158_45, s158_46, s158_49, s158_50, K_v, K_0, acI, acA, acJ, acX, List.map_cons, List.map_nil, List.sum_cons, List.sum_nil, true_and, and_true, posT, b2_0, b2_1, bft, true_or, or_true, Nat.zero_le, Nat.reduceAdd, Nat.reduceLeDiff, hI_uI, hL_uI, hR_uI, nx_uI, sl_uI, hI_uL, hL_uL, hR_uL, nx_uL, sl_uL, hI_uR, hL_uR, hR_uR, nx_uR, sl_uR, st_eq, if_true, if_false, eq_self, Nat.reduceEqDiff, Nat.reduceMul, reduceIte, kdT, ixT, w_cl, w_ti, w_s1, w_a, w_m12, w_m8, w_m3, w_m4, b2, kd_M, ln_M]
    rw [s158_6]
    simp (disch := first | omega | assumption | decide | (apply bT_; decide)) only [s158_0, s158_1, s158_2, s158_5, s158_7, s158_10, s158_14, s158_17, s158_19, s158_22, s158_23, s158_26, s158_27, s158_28, s158_31, s158_32, s158_33, s158_36, s158_37, s158_40, s158_41, s158_44, s158_45, s158_46, s158_49, s158_50, K_v, K_0, acI, acA, acJ, acX, List.map_cons, List.map_nil, List.sum_cons, List.sum_nil, true_and, and_true, posT, b2_0, b2_1, bft, true_or, or_true, Nat.zero_le, Nat.reduceAdd, Nat.reduceLeDiff, hI_uI, hL_uI, hR_uI, nx_uI, sl_uI, hI_uL, hL_uL, hR_uL, nx_uL, sl_uL, hI_uR, hL_uR, hR_uR, nx_uR, sl_uR, st_eq, if_true, if_false, eq_self, Nat.reduceEqDiff, Nat.reduceMul, reduceIte, kdT, ixT, w_cl, w_ti, w_s1, w_a, w_m12, w_m8, w_m3, w_m4, f54, n0, kd_M, ln_M]
  | inr y =>
    obtain ⟨e, k1⟩ := y
    rw [hr] at hs ho
    obtain ⟨r2, v2, b1, b2, b3⟩ := hs
    dsimp only at b3
    obtain ⟨o1, o2, -, -⟩ := ho
    refine MRV_.tr (fun Q => ?_) (m_loopOr (xs := xs) hB hd hok hsub 800 e k1 r2 v2 (vX 0) (by omega) o2 b1 b2)
    simp (disch := first | omega | assumption | decide | (apply bT_; decide)) only [s158_0, s158_1, s158_2, s158_5, s158_7, s158_10, s158_13, s158_14, s158_17, s158_19, s158_22, s158_23, s158_26, s158_27, s158_28, s158_31, s158_32, s158_33, s158_36, s158_37, s158_40, s158_41, s158_44, s158_45, s158_46, s158_49, s158_50, K_v, K_0, acI, acA, acJ, acX, List.map_cons, List.map_nil, List.sum_cons, List.sum_nil, true_and, and_true, posT, b2_0, b2_1, bft, true_or, or_true, Nat.zero_le, Nat.reduceAdd, Nat.reduceLeDiff, hI_uI, hL_uI, hR_uI, nx_uI, sl_uI, hI_uL, hL_uL, hR_uL, nx_uL, sl_uL, hI_uR, hL_uR, hR_uR, nx_uR, sl_uR, st_eq, if_true, if_false, eq_self, Nat.reduceEqDiff, Nat.reduceMul, reduceIte, kdT, ixT, w_cl, w_ti, w_s1, w_a, w_m12, w_m8, w_m3, w_m4, b3, kd_M, ln_M]
theorem m_one (hB : HB_ xs B N c x0 Rd m) : ∀ (n d k : Nat) (r : Nat → Int32), n ≤ 8 → 3 * n + 10 ≤ d → k ≤ N → MZ_ B N x0 k r → MRV_ (fun Q => V_ xs d 160 0 [vA (some 33554440), vI (Int32.ofNat (8 - n)), vX 0, vX 0, vX 0] [] (uI_ x0 33554440 r) Q) B N x0 Rd m (pF_ (stk_ B N) (vlk_ B N) n k) := by
  obtain ⟨hR, hM, h56, hE⟩ := id hB
  have k10 : ¬ ((1 : Int32) = 0) := by decide
  have okF := pF_ok (f := N) (stk_0 (B := B)) (vlk_nat (B := B) (N := N)) (fun k => stk_lt)
  have way : ∀ (d k : Nat) (r : Nat → Int32) (D : Int32), MZ_ B N x0 k r → (stk_ B N k = 17 ∨ stk_ B N k = 4) → ∀ Q, V_ xs d 160 0 [vA (some 33554440), vI D, vX 0, vX 0, vX 0] [] (uI_ x0 33554440 r) Q ↔ V_ xs d 160 26 [vA (some 33554440), vI D, vX 0, vX 0, vX 0] [] (uI_ x0 33554440 r) Q := by
    intro d k r D H q Q
    have n3 : r 52 = Int32.ofNat (stk_ B N k) := H.1.2.2.1
    have h54 := H.2.1
    have hl := stk_lt (B := B) (N := N) (k := k)
    by_cases q1 : stk_ B N k = 17
    · have t17 : Int32.ofNat (stk_ B N k) = 17 := (w_eq (b := 17) (by omega) (by omega)).mpr q1
      simp (disch := first | omega | assumption | decide | (apply bT_; decide)) only [s160_0, s160_1, s160_4, s160_8, s160_9, s160_10, s160_13, s160_15, s160_19, s160_22, s160_23, s160_27, s160_29, s160_32, s160_33, s160_34, s160_37, s160_38, s160_39, s160_40, s160_43, s160_45, s160_48, s160_49, s160_52, s160_53, s160_54, s160_55, s160_58, s160_59, s160_62, s160_63, s160_64, s160_65, s160_66, s160_69, s160_72, s160_73, s160_76, s160_77, s160_78, s160_79, s160_80, s160_81, s160_82, s160_85, s160_86, s160_87, s160_88, s160_91, s160_92, s160_94, s160_97, s160_99, s160_102, s160_103, s160_106, s160_107, s160_110, s160_113, s160_114, s160_117, s160_118, s160_121, s160_122, s160_125, s160_126, s160_129, s160_130, s160_131, s160_132, s160_135, s160_137, s160_140, s160_141, s160_142, s160_145, s160_146, s160_147, s160_148, s160_151, s160_152, s160_153, s160_156, s160_157, s160_160, s160_162, s160_165, s160_166, s160_169, s160_171, s160_174, s160_175, s160_176, s160_179, s160_180, s160_181, s160_182, s160_185, s160_187, s160_190, s160_191, s160_194, s160_195, s160_196, s160_197, s160_200, s160_201, s160_204, s160_205, s160_208, s160_209, s160_210, s160_213, s160_214, s160_215, s160_216, s160_219, s160_221, s160_222, s160_225, s160_226, s160_229, s160_232, s160_233, s160_236, s160_237, s160_238, s160_241, s160_243, s160_244, s160_245, s160_248, s160_251, s160_252, s160_253, s160_256, s160_258, s160_259, s160_260, s160_263, s160_264, s160_267, s160_268, K_v, K_0, acI, acA, acJ, acX, List.map_cons, List.map_nil, List.sum_cons, List.sum_nil, true_and, and_true, posT, b2_0, b2_1, bft, true_or, or_true, Nat.zero_le, Nat.reduceAdd, Nat.reduceLeDiff, hI_uI, hL_uI, hR_uI, nx_uI, sl_uI, hI_uL, hL_uL, hR_uL, nx_uL, sl_uL, hI_uR, hL_uR, hR_uR, nx_uR, sl_uR, st_eq, if_true, if_false, eq_self, Nat.reduceEqDiff, Nat.reduceMul, reduceIte, kdT, ixT, w_cl, w_ti, w_s1, w_a, w_m12, w_m8, w_m3, w_m4, h54, n3, if_pos t17, kd_M, ln_M]
    · have t17 : ¬ (Int32.ofNat (stk_ B N k) = 17) := fun z => q1 ((w_eq (b := 17) (by omega) (by omega)).mp z)
      have t4 : Int32.ofNat (stk_ B N k) = 4 := (w_eq (b := 4) (by omega) (by omega)).mpr (by omega)
      simp (disch := first | omega | assumption | decide | (apply bT_; decide)) only [s160_0, s160_1, s160_4, s160_8, s160_9, s160_10, s160_13, s160_15, s160_18, s160_19, s160_22, s160_23, s160_27, s160_29, s160_32, s160_33, s160_34, s160_37, s160_38, s160_39, s160_40, s160_43, s160_45, s160_48, s160_49, s160_52, s160_53, s160_54, s160_55, s160_58, s160_59, s160_62, s160_63, s160_64, s160_65, s160_66, s160_69, s160_72, s160_73, s160_76, s160_77, s160_78, s160_79, s160_80, s160_81, s160_82, s160_85, s160_86, s160_87, s160_88, s160_91, s160_92, s160_94, s160_97, s160_99, s160_102, s160_103, s160_106, s160_107, s160_110, s160_113, s160_114, s160_117, s160_118, s160_121, s160_122, s160_125, s160_126, s160_129, s160_130, s160_131, s160_132, s160_135, s160_137, s160_140, s160_141, s160_142, s160_145, s160_146, s160_147, s160_148, s160_151, s160_152, s160_153, s160_156, s160_157, s160_160, s160_162, s160_165, s160_166, s160_169, s160_171, s160_174, s160_175, s160_176, s160_179, s160_180, s160_181, s160_182, s160_185, s160_187, s160_190, s160_191, s160_194, s160_195, s160_196, s160_197, s160_200, s160_201, s160_204, s160_205, s160_208, s160_209, s160_210, s160_213, s160_214, s160_215, s160_216, s160_219, s160_221, s160_222, s160_225, s160_226, s160_229, s160_232, s160_233, s160_236, s160_237, s160_238, s160_241, s160_243, s160_244, s160_245, s160_248, s160_251, s160_252, s160_253, s160_256, s160_258, s160_259, s160_260, s160_263, s160_264, s160_267, s160_268, K_v, K_0, acI, acA, acJ, acX, List.map_cons, List.map_nil, List.sum_cons, List.sum_nil, true_and, and_true, posT, b2_0, b2_1, bft, true_or, or_true, Nat.zero_le, Nat.reduceAdd, Nat.reduceLeDiff, hI_uI, hL_uI, hR_uI, nx_uI, sl_uI, hI_uL, hL_uL, hR_uL, nx_uL, sl_uL, hI_uR, hL_uR, hR_uR, nx_uR, sl_uR, st_eq, if_true, if_false, eq_self, Nat.reduceEqDiff, Nat.reduceMul, reduceIte, kdT, ixT, w_cl, w_ti, w_s1, w_a, w_m12, w_m8, w_m3, w_m4, h54, n3, if_neg t17, if_pos t4, kd_M, ln_M]
  intro n
  induction n with
  | zero =>
    intro d k r hn hd hk H
    show MRV_ _ B N x0 Rd m (if stk_ B N k = 17 ∨ stk_ B N k = 4 then .inl (2, k) else psm_ (stk_ B N) (vlk_ B N) k)
    by_cases q : stk_ B N k = 17 ∨ stk_ B N k = 4
    · rw [if_pos q]
      obtain ⟨r', b1, b2⟩ := m_fails (xs := xs) (d := d - 1) (w := 2) (Or.inr rfl) H
      have b2' : ∀ Q : OU_ → AH → Prop, V_ xs (d - 1) 156 0 [vA (some 33554440), vI 2] [] (uI_ x0 33554440 r) Q ↔ Q (some none) (uI_ x0 33554440 r') := b2
      have e8 : Int32.ofNat (8 - 0) = 8 := by decide
      refine ⟨r', false, b1, fun Q => (way d k r _ H q Q).trans ?_⟩
      rw [s160_26]
      simp (disch := first | omega | assumption | decide | (apply bT_; decide)) only [s160_0, s160_1, s160_4, s160_7, s160_8, s160_9, s160_10, s160_13, s160_15, s160_18, s160_19, s160_22, s160_23, s160_27, s160_29, s160_32, s160_33, s160_34, s160_37, s160_38, s160_40, s160_43, s160_45, s160_48, s160_49, s160_52, s160_53, s160_54, s160_55, s160_58, s160_59, s160_62, s160_63, s160_64, s160_65, s160_66, s160_69, s160_72, s160_73, s160_76, s160_77, s160_78, s160_79, s160_80, s160_81, s160_82, s160_85, s160_86, s160_87, s160_88, s160_91, s160_92, s160_93, s160_94, s160_97, s160_99, s160_102, s160_103, s160_106, s160_107, s160_110, s160_113, s160_114, s160_117, s160_118, s160_121, s160_122, s160_125, s160_126, s160_129, s160_130, s160_131, s160_132, s160_135, s160_137, s160_140, s160_141, s160_142, s160_145, s160_146, s160_147, s160_148, s160_151, s160_152, s160_153, s160_156, s160_157, s160_160, s160_162, s160_165, s160_166, s160_169, s160_171, s160_174, s160_175, s160_176, s160_179, s160_180, s160_181, s160_182, s160_185, s160_187, s160_190, s160_191, s160_194, s160_195, s160_196, s160_197, s160_200, s160_201, s160_204, s160_205, s160_208, s160_209, s160_210, s160_213, s160_214, s160_215, s160_216, s160_219, s160_221, s160_222, s160_225, s160_226, s160_229, s160_232, s160_233, s160_236, s160_237, s160_238, s160_241, s160_243, s160_244, s160_245, s160_248, s160_251, s160_252, s160_253, s160_256, s160_258, s160_259, s160_260, s160_263, s160_264, s160_267, s160_268, K_v, K_0, acI, acA, acJ, acX, List.map_cons, List.map_nil, List.sum_cons, List.sum_nil, true_and, and_true, posT, b2_0, b2_1, bft, true_or, or_true, Nat.zero_le, Nat.reduceAdd, Nat.reduceLeDiff, hI_uI, hL_uI, hR_uI, nx_uI, sl_uI, hI_uL, hL_uL, hR_uL, nx_uL, sl_uL, hI_uR, hL_uR, hR_uR, nx_uR, sl_uR, st_eq, if_true, if_false, eq_self, Nat.reduceEqDiff, Nat.reduceMul, reduceIte, kdT, ixT, w_cl, w_ti, w_s1, w_a, w_m12, w_m8, w_m3, w_m4, e8, b2', bfz_, kd_M, ln_M]
    · rw [if_neg q]; exact m_simple hB H q (by omega)
  | succ n ih =>
    intro d k r hn hd hk H
    show MRV_ _ B N x0 Rd m (if stk_ B N k = 17 ∨ stk_ B N k = 4 then (if stk_ B N k = 4 then (match pst_ (stk_ B N) 15 orE_ (pst_ (stk_ B N) 16 andE_ (pF_ (stk_ B N) (vlk_ B N) n)) (k + 1) with | .inl x => .inl x | .inr (e, k1) => if stk_ B N k1 = 5 then .inr (e, k1 + 1) else .inl (1, k1)) else (match pF_ (stk_ B N) (vlk_ B N) n (k + 1) with | .inl x => .inl x | .inr (e, k1) => .inr (notE_ e, k1))) else psm_ (stk_ B N) (vlk_ B N) k)
    by_cases q : stk_ B N k = 17 ∨ stk_ B N k = 4
    · rw [if_pos q]
      have hk1 : k + 1 ≤ N := by
        rcases Nat.lt_or_ge k N with z | z
        · exact z
        · rw [stk_0 k z] at q; exact absurd q (by decide)
      have n3 : r 52 = Int32.ofNat (stk_ B N k) := H.1.2.2.1
      have hl := stk_lt (B := B) (N := N) (k := k)
      have n8 : ¬ (Int32.ofNat (8 - (n + 1)) = 8) := fun z => by
        have := (w_eq (b := 8) (by omega) (by omega)).mp z
        omega
      have ed : Int32.ofNat (8 - (n + 1)) + 1 = Int32.ofNat (8 - n) := by rw [w_s1, show 8 - (n + 1) + 1 = 8 - n by omega]
      obtain ⟨r1, a1, a2⟩ := m_next (xs := xs) (d := d - 1) hR H (by omega)
      refine MRV_.tr (way d k r _ H q) ?_
      by_cases q2 : stk_ B N k = 4
      · rw [if_pos q2]
        have t17 : ¬ (Int32.ofNat (stk_ B N k) = 17) := fun z => by
          have := (w_eq (b := 17) (by omega) (by omega)).mp z
          omega
        have hEE := m_either (xs := xs) (d := d - 1) (D := Int32.ofNat (8 - n)) (sub := pst_ (stk_ B N) 16 andE_ (pF_ (stk_ B N) (vlk_ B N) n)) (DD := 1 + 2 * n + 1) hB (by omega) (fun k hk => pst_ok (by decide) (stk_0 (B := B)) mk_and (okF n) hk) (fun k r hk H => m_all (DD := 1 + 2 * n) hB (by omega) (okF n) (fun k r hk H => ih (d - 1 - 1 - 1) k r (by omega) (by omega) hk H) hk H) hk1 a1
        have okE := pst_ok (k := k + 1) (t := 15) (by decide) (stk_0 (B := B)) mk_or (fun k hk => pst_ok (t := 16) (by decide) (stk_0 (B := B)) mk_and (okF n) hk) hk1
        cases hr : pst_ (stk_ B N) 15 orE_ (pst_ (stk_ B N) 16 andE_ (pF_ (stk_ B N) (vlk_ B N) n)) (k + 1) with
        | inl y =>
          obtain ⟨w, k1⟩ := y
          rw [hr] at hEE
          obtain ⟨r2, v2, b1, b2⟩ := hEE
          dsimp only at b2
          have hwf := m_wantsF (xs := xs) (d := d - 1) (s := 5) b1
          have hwf' : ∀ Q : OU_ → AH → Prop, V_ xs (d - 1) 157 0 [vA (some 33554440), vI 5] [] (uI_ x0 33554440 r2) Q ↔ Q (some none) (uI_ x0 33554440 r2) := hwf
          refine ⟨r2, v2, b1, fun Q => ?_⟩
          rw [s160_26]
          simp (disch := first | omega | assumption | decide | (apply bT_; decide)) only [s160_0, s160_1, s160_4, s160_7, s160_8, s160_9, s160_10, s160_13, s160_15, s160_18, s160_19, s160_22, s160_23, s160_27, s160_29, s160_33, s160_34, s160_37, s160_38, s160_39, s160_40, s160_43, s160_45, s160_49, s160_52, s160_53, s160_54, s160_55, s160_58, s160_59, s160_63, s160_64, s160_65, s160_66, s160_69, s160_72, s160_73, s160_76, s160_77, s160_78, s160_79, s160_80, s160_81, s160_82, s160_85, s160_86, s160_87, s160_88, s160_91, s160_92, s160_93, s160_94, s160_97, s160_99, s160_102, s160_103, s160_106, s160_107, s160_110, s160_113, s160_114, s160_117, s160_118, s160_121, s160_122, s160_125, s160_126, s160_129, s160_130, s160_131, s160_132, s160_135, s160_137, s160_140, s160_141, s160_142, s160_145, s160_146, s160_147, s160_148, s160_151, s160_152, s160_153, s160_156, s160_157, s160_160, s160_162, s160_165, s160_166, s160_169, s160_171, s160_174, s160_175, s160_176, s160_179, s160_180, s160_181, s160_182, s160_185, s160_187, s160_190, s160_191, s160_194, s160_195, s160_196, s160_197, s160_200, s160_201, s160_204, s160_205, s160_208, s160_209, s160_210, s160_213, s160_214, s160_215, s160_216, s160_219, s160_221, s160_222, s160_225, s160_226, s160_229, s160_232, s160_233, s160_236, s160_237, s160_238, s160_241, s160_243, s160_244, s160_245, s160_248, s160_251, s160_252, s160_253, s160_256, s160_258, s160_259, s160_260, s160_263, s160_264, s160_267, s160_268, K_v, K_0, acI, acA, acJ, acX, List.map_cons, List.map_nil, List.sum_cons, List.sum_nil, true_and, and_true, posT, b2_0, b2_1, bft, true_or, or_true, Nat.zero_le, Nat.reduceAdd, Nat.reduceLeDiff, hI_uI, hL_uI, hR_uI, nx_uI, sl_uI, hI_uL, hL_uL, hR_uL, nx_uL, sl_uL, hI_uR, hL_uR, hR_uR, nx_uR, sl_uR, st_eq, if_true, if_false, eq_self, Nat.reduceEqDiff, Nat.reduceMul, reduceIte, kdT, ixT, w_cl, w_ti, w_s1, w_a, w_m12, w_m8, w_m3, w_m4, if_neg n8, n3, if_neg t17, a2, ed, b2, hwf', kd_M, ln_M]
        | inr y =>
          obtain ⟨e, k1⟩ := y
          rw [hr] at hEE okE
          obtain ⟨r2, v2, b1, b2, b3⟩ := hEE
          dsimp only at b3
          obtain ⟨o1, o2, -, -⟩ := okE
          have hw := m_wants (xs := xs) (d := d - 1) (s := 5) (by decide) hR b1 (by omega)
          dsimp only
          by_cases q3 : stk_ B N k1 = 5
          · rw [if_pos q3]
            obtain ⟨r3, c1, c2⟩ := hw.1 q3
            have c2' : ∀ Q : OU_ → AH → Prop, V_ xs (d - 1) 157 0 [vA (some 33554440), vI 5] [] (uI_ x0 33554440 r2) Q ↔ Q (some none) (uI_ x0 33554440 r3) := c2
            refine ⟨r3, v2, c1, b2, fun Q => ?_⟩
            rw [s160_26]
            simp (disch := first | omega | assumption | decide | (apply bT_; decide)) only [s160_0, s160_1, s160_4, s160_7, s160_8, s160_9, s160_10, s160_13, s160_15, s160_18, s160_19, s160_22, s160_23, s160_27, s160_29, s160_33, s160_34, s160_37, s160_38, s160_39, s160_40, s160_43, s160_45, s160_49, s160_52, s160_53, s160_54, s160_55, s160_58, s160_59, s160_63, s160_64, s160_65, s160_66, s160_69, s160_72, s160_73, s160_76, s160_77, s160_78, s160_79, s160_80, s160_81, s160_82, s160_85, s160_86, s160_87, s160_88, s160_91, s160_92, s160_93, s160_94, s160_97, s160_99, s160_102, s160_103, s160_106, s160_107, s160_110, s160_113, s160_114, s160_117, s160_118, s160_121, s160_122, s160_125, s160_126, s160_129, s160_130, s160_131, s160_132, s160_135, s160_137, s160_140, s160_141, s160_142, s160_145, s160_146, s160_147, s160_148, s160_151, s160_152, s160_153, s160_156, s160_157, s160_160, s160_162, s160_165, s160_166, s160_169, s160_171, s160_174, s160_175, s160_176, s160_179, s160_180, s160_181, s160_182, s160_185, s160_187, s160_190, s160_191, s160_194, s160_195, s160_196, s160_197, s160_200, s160_201, s160_204, s160_205, s160_208, s160_209, s160_210, s160_213, s160_214, s160_215, s160_216, s160_219, s160_221, s160_222, s160_225, s160_226, s160_229, s160_232, s160_233, s160_236, s160_237, s160_238, s160_241, s160_243, s160_244, s160_245, s160_248, s160_251, s160_252, s160_253, s160_256, s160_258, s160_259, s160_260, s160_263, s160_264, s160_267, s160_268, K_v, K_0, acI, acA, acJ, acX, List.map_cons, List.map_nil, List.sum_cons, List.sum_nil, true_and, and_true, posT, b2_0, b2_1, bft, true_or, or_true, Nat.zero_le, Nat.reduceAdd, Nat.reduceLeDiff, hI_uI, hL_uI, hR_uI, nx_uI, sl_uI, hI_uL, hL_uL, hR_uL, nx_uL, sl_uL, hI_uR, hL_uR, hR_uR, nx_uR, sl_uR, st_eq, if_true, if_false, eq_self, Nat.reduceEqDiff, Nat.reduceMul, reduceIte, kdT, ixT, w_cl, w_ti, w_s1, w_a, w_m12, w_m8, w_m3, w_m4, if_neg n8, n3, if_neg t17, a2, ed, b3, c2', kd_M, ln_M]
          · rw [if_neg q3]
            obtain ⟨r3, c1, c2⟩ := hw.2 q3
            have c2' : ∀ Q : OU_ → AH → Prop, V_ xs (d - 1) 157 0 [vA (some 33554440), vI 5] [] (uI_ x0 33554440 r2) Q ↔ Q (some none) (uI_ x0 33554440 r3) := c2
            refine ⟨r3, v2, c1, fun Q => ?_⟩
            rw [s160_26]
            simp (disch := first | omega | assumption | decide | (apply bT_; decide)) only [s160_0, s160_1, s160_4, s160_7, s160_8, s160_9, s160_10, s160_13, s160_15, s160_18, s160_19, s160_22, s160_23, s160_27, s160_29, s160_33, s160_34, s160_37, s160_38, s160_39, s160_40, s160_43, s160_45, s160_49, s160_52, s160_53, s160_54, s160_55, s160_58, s160_59, s160_63, s160_64, s160_65, s160_66, s160_69, s160_72, s160_73, s160_76, s160_77, s160_78, s160_79, s160_80, s160_81, s160_82, s160_85, s160_86, s160_87, s160_88, s160_91, s160_92, s160_93, s160_94, s160_97, s160_99, s160_102, s160_103, s160_106, s160_107, s160_110, s160_113, s160_114, s160_117, s160_118, s160_121, s160_122, s160_125, s160_126, s160_129, s160_130, s160_131, s160_132, s160_135, s160_137, s160_140, s160_141, s160_142, s160_145, s160_146, s160_147, s160_148, s160_151, s160_152, s160_153, s160_156, s160_157, s160_160, s160_162, s160_165, s160_166, s160_169, s160_171, s160_174, s160_175, s160_176, s160_179, s160_180, s160_181, s160_182, s160_185, s160_187, s160_190, s160_191, s160_194, s160_195, s160_196, s160_197, s160_200, s160_201, s160_204, s160_205, s160_208, s160_209, s160_210, s160_213, s160_214, s160_215, s160_216, s160_219, s160_221, s160_222, s160_225, s160_226, s160_229, s160_232, s160_233, s160_236, s160_237, s160_238, s160_241, s160_243, s160_244, s160_245, s160_248, s160_251, s160_252, s160_253, s160_256, s160_258, s160_259, s160_260, s160_263, s160_264, s160_267, s160_268, K_v, K_0, acI, acA, acJ, acX, List.map_cons, List.map_nil, List.sum_cons, List.sum_nil, true_and, and_true, posT, b2_0, b2_1, bft, true_or, or_true, Nat.zero_le, Nat.reduceAdd, Nat.reduceLeDiff, hI_uI, hL_uI, hR_uI, nx_uI, sl_uI, hI_uL, hL_uL, hR_uL, nx_uL, sl_uL, hI_uR, hL_uR, hR_uR, nx_uR, sl_uR, st_eq, if_true, if_false, eq_self, Nat.reduceEqDiff, Nat.reduceMul, reduceIte, kdT, ixT, w_cl, w_ti, w_s1, w_a, w_m12, w_m8, w_m3, w_m4, if_neg n8, n3, if_neg t17, a2, ed, b3, c2', kd_M, ln_M]
      · rw [if_neg q2]
        have t17 : Int32.ofNat (stk_ B N k) = 17 := (w_eq (b := 17) (by omega) (by omega)).mpr (by omega)
        have hF := ih (d - 1) (k + 1) r1 (by omega) (by omega) hk1 a1
        cases hr : pF_ (stk_ B N) (vlk_ B N) n (k + 1) with
        | inl y =>
          obtain ⟨w, k1⟩ := y
          rw [hr] at hF
          obtain ⟨r2, v2, b1, b2⟩ := hF
          dsimp only at b2
          refine ⟨r2, !v2, b1, fun Q => ?_⟩
          rw [s160_26]
          cases v2
          all_goals simp (disch := first | omega | assumption | decide | (apply bT_; decide)) only [s160_0, s160_1, s160_4, s160_7, s160_8, s160_9, s160_10, s160_13, s160_15, s160_18, s160_19, s160_22, s160_23, s160_27, s160_29, s160_33, s160_34, s160_37, s160_38, s160_39, s160_40, s160_43, s160_45, s160_48, s160_49, s160_53, s160_54, s160_55, s160_58, s160_59, s160_62, s160_63, s160_64, s160_65, s160_66, s160_69, s160_72, s160_73, s160_76, s160_77, s160_79, s160_80, s160_81, s160_82, s160_85, s160_86, s160_87, s160_88, s160_91, s160_92, s160_93, s160_94, s160_97, s160_99, s160_102, s160_103, s160_106, s160_107, s160_110, s160_113, s160_114, s160_117, s160_118, s160_121, s160_122, s160_125, s160_126, s160_129, s160_130, s160_131, s160_132, s160_135, s160_137, s160_140, s160_141, s160_142, s160_145, s160_146, s160_147, s160_148, s160_151, s160_152, s160_153, s160_156, s160_157, s160_160, s160_162, s160_165, s160_166, s160_169, s160_171, s160_174, s160_175, s160_176, s160_179, s160_180, s160_181, s160_182, s160_185, s160_187, s160_190, s160_191, s160_194, s160_195, s160_196, s160_197, s160_200, s160_201, s160_204, s160_205, s160_208, s160_209, s160_210, s160_213, s160_214, s160_215, s160_216, s160_219, s160_221, s160_222, s160_225, s160_226, s160_229, s160_232, s160_233, s160_236, s160_237, s160_238, s160_241, s160_243, s160_244, s160_245, s160_248, s160_251, s160_252, s160_253, s160_256, s160_258, s160_259, s160_260, s160_263, s160_264, s160_267, s160_268, K_v, K_0, acI, acA, acJ, acX, List.map_cons, List.map_nil, List.sum_cons, List.sum_nil, true_and, and_true, posT, b2_0, b2_1, bft, true_or, or_true, Nat.zero_le, Nat.reduceAdd, Nat.reduceLeDiff, hI_uI, hL_uI, hR_uI, nx_uI, sl_uI, hI_uL, hL_uL, hR_uL, nx_uL, sl_uL, hI_uR, hL_uR, hR_uR, nx_uR, sl_uR, st_eq, if_true, if_false, eq_self, Nat.reduceEqDiff, Nat.reduceMul, reduceIte, kdT, ixT, w_cl, w_ti, w_s1, w_a, w_m12, w_m8, w_m3, w_m4, if_neg n8, n3, if_pos t17, a2, ed, b2, bfz_, btz_, k10, kd_M, ln_M]
          all_goals exact Iff.rfl
        | inr y =>
          obtain ⟨e, k1⟩ := y
          rw [hr] at hF
          obtain ⟨r2, v2, b1, b2, b3⟩ := hF
          dsimp only at b3
          refine ⟨r2, !v2, b1, fun z => by rw [b2 z]; rfl, fun Q => ?_⟩
          rw [s160_26]
          cases v2
          all_goals simp (disch := first | omega | assumption | decide | (apply bT_; decide)) only [s160_0, s160_1, s160_4, s160_7, s160_8, s160_9, s160_10, s160_13, s160_15, s160_18, s160_19, s160_22, s160_23, s160_27, s160_29, s160_33, s160_34, s160_37, s160_38, s160_39, s160_40, s160_43, s160_45, s160_48, s160_49, s160_53, s160_54, s160_55, s160_58, s160_59, s160_62, s160_63, s160_64, s160_65, s160_66, s160_69, s160_72, s160_73, s160_76, s160_77, s160_79, s160_80, s160_81, s160_82, s160_85, s160_86, s160_87, s160_88, s160_91, s160_92, s160_93, s160_94, s160_97, s160_99, s160_102, s160_103, s160_106, s160_107, s160_110, s160_113, s160_114, s160_117, s160_118, s160_121, s160_122, s160_125, s160_126, s160_129, s160_130, s160_131, s160_132, s160_135, s160_137, s160_140, s160_141, s160_142, s160_145, s160_146, s160_147, s160_148, s160_151, s160_152, s160_153, s160_156, s160_157, s160_160, s160_162, s160_165, s160_166, s160_169, s160_171, s160_174, s160_175, s160_176, s160_179, s160_180, s160_181, s160_182, s160_185, s160_187, s160_190, s160_191, s160_194, s160_195, s160_196, s160_197, s160_200, s160_201, s160_204, s160_205, s160_208, s160_209, s160_210, s160_213, s160_214, s160_215, s160_216, s160_219, s160_221, s160_222, s160_225, s160_226, s160_229, s160_232, s160_233, s160_236, s160_237, s160_238, s160_241, s160_243, s160_244, s160_245, s160_248, s160_251, s160_252, s160_253, s160_256, s160_258, s160_259, s160_260, s160_263, s160_264, s160_267, s160_268, K_v, K_0, acI, acA, acJ, acX, List.map_cons, List.map_nil, List.sum_cons, List.sum_nil, true_and, and_true, posT, b2_0, b2_1, bft, true_or, or_true, Nat.zero_le, Nat.reduceAdd, Nat.reduceLeDiff, hI_uI, hL_uI, hR_uI, nx_uI, sl_uI, hI_uL, hL_uL, hR_uL, nx_uL, sl_uL, hI_uR, hL_uR, hR_uR, nx_uR, sl_uR, st_eq, if_true, if_false, eq_self, Nat.reduceEqDiff, Nat.reduceMul, reduceIte, kdT, ixT, w_cl, w_ti, w_s1, w_a, w_m12, w_m8, w_m3, w_m4, if_neg n8, n3, if_pos t17, a2, ed, b3, bfz_, btz_, k10, kd_M, ln_M]
          all_goals exact Iff.rfl
    · rw [if_neg q]; exact m_simple hB H q (by omega)
theorem m_expr (hB : HB_ xs B N c x0 Rd m) (hd : 36 ≤ d) (hk : k ≤ N) (H : MZ_ B N x0 k r) : MRV_ (fun Q => V_ xs d 158 0 [vA (some 33554440), vI 0, vX 0, vX 0] [] (uI_ x0 33554440 r) Q) B N x0 Rd m (pE_ (stk_ B N) (vlk_ B N) 8 k) := by
  have okF := pF_ok (f := N) (stk_0 (B := B)) (vlk_nat (B := B) (N := N)) (fun k => stk_lt)
  exact m_either (xs := xs) (d := d) (D := Int32.ofNat (8 - 8)) (DD := 1 + 2 * 8 + 1) hB (by omega) (fun k hk => pst_ok (by decide) (stk_0 (B := B)) mk_and (okF 8) hk) (fun k r hk H => m_all (DD := 1 + 2 * 8) hB (by omega) (okF 8) (fun k r hk H => m_one hB 8 (d - 1 - 1) k r (by omega) (by omega) hk H) hk H) hk H
end MON
