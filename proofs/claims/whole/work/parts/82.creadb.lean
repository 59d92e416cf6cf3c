/-! the class reads an expression -/
theorem tok_is {σ s t : Nat} (hσ : σ < 25) (ht : cl_ σ < 20) (hs : s < 25) (e : tref_ (cl_ σ) = t) : some (tref_ (cl_ s)) = some t ↔ s = σ := by
  rw [← e, tref_inj]
  exact cl_inj σ hσ s hs ht
theorem what_f : ∀ s, s < 25 → s ≠ 18 → cI_ (tref_ (cl_ s)) 0 = if s < 20 then -1 else Int32.ofNat (wof_ s) := by decide +kernel
section CRE
variable {xs : Nat → Int32} {d : Nat} {h0 x : AH} {B : Nat → Int32} {N cG cW cN cP cT sz f k : Nat} {pr : Nat → Int32} {s : List Int32}
theorem c_readSimple (hg : GC_ cG cW cN cP cT) (hC : CS_ h0) (hT : TKF_ B N f h0) (hz : 0 < sz ∧ sz ≤ 10) (hd : 1 ≤ d) (H : RS_ h0 cG cP cT sz f pr 1 k s x) : RRV_ (fun Q => V_ xs d 52 0 [vA (some 29884421), vX 0, vX 0, vX 0] [] x Q) h0 cG cP cT sz f pr s (psm_ (stk_ B N) (vlk_ B N) k) := by
  have f8 := hT.2.2.1
  have hkG : kd_ cG = 1 := by rcases hg with ⟨rfl, rfl, rfl, rfl, rfl⟩ | ⟨rfl, rfl, rfl, rfl, rfl⟩ <;> decide
  have k10 : ¬ ((1 : Int32) = 0) := by decide
  have hb : kd_ 30197846 = 20 ∨ kd_ 30197846 = 21 ∨ kd_ 30197846 = 22 := Or.inr (Or.inr rfl)
  have hCx := H.cs hC
  have tg := c_take (xs := xs) (d := d - 1) (σ := 18) (by decide) (by decide) hg hC hT H
  rw [show tref_ (cl_ 18) = 2359328 from by decide] at tg
  unfold psm_
  by_cases q1 : stk_ B N k = 18
  · rw [if_pos q1]
    obtain ⟨hkf, tk⟩ := tg.1 q1
    have H1 := H.at hg hkf
    obtain ⟨x', a1, a2⟩ := c_addStep (xs := xs) (d := d - 1) (v := pk_ 4 false 1) hg hC hz f8 H1 (by have := H.2.2.2.2.2.2.2.2.1; omega)
    have epk : (4 : Int32) ||| 4 <<< ((3 : Int32) &&& 31) ||| 1 <<< ((6 : Int32) &&& 31) = pk_ 4 false 1 := by decide +kernel
    refine ⟨x', a1, fun Q => ?_⟩
    have r6 := H1.2.2.2.2.2.1
    simp (disch := first | omega | assumption | decide | (apply bT_; decide)) only [s52_0, s52_1, s52_4, s52_7, s52_10, s52_11, s52_14, s52_15, s52_16, s52_17, s52_20, s52_23, s52_24, s52_26, s52_29, s52_30, s52_33, s52_34, s52_37, s52_38, s52_39, s52_40, s52_43, s52_44, s52_45, s52_46, s52_46i, s52_47, s52_50, s52_51, s52_52, s52_55, s52_56, s52_59, s52_62, s52_63, s52_64, s52_67, s52_68, s52_71, s52_74, s52_77, s52_78, s52_79, s52_80, s52_83, s52_84, s52_87, s52_88, s52_89, s52_90, s52_93, s52_96, s52_99, s52_100, s52_101, s52_102, s52_105, s52_106, s52_107, s52_110, s52_111, s52_114, s52_115, s52_116, s52_119, s52_122, s52_123, K_v, K_0, acI, acA, acJ, acX, List.map_cons, List.map_nil, List.sum_cons, List.sum_nil, true_and, and_true, posT, b2_0, b2_1, bft, true_or, or_true, Nat.zero_le, Nat.reduceAdd, Nat.reduceLeDiff, hI_uI, hL_uI, hR_uI, nx_uI, sl_uI, hI_uL, hL_uL, hR_uL, nx_uL, sl_uL, hI_uR, hL_uR, hR_uR, nx_uR, sl_uR, st_eq, if_true, if_false, eq_self, Nat.reduceEqDiff, Nat.reduceMul, reduceIte, kdT, ixT, w_cl, w_ti, w_s1, w_a, w_m12, w_m8, w_m3, w_m4, at_f, hR_at, tk, k10, r6, c_comparison, epk, a2, hkG, kd_RD, ln_RD]
  · rw [if_neg q1]
    have tk := tg.2 q1
    have htk := H.tok hT
    obtain ⟨t1, -, -⟩ := tok_f (cl_ (stk_ B N k)) (cl_lt _ stk_lt)
    have hwh := what_f (stk_ B N k) stk_lt q1
    have r3 := H.2.2.1
    by_cases q2 : stk_ B N k < 20
    · rw [if_pos q2] at hwh ⊢
      refine ⟨x, s, H, fun Q => ?_⟩
      have hk4 := H.2.2.2.1
      simp (disch := first | omega | assumption | decide | (apply bT_; decide)) only [s52_0, s52_1, s52_4, s52_7, s52_11, s52_14, s52_15, s52_16, s52_17, s52_20, s52_23, s52_24, s52_25, s52_26, s52_29, s52_30, s52_33, s52_34, s52_37, s52_38, s52_39, s52_40, s52_43, s52_44, s52_46, s52_46i, s52_47, s52_50, s52_51, s52_52, s52_55, s52_56, s52_59, s52_62, s52_63, s52_64, s52_67, s52_68, s52_71, s52_74, s52_77, s52_78, s52_79, s52_80, s52_83, s52_84, s52_87, s52_88, s52_89, s52_90, s52_93, s52_96, s52_99, s52_100, s52_101, s52_102, s52_105, s52_106, s52_107, s52_110, s52_111, s52_114, s52_115, s52_116, s52_119, s52_122, s52_123, K_v, K_0, acI, acA, acJ, acX, List.map_cons, List.map_nil, List.sum_cons, List.sum_nil, true_and, and_true, posT, b2_0, b2_1, bft, true_or, or_true, Nat.zero_le, Nat.reduceAdd, Nat.reduceLeDiff, hI_uI, hL_uI, hR_uI, nx_uI, sl_uI, hI_uL, hL_uL, hR_uL, nx_uL, sl_uL, hI_uR, hL_uR, hR_uR, nx_uR, sl_uR, st_eq, if_true, if_false, eq_self, Nat.reduceEqDiff, Nat.reduceMul, reduceIte, kdT, ixT, w_cl, w_ti, w_s1, w_a, w_m12, w_m8, w_m3, w_m4, hCx.x0, hCx.x2, hCx.x4, hCx.x7, hCx.x8, hCx.x9, hCx.x11, hCx.f0, hCx.f1, hCx.f2, hCx.p0, hCx.p1, hCx.p2, hCx.p3, hCx.l1, hCx.l2, hCx.l3, hCx.l4, hCx.d0, hCx.d1, hCx.d2, hCx.g1, hCx.g2, hCx.g3, hCx.g4, hCx.k1, hCx.k2, hCx.k3, hCx.k4, tk, r3, htk, hwh, t1, hb, kd_RD, ln_RD, kd_TK, ln_TK]
    · rw [if_neg q2] at hwh ⊢
      have hkf : k < f := by
        rcases Nat.lt_or_ge k f with z | z
        · exact z
        · rw [tkf_0 hT k z] at q2; exact absurd (by decide) q2
      have hwn : ¬ (Int32.ofNat (wof_ (stk_ B N k)) = -1) := by
        have : ∀ s, s < 25 → ¬ (Int32.ofNat (wof_ s) = -1) := by decide +kernel
        exact this _ stk_lt
      have H1 := H.at hg hkf
      have hC1 := H1.cs hC
      have t2 := c_take (xs := xs) (d := d - 1) (σ := 7) (by decide) (by decide) hg hC hT H1
      rw [show tref_ (cl_ 7) = 4718624 from by decide] at t2
      have t3 := c_take (xs := xs) (d := d - 1) (σ := 8) (by decide) (by decide) hg hC hT H1
      rw [show tref_ (cl_ 8) = 4980768 from by decide] at t3
      have e1 : k + 1 + 1 = k + 2 := rfl
      by_cases q3 : stk_ B N (k + 1) = 7 ∨ stk_ B N (k + 1) = 8
      · rw [if_pos q3]
        have hk2 : k + 1 < f := by
          rcases q3 with q3 | q3
          · exact (t2.1 q3).1
          · exact (t3.1 q3).1
        have H2 := H1.at hg hk2
        have hC2 := H2.cs hC
        have t4 := c_take (xs := xs) (d := d - 1) (σ := 2) (by decide) (by decide) hg hC hT H2
        rw [show tref_ (cl_ 2) = 5242912 from by decide] at t4
        have r32 := H2.2.2.1
        -- the way to the number
        have way : ∀ Q, V_ xs d 52 0 [vA (some 29884421), vX 0, vX 0, vX 0] [] x Q ↔ V_ xs d 52 79 [vA (some 29884421), vI (Int32.ofNat (wof_ (stk_ B N k))), vI (b2_ (decide (stk_ B N (k + 1) = 7))), vX 0] [] (at_ (at_ x (k + 1)) (k + 1 + 1)) Q := by
          intro Q
          by_cases q7 : stk_ B N (k + 1) = 7
          · have tk2 := (t2.1 q7).2
            rw [decide_eq_true q7]
            simp (disch := first | omega | assumption | decide | (apply bT_; decide)) only [s52_0, s52_1, s52_4, s52_7, s52_11, s52_14, s52_15, s52_16, s52_17, s52_20, s52_23, s52_24, s52_25, s52_26, s52_29, s52_30, s52_33, s52_34, s52_37, s52_38, s52_39, s52_40, s52_44, s52_45, s52_46, s52_46i, s52_47, s52_50, s52_51, s52_52, s52_55, s52_56, s52_59, s52_62, s52_63, s52_64, s52_68, s52_71, s52_74, s52_77, s52_78, s52_80, s52_83, s52_84, s52_87, s52_88, s52_89, s52_90, s52_93, s52_96, s52_99, s52_100, s52_101, s52_102, s52_105, s52_106, s52_107, s52_110, s52_111, s52_114, s52_115, s52_116, s52_119, s52_122, s52_123, K_v, K_0, acI, acA, acJ, acX, List.map_cons, List.map_nil, List.sum_cons, List.sum_nil, true_and, and_true, posT, b2_0, b2_1, bft, true_or, or_true, Nat.zero_le, Nat.reduceAdd, Nat.reduceLeDiff, hI_uI, hL_uI, hR_uI, nx_uI, sl_uI, hI_uL, hL_uL, hR_uL, nx_uL, sl_uL, hI_uR, hL_uR, hR_uR, nx_uR, sl_uR, st_eq, if_true, if_false, eq_self, Nat.reduceEqDiff, Nat.reduceMul, reduceIte, kdT, ixT, w_cl, w_ti, w_s1, w_a, w_m12, w_m8, w_m3, w_m4, at_f, hR_at, hCx.x0, hCx.x2, hCx.x4, hCx.x7, hCx.x8, hCx.x9, hCx.x11, hCx.f0, hCx.f1, hCx.f2, hCx.p0, hCx.p1, hCx.p2, hCx.p3, hCx.l1, hCx.l2, hCx.l3, hCx.l4, hCx.d0, hCx.d1, hCx.d2, hCx.g1, hCx.g2, hCx.g3, hCx.g4, hCx.k1, hCx.k2, hCx.k3, hCx.k4, tk, r3, htk, hwh, hwn, t1, hb, tk2, k10, kd_RD, ln_RD, kd_TK, ln_TK]
            exact Iff.rfl
          · have q8 : stk_ B N (k + 1) = 8 := by omega
            have tk2 := t2.2 q7
            have tk3 := (t3.1 q8).2
            rw [decide_eq_false q7]
            simp (disch := first | omega | assumption | decide | (apply bT_; decide)) only [s52_0, s52_1, s52_4, s52_7, s52_11, s52_14, s52_15, s52_16, s52_17, s52_20, s52_23, s52_24, s52_25, s52_26, s52_29, s52_30, s52_33, s52_34, s52_37, s52_38, s52_39, s52_40, s52_44, s52_45, s52_46, s52_46i, s52_47, s52_50, s52_51, s52_52, s52_55, s52_56, s52_59, s52_62, s52_63, s52_64, s52_67, s52_68, s52_71, s52_74, s52_78, s52_80, s52_83, s52_84, s52_87, s52_88, s52_89, s52_90, s52_93, s52_96, s52_99, s52_100, s52_101, s52_102, s52_105, s52_106, s52_107, s52_110, s52_111, s52_114, s52_115, s52_116, s52_119, s52_122, s52_123, K_v, K_0, acI, acA, acJ, acX, List.map_cons, List.map_nil, List.sum_cons, List.sum_nil, true_and, and_true, posT, b2_0, b2_1, bft, true_or, or_true, Nat.zero_le, Nat.reduceAdd, Nat.reduceLeDiff, hI_uI, hL_uI, hR_uI, nx_uI, sl_uI, hI_uL, hL_uL, hR_uL, nx_uL, sl_uL, hI_uR, hL_uR, hR_uR, nx_uR, sl_uR, st_eq, if_true, if_false, eq_self, Nat.reduceEqDiff, Nat.reduceMul, reduceIte, kdT, ixT, w_cl, w_ti, w_s1, w_a, w_m12, w_m8, w_m3, w_m4, at_f, hR_at, hCx.x0, hCx.x2, hCx.x4, hCx.x7, hCx.x8, hCx.x9, hCx.x11, hCx.f0, hCx.f1, hCx.f2, hCx.p0, hCx.p1, hCx.p2, hCx.p3, hCx.l1, hCx.l2, hCx.l3, hCx.l4, hCx.d0, hCx.d1, hCx.d2, hCx.g1, hCx.g2, hCx.g3, hCx.g4, hCx.k1, hCx.k2, hCx.k3, hCx.k4, tk, r3, htk, hwh, hwn, t1, hb, tk2, tk3, k10, kd_RD, ln_RD, kd_TK, ln_TK]
            exact Iff.rfl
        refine RRV_.tr way ?_
        by_cases q4 : stk_ B N (k + 2) = 2
        · rw [if_pos q4]
          obtain ⟨hk3, tk4⟩ := t4.1 q4
          have H3 := H2.at hg hk3
          have hnum := H2.num hg hT q4
          obtain ⟨x', a1, a2⟩ := c_addStep (xs := xs) (d := d - 1) (v := pk_ (wof_ (stk_ B N k)) (decide (stk_ B N (k + 1) = 7)) (vlk_ B N (k + 2))) hg hC hz f8 H3 (by have := H.2.2.2.2.2.2.2.2.1; omega)
          have r6 := H3.2.2.2.2.2.1
          refine ⟨x', a1, fun Q => ?_⟩
          by_cases q7 : stk_ B N (k + 1) = 7
          · rw [decide_eq_true q7] at a2 ⊢
            have epk : (3 : Int32) ||| Int32.ofNat (wof_ (stk_ B N k)) <<< ((3 : Int32) &&& 31) ||| vlk_ B N (k + 2) <<< ((6 : Int32) &&& 31) = pk_ (wof_ (stk_ B N k)) true (vlk_ B N (k + 2)) := rfl
            have b1 : b2_ true = 1 := rfl
            have hnum' : hI_ (at_ (at_ x (k + 1)) (k + 1 + 1)) 30722128 (k + 1 + 1) = vlk_ B N (k + 2) := hnum
            rw [s52_79, b1]
            simp (disch := first | omega | assumption | decide | (apply bT_; decide)) only [s52_0, s52_1, s52_4, s52_7, s52_10, s52_11, s52_14, s52_15, s52_16, s52_17, s52_20, s52_23, s52_24, s52_25, s52_26, s52_29, s52_30, s52_33, s52_34, s52_37, s52_38, s52_39, s52_40, s52_43, s52_44, s52_45, s52_46, s52_46i, s52_47, s52_50, s52_51, s52_52, s52_55, s52_56, s52_59, s52_62, s52_63, s52_64, s52_67, s52_68, s52_71, s52_74, s52_77, s52_78, s52_80, s52_83, s52_84, s52_87, s52_88, s52_89, s52_90, s52_93, s52_96, s52_100, s52_101, s52_102, s52_105, s52_106, s52_107, s52_110, s52_111, s52_115, s52_116, s52_119, s52_122, s52_123, K_v, K_0, acI, acA, acJ, acX, List.map_cons, List.map_nil, List.sum_cons, List.sum_nil, true_and, and_true, posT, b2_0, b2_1, bft, true_or, or_true, Nat.zero_le, Nat.reduceAdd, Nat.reduceLeDiff, hI_uI, hL_uI, hR_uI, nx_uI, sl_uI, hI_uL, hL_uL, hR_uL, nx_uL, sl_uL, hI_uR, hL_uR, hR_uR, nx_uR, sl_uR, st_eq, if_true, if_false, eq_self, Nat.reduceEqDiff, Nat.reduceMul, reduceIte, kdT, ixT, w_cl, w_ti, w_s1, w_a, w_m12, w_m8, w_m3, w_m4, at_f, hR_at, hC2.x0, hC2.x2, hC2.x4, hC2.x7, hC2.x8, hC2.x9, hC2.x11, hC2.f0, hC2.f1, hC2.f2, hC2.p0, hC2.p1, hC2.p2, hC2.p3, hC2.l1, hC2.l2, hC2.l3, hC2.l4, hC2.d0, hC2.d1, hC2.d2, hC2.g1, hC2.g2, hC2.g3, hC2.g4, hC2.k1, hC2.k2, hC2.k3, hC2.k4, r32, hnum', tk4, r6, k10, c_comparison, epk, a2, hkG, kd_RD, ln_RD, kd_NUM, ln_NUM]
          · rw [decide_eq_false q7] at a2 ⊢
            have epk : (4 : Int32) ||| Int32.ofNat (wof_ (stk_ B N k)) <<< ((3 : Int32) &&& 31) ||| vlk_ B N (k + 2) <<< ((6 : Int32) &&& 31) = pk_ (wof_ (stk_ B N k)) false (vlk_ B N (k + 2)) := rfl
            have b1 : b2_ false = 0 := rfl
            have hnum' : hI_ (at_ (at_ x (k + 1)) (k + 1 + 1)) 30722128 (k + 1 + 1) = vlk_ B N (k + 2) := hnum
            rw [s52_79, b1]
            simp (disch := first | omega | assumption | decide | (apply bT_; decide)) only [s52_0, s52_1, s52_4, s52_7, s52_10, s52_11, s52_14, s52_15, s52_16, s52_17, s52_20, s52_23, s52_24, s52_25, s52_26, s52_29, s52_30, s52_33, s52_34, s52_37, s52_38, s52_39, s52_40, s52_43, s52_44, s52_45, s52_46, s52_46i, s52_47, s52_50, s52_51, s52_52, s52_55, s52_56, s52_59, s52_62, s52_63, s52_64, s52_67, s52_68, s52_71, s52_74, s52_77, s52_78, s52_80, s52_83, s52_84, s52_87, s52_88, s52_89, s52_90, s52_93, s52_96, s52_100, s52_101, s52_102, s52_105, s52_106, s52_107, s52_111, s52_114, s52_115, s52_116, s52_119, s52_122, s52_123, K_v, K_0, acI, acA, acJ, acX, List.map_cons, List.map_nil, List.sum_cons, List.sum_nil, true_and, and_true, posT, b2_0, b2_1, bft, true_or, or_true, Nat.zero_le, Nat.reduceAdd, Nat.reduceLeDiff, hI_uI, hL_uI, hR_uI, nx_uI, sl_uI, hI_uL, hL_uL, hR_uL, nx_uL, sl_uL, hI_uR, hL_uR, hR_uR, nx_uR, sl_uR, st_eq, if_true, if_false, eq_self, Nat.reduceEqDiff, Nat.reduceMul, reduceIte, kdT, ixT, w_cl, w_ti, w_s1, w_a, w_m12, w_m8, w_m3, w_m4, at_f, hR_at, hC2.x0, hC2.x2, hC2.x4, hC2.x7, hC2.x8, hC2.x9, hC2.x11, hC2.f0, hC2.f1, hC2.f2, hC2.p0, hC2.p1, hC2.p2, hC2.p3, hC2.l1, hC2.l2, hC2.l3, hC2.l4, hC2.d0, hC2.d1, hC2.d2, hC2.g1, hC2.g2, hC2.g3, hC2.g4, hC2.k1, hC2.k2, hC2.k3, hC2.k4, r32, hnum', tk4, r6, k10, c_comparison, epk, a2, hkG, kd_RD, ln_RD, kd_NUM, ln_NUM]
        · rw [if_neg q4]
          have tk4 := t4.2 q4
          refine ⟨_, s, H2, fun Q => ?_⟩
          rw [s52_79]
          simp (disch := first | omega | assumption | decide | (apply bT_; decide)) only [s52_0, s52_1, s52_4, s52_7, s52_10, s52_11, s52_14, s52_15, s52_16, s52_17, s52_20, s52_23, s52_24, s52_25, s52_26, s52_29, s52_30, s52_33, s52_34, s52_37, s52_38, s52_39, s52_40, s52_43, s52_44, s52_45, s52_46, s52_46i, s52_47, s52_50, s52_51, s52_52, s52_55, s52_56, s52_59, s52_62, s52_63, s52_64, s52_67, s52_68, s52_71, s52_74, s52_77, s52_78, s52_80, s52_83, s52_84, s52_87, s52_88, s52_89, s52_90, s52_93, s52_96, s52_99, s52_100, s52_102, s52_105, s52_106, s52_107, s52_110, s52_111, s52_114, s52_115, s52_116, s52_119, s52_122, s52_123, K_v, K_0, acI, acA, acJ, acX, List.map_cons, List.map_nil, List.sum_cons, List.sum_nil, true_and, and_true, posT, b2_0, b2_1, bft, true_or, or_true, Nat.zero_le, Nat.reduceAdd, Nat.reduceLeDiff, hI_uI, hL_uI, hR_uI, nx_uI, sl_uI, hI_uL, hL_uL, hR_uL, nx_uL, sl_uL, hI_uR, hL_uR, hR_uR, nx_uR, sl_uR, st_eq, if_true, if_false, eq_self, Nat.reduceEqDiff, Nat.reduceMul, reduceIte, kdT, ixT, w_cl, w_ti, w_s1, w_a, w_m12, w_m8, w_m3, w_m4, at_f, hR_at, hC2.x0, hC2.x2, hC2.x4, hC2.x7, hC2.x8, hC2.x9, hC2.x11, hC2.f0, hC2.f1, hC2.f2, hC2.p0, hC2.p1, hC2.p2, hC2.p3, hC2.l1, hC2.l2, hC2.l3, hC2.l4, hC2.d0, hC2.d1, hC2.d2, hC2.g1, hC2.g2, hC2.g3, hC2.g4, hC2.k1, hC2.k2, hC2.k3, hC2.k4, r32, tk4, kd_RD, ln_RD, kd_NUM, ln_NUM]
      · rw [if_neg q3]
        have tk2 := t2.2 (fun z => q3 (Or.inl z))
        have tk3 := t3.2 (fun z => q3 (Or.inr z))
        refine ⟨_, s, H1, fun Q => ?_⟩
        simp (disch := first | omega | assumption | decide | (apply bT_; decide)) only [s52_0, s52_1, s52_4, s52_7, s52_11, s52_14, s52_15, s52_16, s52_17, s52_20, s52_23, s52_24, s52_25, s52_26, s52_29, s52_30, s52_33, s52_34, s52_37, s52_38, s52_39, s52_40, s52_44, s52_45, s52_46, s52_46i, s52_47, s52_50, s52_51, s52_52, s52_55, s52_56, s52_59, s52_62, s52_63, s52_64, s52_67, s52_68, s52_71, s52_74, s52_77, s52_78, s52_80, s52_83, s52_84, s52_87, s52_88, s52_89, s52_90, s52_93, s52_96, s52_99, s52_100, s52_101, s52_102, s52_105, s52_106, s52_107, s52_110, s52_111, s52_114, s52_115, s52_116, s52_119, s52_122, s52_123, K_v, K_0, acI, acA, acJ, acX, List.map_cons, List.map_nil, List.sum_cons, List.sum_nil, true_and, and_true, posT, b2_0, b2_1, bft, true_or, or_true, Nat.zero_le, Nat.reduceAdd, Nat.reduceLeDiff, hI_uI, hL_uI, hR_uI, nx_uI, sl_uI, hI_uL, hL_uL, hR_uL, nx_uL, sl_uL, hI_uR, hL_uR, hR_uR, nx_uR, sl_uR, st_eq, if_true, if_false, eq_self, Nat.reduceEqDiff, Nat.reduceMul, reduceIte, kdT, ixT, w_cl, w_ti, w_s1, w_a, w_m12, w_m8, w_m3, w_m4, at_f, hR_at, hCx.x0, hCx.x2, hCx.x4, hCx.x7, hCx.x8, hCx.x9, hCx.x11, hCx.f0, hCx.f1, hCx.f2, hCx.p0, hCx.p1, hCx.p2, hCx.p3, hCx.l1, hCx.l2, hCx.l3, hCx.l4, hCx.d0, hCx.d1, hCx.d2, hCx.g1, hCx.g2, hCx.g3, hCx.g4, hCx.k1, hCx.k2, hCx.k3, hCx.k4, tk, r3, htk, hwh, hwn, t1, hb, tk2, tk3, kd_RD, ln_RD, kd_TK, ln_TK]
theorem c_loopAnd {D : Int32} {DD : Nat} {sub : Nat → PR_} (hg : GC_ cG cW cN cP cT) (hC : CS_ h0) (hT : TKF_ B N f h0) (hz : 0 < sz ∧ sz ≤ 10) (hd : 2 ≤ d) (hok : ∀ k, k ≤ f → PO_ f k DD (sub k)) (hsub : ∀ (k : Nat) (s : List Int32) (x : AH), RS_ h0 cG cP cT sz f pr 1 k s x → RRV_ (fun Q => V_ xs (d - 1) 51 0 [vA (some 29884421), vI D, vX 0] [] x Q) h0 cG cP cT sz f pr s (sub k)) : ∀ (m i : Nat) (e : Ex_) (k : Nat) (x : AH), i + m = 800 → RS_ h0 cG cP cT sz f pr 1 k (s ++ e.1) x → RRV_ (fun Q => V_ xs d 50 12 [vA (some 29884421), vI D, vI (Int32.ofNat i)] [] x Q) h0 cG cP cT sz f pr s (plp_ (stk_ B N) 16 andE_ sub m e k) := by
  have f8 := hT.2.2.1
  have hkG : kd_ cG = 1 := by rcases hg with ⟨rfl, rfl, rfl, rfl, rfl⟩ | ⟨rfl, rfl, rfl, rfl, rfl⟩ <;> decide
  have k10 : ¬ ((1 : Int32) = 0) := by decide
  intro m
  induction m with
  | zero =>
    intro i e k x hi H
    refine ⟨x, H, fun Q => ?_⟩
    have e8 : i = 800 := by omega
    have nl : ¬ (Int32.ofNat 800 < 800) := by decide
    dsimp only
    rw [e8, s50_12]
    simp (disch := first | omega | assumption | decide | (apply bT_; decide)) only [s50_0, s50_1, s50_2, s50_5, s50_8, s50_9, s50_10, s50_11, s50_13, s50_16, s50_20, s50_23, s50_26, s50_29, s50_30, s50_31, s50_34, s50_37, s50_38, s50_39, s50_40, s50_43, s50_44, s50_47, s50_50, s50_53, s50_54, K_v, K_0, acI, acA, acJ, acX, List.map_cons, List.map_nil, List.sum_cons, List.sum_nil, true_and, and_true, posT, b2_0, b2_1, bft, true_or, or_true, Nat.zero_le, Nat.reduceAdd, Nat.reduceLeDiff, hI_uI, hL_uI, hR_uI, nx_uI, sl_uI, hI_uL, hL_uL, hR_uL, nx_uL, sl_uL, hI_uR, hL_uR, hR_uR, nx_uR, sl_uR, st_eq, if_true, if_false, eq_self, Nat.reduceEqDiff, Nat.reduceMul, reduceIte, kdT, ixT, w_cl, w_ti, w_s1, w_a, w_m12, w_m8, w_m3, w_m4, nl]
  | succ m ih =>
    intro i e k x hi H
    have l8 : Int32.ofNat i < 800 := (w_lt (b := 800) (by omega) (by omega)).mpr (by omega)
    have tg := c_take (xs := xs) (d := d - 1) (σ := 16) (by decide) (by decide) hg hC hT H
    rw [show tref_ (cl_ 16) = 1835040 from by decide] at tg
    show RRV_ _ h0 cG cP cT sz f pr s (if stk_ B N k = 16 then (match sub (k + 1) with | .inl x => .inl x | .inr (e2, k2) => plp_ (stk_ B N) 16 andE_ sub m (andE_ e e2) k2) else .inr (e, k))
    by_cases q : stk_ B N k = 16
    · rw [if_pos q]
      obtain ⟨hkf, tk⟩ := tg.1 q
      have H1 := H.at hg hkf
      have hs := hsub (k + 1) _ _ H1
      have ho := hok (k + 1) hkf
      cases hr : sub (k + 1) with
      | inl y =>
        obtain ⟨c, k1⟩ := y
        rw [hr] at hs
        obtain ⟨x', s', a1, a2⟩ := hs
        dsimp only at a2
        refine ⟨x', s', a1, fun Q => ?_⟩
        dsimp only
        rw [s50_12]
        simp (disch := first | omega | assumption | decide | (apply bT_; decide)) only [s50_0, s50_1, s50_2, s50_5, s50_8, s50_9, s50_10, s50_11, s50_13, s50_16, s50_19, s50_20, s50_23, s50_26, s50_29, s50_30, s50_31, s50_34, s50_37, s50_38, s50_40, s50_43, s50_44, s50_47, s50_50, s50_54, K_v, K_0, acI, acA, acJ, acX, List.map_cons, List.map_nil, List.sum_cons, List.sum_nil, true_and, and_true, posT, b2_0, b2_1, bft, true_or, or_true, Nat.zero_le, Nat.reduceAdd, Nat.reduceLeDiff, hI_uI, hL_uI, hR_uI, nx_uI, sl_uI, hI_uL, hL_uL, hR_uL, nx_uL, sl_uL, hI_uR, hL_uR, hR_uR, nx_uR, sl_uR, st_eq, if_true, if_false, eq_self, Nat.reduceEqDiff, Nat.reduceMul, reduceIte, kdT, ixT, w_cl, w_ti, w_s1, w_a, w_m12, w_m8, w_m3, w_m4, at_f, hR_at, l8, tk, a2, k10, kd_RD, ln_RD]
      | inr y =>
        obtain ⟨e2, k2⟩ := y
        rw [hr] at hs ho
        obtain ⟨x', a1, a2⟩ := hs
        dsimp only at a2
        obtain ⟨b1, b2, b3, -⟩ := ho
        obtain ⟨y, c1, c2⟩ := c_addStep (xs := xs) (d := d - 1) (v := 1) hg hC hz f8 a1 (by
          have := H.2.2.2.2.2.2.2.2.1
          rw [List.length_append]
          omega)
        have r6 := a1.2.2.2.2.2.1
        have esp : s ++ e.1 ++ e2.1 ++ [1] = s ++ (andE_ e e2).1 := by
          show _ = s ++ (e.1 ++ e2.1 ++ [1])
          rw [List.append_assoc, List.append_assoc, List.append_assoc]
        rw [esp] at c1
        refine RRV_.tr (fun Q => ?_) (ih (i + 1) (andE_ e e2) k2 y (by omega) c1)
        rw [s50_12]
        simp (disch := first | omega | assumption | decide | (apply bT_; decide)) only [s50_0, s50_1, s50_2, s50_5, s50_8, s50_9, s50_10, s50_11, s50_13, s50_16, s50_19, s50_20, s50_23, s50_26, s50_29, s50_30, s50_31, s50_34, s50_38, s50_39, s50_40, s50_43, s50_44, s50_47, s50_50, s50_54, K_v, K_0, acI, acA, acJ, acX, List.map_cons, List.map_nil, List.sum_cons, List.sum_nil, true_and, and_true, posT, b2_0, b2_1, bft, true_or, or_true, Nat.zero_le, Nat.reduceAdd, Nat.reduceLeDiff, hI_uI, hL_uI, hR_uI, nx_uI, sl_uI, hI_uL, hL_uL, hR_uL, nx_uL, sl_uL, hI_uR, hL_uR, hR_uR, nx_uR, sl_uR, st_eq, if_true, if_false, eq_self, Nat.reduceEqDiff, Nat.reduceMul, reduceIte, kdT, ixT, w_cl, w_ti, w_s1, w_a, w_m12, w_m8, w_m3, w_m4, at_f, hR_at, l8, tk, a2, k10, r6, c2, hkG, kd_RD, ln_RD]
    · rw [if_neg q]
      have tk := tg.2 q
      refine ⟨x, H, fun Q => ?_⟩
      dsimp only
      rw [s50_12]
      simp (disch := first | omega | assumption | decide | (apply bT_; decide)) only [s50_0, s50_1, s50_2, s50_5, s50_8, s50_9, s50_10, s50_11, s50_13, s50_16, s50_19, s50_20, s50_23, s50_26, s50_30, s50_31, s50_34, s50_37, s50_38, s50_39, s50_40, s50_43, s50_44, s50_47, s50_50, s50_53, s50_54, K_v, K_0, acI, acA, acJ, acX, List.map_cons, List.map_nil, List.sum_cons, List.sum_nil, true_and, and_true, posT, b2_0, b2_1, bft, true_or, or_true, Nat.zero_le, Nat.reduceAdd, Nat.reduceLeDiff, hI_uI, hL_uI, hR_uI, nx_uI, sl_uI, hI_uL, hL_uL, hR_uL, nx_uL, sl_uL, hI_uR, hL_uR, hR_uR, nx_uR, sl_uR, st_eq, if_true, if_false, eq_self, Nat.reduceEqDiff, Nat.reduceMul, reduceIte, kdT, ixT, w_cl, w_ti, w_s1, w_a, w_m12, w_m8, w_m3, w_m4, l8, tk, kd_RD, ln_RD]
theorem c_readAllOf {D : Int32} {DD : Nat} {sub : Nat → PR_} (hg : GC_ cG cW cN cP cT) (hC : CS_ h0) (hT : TKF_ B N f h0) (hz : 0 < sz ∧ sz ≤ 10) (hd : 2 ≤ d) (hok : ∀ k, k ≤ f → PO_ f k DD (sub k)) (hsub : ∀ (k : Nat) (s : List Int32) (x : AH), RS_ h0 cG cP cT sz f pr 1 k s x → RRV_ (fun Q => V_ xs (d - 1) 51 0 [vA (some 29884421), vI D, vX 0] [] x Q) h0 cG cP cT sz f pr s (sub k)) (H : RS_ h0 cG cP cT sz f pr 1 k s x) : RRV_ (fun Q => V_ xs d 50 0 [vA (some 29884421), vI D, vX 0] [] x Q) h0 cG cP cT sz f pr s (pst_ (stk_ B N) 16 andE_ sub k) := by
  have k10 : ¬ ((1 : Int32) = 0) := by decide
  have hs := hsub k s x H
  unfold pst_
  cases hr : sub k with
  | inl y =>
    obtain ⟨c, k1⟩ := y
    rw [hr] at hs
    obtain ⟨x', s', a1, a2⟩ := hs
    dsimp only at a2
    refine ⟨x', s', a1, fun Q => ?_⟩
    simp (disch := first | omega | assumption | decide | (apply bT_; decide)) only [s50_0, s50_1, s50_2, s50_5, s50_8, s50_9, s50_11, s50_12, s50_13, s50_16, s50_19, s50_20, s50_23, s50_26, s50_29, s50_30, s50_31, s50_34, s50_37, s50_38, s50_39, s50_40, s50_43, s50_44, s50_47, s50_50, s50_53, s50_54, K_v, K_0, acI, acA, acJ, acX, List.map_cons, List.map_nil, List.sum_cons, List.sum_nil, true_and, and_true, posT, b2_0, b2_1, bft, true_or, or_true, Nat.zero_le, Nat.reduceAdd, Nat.reduceLeDiff, hI_uI, hL_uI, hR_uI, nx_uI, sl_uI, hI_uL, hL_uL, hR_uL, nx_uL, sl_uL, hI_uR, hL_uR, hR_uR, nx_uR, sl_uR, st_eq, if_true, if_false, eq_self, Nat.reduceEqDiff, Nat.reduceMul, reduceIte, kdT, ixT, w_cl, w_ti, w_s1, w_a, w_m12, w_m8, w_m3, w_m4, at_f, hR_at, a2, kd_RD, ln_RD]
  | inr y =>
    obtain ⟨e, k1⟩ := y
    rw [hr] at hs
    obtain ⟨x', a1, a2⟩ := hs
    dsimp only at a2
    refine RRV_.tr (fun Q => ?_) (c_loopAnd (xs := xs) hg hC hT hz hd hok hsub 800 0 e k1 x' (by omega) a1)
    simp (disch := first | omega | assumption | decide | (apply bT_; decide)) only [s50_0, s50_1, s50_2, s50_5, s50_9, s50_10, s50_11, s50_13, s50_16, s50_19, s50_20, s50_23, s50_26, s50_29, s50_30, s50_31, s50_34, s50_37, s50_38, s50_39, s50_40, s50_43, s50_44, s50_47, s50_50, s50_53, s50_54, K_v, K_0, acI, acA, acJ, acX, List.map_cons, List.map_nil, List.sum_cons, List.sum_nil, true_and, and_true, posT, b2_0, b2_1, bft, true_or, or_true, Nat.zero_le, Nat.reduceAdd, Nat.reduceLeDiff, hI_uI, hL_uI, hR_uI, nx_uI, sl_uI, hI_uL, hL_uL, hR_uL, nx_uL, sl_uL, hI_uR, hL_uR, hR_uR, nx_uR, sl_uR, st_eq, if_true, if_false, eq_self, Nat.reduceEqDiff, Nat.reduceMul, reduceIte, kdT, ixT, w_cl, w_ti, w_s1, w_a, w_m12, w_m8, w_m3, w_m4, at_f, hR_at, a2, k10, kd_RD, ln_RD]
    exact Iff.rfl
theorem c_loopOr {D : Int32} {DD : Nat} {sub : Nat → PR_} (hg : GC_ cG cW cN cP cT) (hC : CS_ h0) (hT : TKF_ B N f h0) (hz : 0 < sz ∧ sz ≤ 10) (hd : 2 ≤ d) (hok : ∀ k, k ≤ f → PO_ f k DD (sub k)) (hsub : ∀ (k : Nat) (s : List Int32) (x : AH), RS_ h0 cG cP cT sz f pr 1 k s x → RRV_ (fun Q => V_ xs (d - 1) 50 0 [vA (some 29884421), vI D, vX 0] [] x Q) h0 cG cP cT sz f pr s (sub k)) : ∀ (m i : Nat) (e : Ex_) (k : Nat) (x : AH), i + m = 800 → RS_ h0 cG cP cT sz f pr 1 k (s ++ e.1) x → RRV_ (fun Q => V_ xs d 49 12 [vA (some 29884421), vI D, vI (Int32.ofNat i)] [] x Q) h0 cG cP cT sz f pr s (plp_ (stk_ B N) 15 orE_ sub m e k) := by
  have f8 := hT.2.2.1
  have hkG : kd_ cG = 1 := by rcases hg with ⟨rfl, rfl, rfl, rfl, rfl⟩ | ⟨rfl, rfl, rfl, rfl, rfl⟩ <;> decide
  have k10 : ¬ ((1 : Int32) = 0) := by decide
  intro m
  induction m with
  | zero =>
    intro i e k x hi H
    refine ⟨x, H, fun Q => ?_⟩
    have e8 : i = 800 := by omega
    have nl : ¬ (Int32.ofNat 800 < 800) := by decide
    dsimp only
    rw [e8, s49_12]
    simp (disch := first | omega | assumption | decide | (apply bT_; decide)) only [s49_0, s49_1, s49_2, s49_5, s49_8, s49_9, s49_10, s49_11, s49_13, s49_16, s49_20, s49_23, s49_26, s49_29, s49_30, s49_31, s49_34, s49_37, s49_38, s49_39, s49_40, s49_43, s49_44, s49_47, s49_50, s49_53, s49_54, K_v, K_0, acI, acA, acJ, acX, List.map_cons, List.map_nil, List.sum_cons, List.sum_nil, true_and, and_true, posT, b2_0, b2_1, bft, true_or, or_true, Nat.zero_le, Nat.reduceAdd, Nat.reduceLeDiff, hI_uI, hL_uI, hR_uI, nx_uI, sl_uI, hI_uL, hL_uL, hR_uL, nx_uL, sl_uL, hI_uR, hL_uR, hR_uR, nx_uR, sl_uR, st_eq, if_true, if_false, eq_self, Nat.reduceEqDiff, Nat.reduceMul, reduceIte, kdT, ixT, w_cl, w_ti, w_s1, w_a, w_m12, w_m8, w_m3, w_m4, nl]
  | succ m ih =>
    intro i e k x hi H
    have l8 : Int32.ofNat i < 800 := (w_lt (b := 800) (by omega) (by omega)).mpr (by omega)
    have tg := c_take (xs := xs) (d := d - 1) (σ := 15) (by decide) (by decide) hg hC hT H
    rw [show tref_ (cl_ 15) = 1572896 from by decide] at tg
    show RRV_ _ h0 cG cP cT sz f pr s (if stk_ B N k = 15 then (match sub (k + 1) with | .inl x => .inl x | .inr (e2, k2) => plp_ (stk_ B N) 15 orE_ sub m (orE_ e e2) k2) else .inr (e, k))
    by_cases q : stk_ B N k = 15
    · rw [if_pos q]
      obtain ⟨hkf, tk⟩ := tg.1 q
      have H1 := H.at hg hkf
      have hs := hsub (k + 1) _ _ H1
      have ho := hok (k + 1) hkf
      cases hr : sub (k + 1) with
      | inl y =>
        obtain ⟨c, k1⟩ := y
        rw [hr] at hs
        obtain ⟨x', s', a1, a2⟩ := hs
        dsimp only at a2
        refine ⟨x', s', a1, fun Q => ?_⟩
        dsimp only
        rw [s49_12]
        simp (disch := first | omega | assumption | decide | (apply bT_; decide)) only [s49_0, s49_1, s49_2, s49_5, s49_8, s49_9, s49_10, s49_11, s49_13, s49_16, s49_19, s49_20, s49_23, s49_26, s49_29, s49_30, s49_31, s49_34, s49_37, s49_38, s49_40, s49_43, s49_44, s49_47, s49_50, s49_54, K_v, K_0, acI, acA, acJ, acX, List.map_cons, List.map_nil, List.sum_cons, List.sum_nil, true_and, and_true, posT, b2_0, b2_1, bft, true_or, or_true, Nat.zero_le, Nat.reduceAdd, Nat.reduceLeDiff, hI_uI, hL_uI, hR_uI, nx_uI, sl_uI, hI_uL, hL_uL, hR_uL, nx_uL, sl_uL, hI_uR, hL_uR, hR_uR, nx_uR, sl_uR, st_eq, if_true, if_false, eq_self, Nat.reduceEqDiff, Nat.reduceMul, reduceIte, kdT, ixT, w_cl, w_ti, w_s1, w_a, w_m12, w_m8, w_m3, w_m4, at_f, hR_at, l8, tk, a2, k10, kd_RD, ln_RD]
      | inr y =>
        obtain ⟨e2, k2⟩ := y
        rw [hr] at hs ho
        obtain ⟨x', a1, a2⟩ := hs
        dsimp only at a2
        obtain ⟨b1, b2, b3, -⟩ := ho
        obtain ⟨y, c1, c2⟩ := c_addStep (xs := xs) (d := d - 1) (v := 2) hg hC hz f8 a1 (by
          have := H.2.2.2.2.2.2.2.2.1
          rw [List.length_append]
          omega)
        have r6 := a1.2.2.2.2.2.1
        have esp : s ++ e.1 ++ e2.1 ++ [2] = s ++ (orE_ e e2).1 := by
          show _ = s ++ (e.1 ++ e2.1 ++ [2])
          rw [List.append_assoc, List.append_assoc, List.append_assoc]
        rw [esp] at c1
        refine RRV_.tr (fun Q => ?_) (ih (i + 1) (orE_ e e2) k2 y (by omega) c1)
        rw [s49_12]
        simp (disch := first | omega | assumption | decide | (apply bT_; decide)) only [s49_0, s49_1, s49_2, s49_5, s49_8, s49_9, s49_10, s49_11, s49_13, s49_16, s49_19, s49_20, s49_23, s49_26, s49_29, s49_30, s49_31, s49_34, s49_38, s49_39, s49_40, s49_43, s49_44, s49_47, s49_50, s49_54, K_v, K_0, acI, acA, acJ, acX, List.map_cons, List.map_nil, List.sum_cons, List.sum_nil, true_and, and_true, posT, b2_0, b2_1, bft, true_or, or_true, Nat.zero_le, Nat.reduceAdd, Nat.reduceLeDiff, hI_uI, hL_uI, hR_uI, nx_uI, sl_uI, hI_uL, hL_uL, hR_uL, nx_uL, sl_uL, hI_uR, hL_uR, hR_uR, nx_uR, sl_uR, st_eq, if_true, if_false, eq_self, Nat.reduceEqDiff, Nat.reduceMul, reduceIte, kdT, ixT, w_cl, w_ti, w_s1, w_a, w_m12, w_m8, w_m3, w_m4, at_f, hR_at, l8, tk, a2, k10, r6, c2, hkG, kd_RD, ln_RD]
    · rw [if_neg q]
      have tk := tg.2 q
      refine ⟨x, H, fun Q => ?_⟩
      dsimp only
      rw [s49_12]
      simp (disch := first | omega | assumption | decide | (apply bT_; decide)) only [s49_0, s49_1, s49_2, s49_5, s49_8, s49_9, s49_10, s49_11, s49_13, s49_16, s49_19, s49_20, s49_23, s49_26, s49_30, s49_31, s49_34, s49_37, s49_38, s49_39, s49_40, s49_43, s49_44, s49_47, s49_50, s49_53, s49_54, K_v, K_0, acI, acA, acJ, acX, List.map_cons, List.map_nil, List.sum_cons, List.sum_nil, true_and, and_true, posT, b2_0, b2_1, bft, true_or, or_true, Nat.zero_le, Nat.reduceAdd, Nat.reduceLeDiff, hI_uI, hL_uI, hR_uI, nx_uI, sl_uI, hI_uL, hL_uL, hR_uL, nx_uL, sl_uL, hI_uR, hL_uR, hR_uR, nx_uR, sl_uR, st_eq, if_true, if_false, eq_self, Nat.reduceEqDiff, Nat.reduceMul, reduceIte, kdT, ixT, w_cl, w_ti, w_s1, w_a, w_m12, w_m8, w_m3, w_m4, l8, tk, kd_RD, ln_RD]
theorem c_readAnyOf {D : Int32} {DD : Nat} {sub : Nat → PR_} (hg : GC_ cG cW cN cP cT) (hC : CS_ h0) (hT : TKF_ B N f h0) (hz : 0 < sz ∧ sz ≤ 10) (hd : 2 ≤ d) (hok : ∀ k, k ≤ f → PO_ f k DD (sub k)) (hsub : ∀ (k : Nat) (s : List Int32) (x : AH), RS_ h0 cG cP cT sz f pr 1 k s x → RRV_ (fun Q => V_ xs (d - 1) 50 0 [vA (some 29884421), vI D, vX 0] [] x Q) h0 cG cP cT sz f pr s (sub k)) (H : RS_ h0 cG cP cT sz f pr 1 k s x) : RRV_ (fun Q => V_ xs d 49 0 [vA (some 29884421), vI D, vX 0] [] x Q) h0 cG cP cT sz f pr s (pst_ (stk_ B N) 15 orE_ sub k) := by
  have k10 : ¬ ((1 : Int32) = 0) := by decide
  have hs := hsub k s x H
  unfold pst_
  cases hr : sub k with
  | inl y =>
    obtain ⟨c, k1⟩ := y
    rw [hr] at hs
    obtain ⟨x', s', a1, a2⟩ := hs
    dsimp only at a2
    refine ⟨x', s', a1, fun Q => ?_⟩
    simp (disch := first | omega | assumption | decide | (apply bT_; decide)) only [s49_0, s49_1, s49_2, s49_5, s49_8, s49_9, s49_11, s49_12, s49_13, s49_16, s49_19, s49_20, s49_23, s49_26, s49_29, s49_30, s49_31, s49_34, s49_37, s49_38, s49_39, s49_40, s49_43, s49_44, s49_47, s49_50, s49_53, s49_54, K_v, K_0, acI, acA, acJ, acX, List.map_cons, List.map_nil, List.sum_cons, List.sum_nil, true_and, and_true, posT, b2_0, b2_1, bft, true_or, or_true, Nat.zero_le, Nat.reduceAdd, Nat.reduceLeDiff, hI_uI, hL_uI, hR_uI, nx_uI, sl_uI, hI_uL, hL_uL, hR_uL, nx_uL, sl_uL, hI_uR, hL_uR, hR_uR, nx_uR, sl_uR, st_eq, if_true, if_false, eq_self, Nat.reduceEqDiff, Nat.reduceMul, reduceIte, kdT, ixT, w_cl, w_ti, w_s1, w_a, w_m12, w_m8, w_m3, w_m4, at_f, hR_at, a2, kd_RD, ln_RD]
  | inr y =>
    obtain ⟨e, k1⟩ := y
    rw [hr] at hs
    obtain ⟨x', a1, a2⟩ := hs
    dsimp only at a2
    refine RRV_.tr (fun Q => ?_) (c_loopOr (xs := xs) hg hC hT hz hd hok hsub 800 0 e k1 x' (by omega) a1)
    simp (disch := first | omega | assumption | decide | (apply bT_; decide)) only [s49_0, s49_1, s49_2, s49_5, s49_9, s49_10, s49_11, s49_13, s49_16, s49_19, s49_20, s49_23, s49_26, s49_29, s49_30, s49_31, s49_34, s49_37, s49_38, s49_39, s49_40, s49_43, s49_44, s49_47, s49_50, s49_53, s49_54, K_v, K_0, acI, acA, acJ, acX, List.map_cons, List.map_nil, List.sum_cons, List.sum_nil, true_and, and_true, posT, b2_0, b2_1, bft, true_or, or_true, Nat.zero_le, Nat.reduceAdd, Nat.reduceLeDiff, hI_uI, hL_uI, hR_uI, nx_uI, sl_uI, hI_uL, hL_uL, hR_uL, nx_uL, sl_uL, hI_uR, hL_uR, hR_uR, nx_uR, sl_uR, st_eq, if_true, if_false, eq_self, Nat.reduceEqDiff, Nat.reduceMul, reduceIte, kdT, ixT, w_cl, w_ti, w_s1, w_a, w_m12, w_m8, w_m3, w_m4, at_f, hR_at, a2, k10, kd_RD, ln_RD]
    exact Iff.rfl
theorem c_readPart (hg : GC_ cG cW cN cP cT) (hC : CS_ h0) (hT : TKF_ B N f h0) (hz : 0 < sz ∧ sz ≤ 10) : ∀ (n d k : Nat) (s : List Int32) (x : AH), n ≤ 8 → 3 * n + 2 ≤ d → RS_ h0 cG cP cT sz f pr 1 k s x → RRV_ (fun Q => V_ xs d 51 0 [vA (some 29884421), vI (Int32.ofNat (8 - n)), vX 0] [] x Q) h0 cG cP cT sz f pr s (pF_ (stk_ B N) (vlk_ B N) n k) := by
  have f8 := hT.2.2.1
  have hkG : kd_ cG = 1 := by rcases hg with ⟨rfl, rfl, rfl, rfl, rfl⟩ | ⟨rfl, rfl, rfl, rfl, rfl⟩ <;> decide
  have k10 : ¬ ((1 : Int32) = 0) := by decide
  have hb : kd_ 30197846 = 20 ∨ kd_ 30197846 = 21 ∨ kd_ 30197846 = 22 := Or.inr (Or.inr rfl)
  have okF := pF_ok (f := f) (tkf_0 hT) (vlk_nat (B := B) (N := N)) (fun k => stk_lt)
  have tb1 : tkb_ (some 2097184) = true := by decide
  have tb2 : tkb_ (some 3932192) = true := by decide
  -- neither not nor (
  have simple : ∀ (d k : Nat) (s : List Int32) (x : AH) (D : Int32), 2 ≤ d → RS_ h0 cG cP cT sz f pr 1 k s x → ¬ (stk_ B N k = 17 ∨ stk_ B N k = 4) → RRV_ (fun Q => V_ xs d 51 0 [vA (some 29884421), vI D, vX 0] [] x Q) h0 cG cP cT sz f pr s (psm_ (stk_ B N) (vlk_ B N) k) := by
    intro d k s x D hd H q
    have hCx := H.cs hC
    have htk := H.tok hT
    have r3 := H.2.2.1
    have hk4 := H.2.2.2.1
    have t1 := (tok_f (cl_ (stk_ B N k)) (cl_lt _ stk_lt)).2.2
    have n1 : ¬ (some (tref_ (cl_ (stk_ B N k))) = some 2097184) := fun z => q (Or.inl ((tok_is (σ := 17) (by decide) (by decide) stk_lt (by decide)).mp z))
    have n2 : ¬ (some (tref_ (cl_ (stk_ B N k))) = some 3932192) := fun z => q (Or.inr ((tok_is (σ := 4) (by decide) (by decide) stk_lt (by decide)).mp z))
    have hs := c_readSimple (xs := xs) (d := d - 1) hg hC hT hz (by omega) H
    cases hr : psm_ (stk_ B N) (vlk_ B N) k with
    | inl y =>
      obtain ⟨c, k1⟩ := y
      rw [hr] at hs
      obtain ⟨x', s', a1, a2⟩ := hs
      dsimp only at a2
      refine ⟨x', s', a1, fun Q => ?_⟩
      simp (disch := first | omega | assumption | decide | (apply bT_; decide)) only [s51_0, s51_1, s51_4, s51_5, s51_8, s51_9, s51_10, s51_11, s51_14, s51_17, s51_18, s51_21, s51_24, s51_25, s51_28, s51_30, s51_32, s51_35, s51_36, s51_37, s51_40, s51_41, s51_42, s51_43, s51_43i, s51_44, s51_47, s51_48, s51_49, s51_52, s51_53, s51_56, s51_59, s51_60, s51_61, s51_62, s51_63, s51_66, s51_69, s51_70, s51_73, s51_76, s51_79, s51_80, s51_83, s51_84, s51_85, s51_86, s51_87, s51_88, s51_89, s51_92, s51_95, s51_96, s51_97, s51_98, s51_101, s51_102, s51_105, s51_106, K_v, K_0, acI, acA, acJ, acX, List.map_cons, List.map_nil, List.sum_cons, List.sum_nil, true_and, and_true, posT, b2_0, b2_1, bft, true_or, or_true, Nat.zero_le, Nat.reduceAdd, Nat.reduceLeDiff, hI_uI, hL_uI, hR_uI, nx_uI, sl_uI, hI_uL, hL_uL, hR_uL, nx_uL, sl_uL, hI_uR, hL_uR, hR_uR, nx_uR, sl_uR, st_eq, if_true, if_false, eq_self, Nat.reduceEqDiff, Nat.reduceMul, reduceIte, kdT, ixT, w_cl, w_ti, w_s1, w_a, w_m12, w_m8, w_m3, w_m4, hCx.x0, hCx.x2, hCx.x4, hCx.x7, hCx.x8, hCx.x9, hCx.x11, hCx.f0, hCx.f1, hCx.f2, hCx.p0, hCx.p1, hCx.p2, hCx.p3, hCx.l1, hCx.l2, hCx.l3, hCx.l4, hCx.d0, hCx.d1, hCx.d2, hCx.g1, hCx.g2, hCx.g3, hCx.g4, hCx.k1, hCx.k2, hCx.k3, hCx.k4, r3, htk, hb, t1, tb1, tb2, if_neg n1, if_neg n2, a2, or_true, true_or, kd_RD, ln_RD, kd_TK, ln_TK]
    | inr y =>
      obtain ⟨e, k1⟩ := y
      rw [hr] at hs
      obtain ⟨x', a1, a2⟩ := hs
      dsimp only at a2
      refine ⟨x', a1, fun Q => ?_⟩
      simp (disch := first | omega | assumption | decide | (apply bT_; decide)) only [s51_0, s51_1, s51_4, s51_5, s51_8, s51_9, s51_10, s51_11, s51_14, s51_17, s51_18, s51_21, s51_24, s51_25, s51_28, s51_30, s51_32, s51_35, s51_36, s51_37, s51_40, s51_41, s51_42, s51_43, s51_43i, s51_44, s51_47, s51_48, s51_49, s51_52, s51_53, s51_56, s51_59, s51_60, s51_61, s51_62, s51_63, s51_66, s51_69, s51_70, s51_73, s51_76, s51_79, s51_80, s51_83, s51_84, s51_85, s51_86, s51_87, s51_88, s51_89, s51_92, s51_95, s51_96, s51_97, s51_98, s51_101, s51_102, s51_105, s51_106, K_v, K_0, acI, acA, acJ, acX, List.map_cons, List.map_nil, List.sum_cons, List.sum_nil, true_and, and_true, posT, b2_0, b2_1, bft, true_or, or_true, Nat.zero_le, Nat.reduceAdd, Nat.reduceLeDiff, hI_uI, hL_uI, hR_uI, nx_uI, sl_uI, hI_uL, hL_uL, hR_uL, nx_uL, sl_uL, hI_uR, hL_uR, hR_uR, nx_uR, sl_uR, st_eq, if_true, if_false, eq_self, Nat.reduceEqDiff, Nat.reduceMul, reduceIte, kdT, ixT, w_cl, w_ti, w_s1, w_a, w_m12, w_m8, w_m3, w_m4, hCx.x0, hCx.x2, hCx.x4, hCx.x7, hCx.x8, hCx.x9, hCx.x11, hCx.f0, hCx.f1, hCx.f2, hCx.p0, hCx.p1, hCx.p2, hCx.p3, hCx.l1, hCx.l2, hCx.l3, hCx.l4, hCx.d0, hCx.d1, hCx.d2, hCx.g1, hCx.g2, hCx.g3, hCx.g4, hCx.k1, hCx.k2, hCx.k3, hCx.k4, r3, htk, hb, t1, tb1, tb2, if_neg n1, if_neg n2, a2, or_true, true_or, kd_RD, ln_RD, kd_TK, ln_TK]
  -- to the depth's test
  have way : ∀ (d k : Nat) (s : List Int32) (x : AH) (D : Int32), RS_ h0 cG cP cT sz f pr 1 k s x → (stk_ B N k = 17 ∨ stk_ B N k = 4) → ∀ Q, V_ xs d 51 0 [vA (some 29884421), vI D, vX 0] [] x Q ↔ V_ xs d 51 29 [vA (some 29884421), vI D, vA (some (tref_ (cl_ (stk_ B N k))))] [] x Q := by
    intro d k s x D H q Q
    have hCx := H.cs hC
    have htk := H.tok hT
    have r3 := H.2.2.1
    have hk4 := H.2.2.2.1
    have t1 := (tok_f (cl_ (stk_ B N k)) (cl_lt _ stk_lt)).2.2
    have i1 := tok_is (σ := 17) (s := stk_ B N k) (t := 2097184) (by decide) (by decide) stk_lt (by decide)
    have i2 := tok_is (σ := 4) (s := stk_ B N k) (t := 3932192) (by decide) (by decide) stk_lt (by decide)
    by_cases q1 : stk_ B N k = 17
    · have n1 := i1.mpr q1
      simp (disch := first | omega | assumption | decide | (apply bT_; decide)) only [s51_0, s51_1, s51_4, s51_5, s51_8, s51_9, s51_10, s51_11, s51_14, s51_18, s51_21, s51_24, s51_25, s51_28, s51_30, s51_32, s51_35, s51_36, s51_37, s51_40, s51_41, s51_42, s51_43, s51_43i, s51_44, s51_47, s51_48, s51_49, s51_52, s51_53, s51_56, s51_59, s51_60, s51_61, s51_62, s51_63, s51_66, s51_69, s51_70, s51_73, s51_76, s51_79, s51_80, s51_83, s51_84, s51_85, s51_86, s51_87, s51_88, s51_89, s51_92, s51_95, s51_96, s51_97, s51_98, s51_101, s51_102, s51_105, s51_106, K_v, K_0, acI, acA, acJ, acX, List.map_cons, List.map_nil, List.sum_cons, List.sum_nil, true_and, and_true, posT, b2_0, b2_1, bft, true_or, or_true, Nat.zero_le, Nat.reduceAdd, Nat.reduceLeDiff, hI_uI, hL_uI, hR_uI, nx_uI, sl_uI, hI_uL, hL_uL, hR_uL, nx_uL, sl_uL, hI_uR, hL_uR, hR_uR, nx_uR, sl_uR, st_eq, if_true, if_false, eq_self, Nat.reduceEqDiff, Nat.reduceMul, reduceIte, kdT, ixT, w_cl, w_ti, w_s1, w_a, w_m12, w_m8, w_m3, w_m4, hCx.x0, hCx.x2, hCx.x4, hCx.x7, hCx.x8, hCx.x9, hCx.x11, hCx.f0, hCx.f1, hCx.f2, hCx.p0, hCx.p1, hCx.p2, hCx.p3, hCx.l1, hCx.l2, hCx.l3, hCx.l4, hCx.d0, hCx.d1, hCx.d2, hCx.g1, hCx.g2, hCx.g3, hCx.g4, hCx.k1, hCx.k2, hCx.k3, hCx.k4, r3, htk, hb, t1, tb1, tb2, if_pos n1, kd_RD, ln_RD, kd_TK, ln_TK]
    · have n1 : ¬ _ := fun z => q1 (i1.mp z)
      have n2 := i2.mpr (by omega)
      simp (disch := first | omega | assumption | decide | (apply bT_; decide)) only [s51_0, s51_1, s51_4, s51_5, s51_8, s51_9, s51_10, s51_11, s51_14, s51_17, s51_18, s51_21, s51_25, s51_28, s51_30, s51_32, s51_35, s51_36, s51_37, s51_40, s51_41, s51_42, s51_43, s51_43i, s51_44, s51_47, s51_48, s51_49, s51_52, s51_53, s51_56, s51_59, s51_60, s51_61, s51_62, s51_63, s51_66, s51_69, s51_70, s51_73, s51_76, s51_79, s51_80, s51_83, s51_84, s51_85, s51_86, s51_87, s51_88, s51_89, s51_92, s51_95, s51_96, s51_97, s51_98, s51_101, s51_102, s51_105, s51_106, K_v, K_0, acI, acA, acJ, acX, List.map_cons, List.map_nil, List.sum_cons, List.sum_nil, true_and, and_true, posT, b2_0, b2_1, bft, true_or, or_true, Nat.zero_le, Nat.reduceAdd, Nat.reduceLeDiff, hI_uI, hL_uI, hR_uI, nx_uI, sl_uI, hI_uL, hL_uL, hR_uL, nx_uL, sl_uL, hI_uR, hL_uR, hR_uR, nx_uR, sl_uR, st_eq, if_true, if_false, eq_self, Nat.reduceEqDiff, Nat.reduceMul, reduceIte, kdT, ixT, w_cl, w_ti, w_s1, w_a, w_m12, w_m8, w_m3, w_m4, hCx.x0, hCx.x2, hCx.x4, hCx.x7, hCx.x8, hCx.x9, hCx.x11, hCx.f0, hCx.f1, hCx.f2, hCx.p0, hCx.p1, hCx.p2, hCx.p3, hCx.l1, hCx.l2, hCx.l3, hCx.l4, hCx.d0, hCx.d1, hCx.d2, hCx.g1, hCx.g2, hCx.g3, hCx.g4, hCx.k1, hCx.k2, hCx.k3, hCx.k4, r3, htk, hb, t1, tb1, tb2, if_neg n1, if_pos n2, kd_RD, ln_RD, kd_TK, ln_TK]
  intro n
  induction n with
  | zero =>
    intro d k s x hn hd H
    show RRV_ _ h0 cG cP cT sz f pr s (if stk_ B N k = 17 ∨ stk_ B N k = 4 then .inl (2, k) else psm_ (stk_ B N) (vlk_ B N) k)
    by_cases q : stk_ B N k = 17 ∨ stk_ B N k = 4
    · rw [if_pos q]
      refine ⟨_, s, H.fkd hg, fun Q => (way d k s x _ H q Q).trans ?_⟩
      have n8 : ¬ (Int32.ofNat (8 - 0) < 8) := by decide
      rw [s51_29]
      simp (disch := first | omega | assumption | decide | (apply bT_; decide)) only [s51_0, s51_1, s51_4, s51_5, s51_8, s51_9, s51_10, s51_11, s51_14, s51_17, s51_18, s51_21, s51_24, s51_25, s51_28, s51_30, s51_32, s51_35, s51_36, s51_37, s51_40, s51_41, s51_43, s51_43i, s51_44, s51_47, s51_48, s51_49, s51_52, s51_53, s51_56, s51_59, s51_60, s51_61, s51_62, s51_63, s51_66, s51_69, s51_70, s51_73, s51_76, s51_79, s51_80, s51_83, s51_84, s51_85, s51_86, s51_87, s51_88, s51_89, s51_92, s51_95, s51_96, s51_97, s51_98, s51_101, s51_102, s51_105, s51_106, K_v, K_0, acI, acA, acJ, acX, List.map_cons, List.map_nil, List.sum_cons, List.sum_nil, true_and, and_true, posT, b2_0, b2_1, bft, true_or, or_true, Nat.zero_le, Nat.reduceAdd, Nat.reduceLeDiff, hI_uI, hL_uI, hR_uI, nx_uI, sl_uI, hI_uL, hL_uL, hR_uL, nx_uL, sl_uL, hI_uR, hL_uR, hR_uR, nx_uR, sl_uR, st_eq, if_true, if_false, eq_self, Nat.reduceEqDiff, Nat.reduceMul, reduceIte, kdT, ixT, w_cl, w_ti, w_s1, w_a, w_m12, w_m8, w_m3, w_m4, n8, kd_RD, ln_RD]
      exact Iff.rfl
    · rw [if_neg q]; exact simple d k s x _ (by omega) H q
  | succ n ih =>
    intro d k s x hn hd H
    show RRV_ _ h0 cG cP cT sz f pr s (if stk_ B N k = 17 ∨ stk_ B N k = 4 then (if stk_ B N k = 4 then (match pst_ (stk_ B N) 15 orE_ (pst_ (stk_ B N) 16 andE_ (pF_ (stk_ B N) (vlk_ B N) n)) (k + 1) with | .inl x => .inl x | .inr (e, k1) => if stk_ B N k1 = 5 then .inr (e, k1 + 1) else .inl (1, k1)) else (match pF_ (stk_ B N) (vlk_ B N) n (k + 1) with | .inl x => .inl x | .inr (e, k1) => .inr (notE_ e, k1))) else psm_ (stk_ B N) (vlk_ B N) k)
    by_cases q : stk_ B N k = 17 ∨ stk_ B N k = 4
    · rw [if_pos q]
      have hkf : k < f := by
        rcases Nat.lt_or_ge k f with z | z
        · exact z
        · rw [tkf_0 hT k z] at q; exact absurd q (by decide)
      have H1 := H.at hg hkf
      have n8 : Int32.ofNat (8 - (n + 1)) < 8 := (w_lt (b := 8) (by omega) (by omega)).mpr (by omega)
      have ed : Int32.ofNat (8 - (n + 1)) + 1 = Int32.ofNat (8 - n) := by rw [w_s1, show 8 - (n + 1) + 1 = 8 - n by omega]
      have r3 := H.2.2.1
      have t1 := (tok_f (cl_ (stk_ B N k)) (cl_lt _ stk_lt)).2.2
      have i2 := tok_is (σ := 4) (s := stk_ B N k) (t := 3932192) (by decide) (by decide) stk_lt (by decide)
      refine RRV_.tr (way d k s x _ H q) ?_
      by_cases q2 : stk_ B N k = 4
      · rw [if_pos q2]
        have n2 := i2.mpr q2
        have hE := c_readAnyOf (xs := xs) (d := d - 1) (D := Int32.ofNat (8 - n)) (sub := pst_ (stk_ B N) 16 andE_ (pF_ (stk_ B N) (vlk_ B N) n)) (DD := 1 + 2 * n + 1) hg hC hT hz (by omega) (fun k hk => pst_ok (by decide) (tkf_0 hT) mk_and (okF n) hk) (fun k s x H => c_readAllOf (DD := 1 + 2 * n) hg hC hT hz (by omega) (okF n) (fun k s x H => ih (d - 1 - 1 - 1) k s x (by omega) (by omega) H) H) H1
        have okE := pst_ok (k := k + 1) (t := 15) (by decide) (tkf_0 hT) mk_or (fun k hk => pst_ok (t := 16) (by decide) (tkf_0 hT) mk_and (okF n) hk) hkf
        cases hr : pst_ (stk_ B N) 15 orE_ (pst_ (stk_ B N) 16 andE_ (pF_ (stk_ B N) (vlk_ B N) n)) (k + 1) with
        | inl y =>
          obtain ⟨c, k1⟩ := y
          rw [hr] at hE
          obtain ⟨x', s', a1, a2⟩ := hE
          dsimp only at a2
          refine ⟨x', s', a1, fun Q => ?_⟩
          rw [s51_29]
          simp (disch := first | omega | assumption | decide | (apply bT_; decide)) only [s51_0, s51_1, s51_4, s51_5, s51_8, s51_9, s51_10, s51_11, s51_14, s51_17, s51_18, s51_21, s51_24, s51_25, s51_28, s51_30, s51_32, s51_36, s51_37, s51_40, s51_41, s51_42, s51_43, s51_43i, s51_44, s51_47, s51_48, s51_49, s51_52, s51_53, s51_56, s51_59, s51_60, s51_61, s51_62, s51_63, s51_66, s51_70, s51_73, s51_76, s51_80, s51_83, s51_84, s51_86, s51_87, s51_88, s51_89, s51_92, s51_95, s51_96, s51_97, s51_98, s51_101, s51_102, s51_105, s51_106, K_v, K_0, acI, acA, acJ, acX, List.map_cons, List.map_nil, List.sum_cons, List.sum_nil, true_and, and_true, posT, b2_0, b2_1, bft, true_or, or_true, Nat.zero_le, Nat.reduceAdd, Nat.reduceLeDiff, hI_uI, hL_uI, hR_uI, nx_uI, sl_uI, hI_uL, hL_uL, hR_uL, nx_uL, sl_uL, hI_uR, hL_uR, hR_uR, nx_uR, sl_uR, st_eq, if_true, if_false, eq_self, Nat.reduceEqDiff, Nat.reduceMul, reduceIte, kdT, ixT, w_cl, w_ti, w_s1, w_a, w_m12, w_m8, w_m3, w_m4, at_f, hR_at, n8, r3, ed, t1, tb2, if_pos n2, a2, kd_RD, ln_RD]
        | inr y =>
          obtain ⟨e, k1⟩ := y
          rw [hr] at hE
          obtain ⟨x', a1, a2⟩ := hE
          dsimp only at a2
          have tg := c_take (xs := xs) (d := d - 1) (σ := 5) (by decide) (by decide) hg hC hT a1
          rw [show tref_ (cl_ 5) = 4194336 from by decide] at tg
          dsimp only
          by_cases q3 : stk_ B N k1 = 5
          · rw [if_pos q3]
            obtain ⟨hk1, tk⟩ := tg.1 q3
            refine ⟨_, a1.at hg hk1, fun Q => ?_⟩
            rw [s51_29]
            simp (disch := first | omega | assumption | decide | (apply bT_; decide)) only [s51_0, s51_1, s51_4, s51_5, s51_8, s51_9, s51_10, s51_11, s51_14, s51_17, s51_18, s51_21, s51_24, s51_25, s51_28, s51_30, s51_32, s51_36, s51_37, s51_40, s51_41, s51_42, s51_43, s51_43i, s51_44, s51_47, s51_48, s51_49, s51_52, s51_53, s51_56, s51_59, s51_60, s51_61, s51_62, s51_63, s51_66, s51_69, s51_70, s51_73, s51_76, s51_79, s51_80, s51_84, s51_86, s51_87, s51_88, s51_89, s51_92, s51_95, s51_96, s51_97, s51_98, s51_101, s51_102, s51_105, s51_106, K_v, K_0, acI, acA, acJ, acX, List.map_cons, List.map_nil, List.sum_cons, List.sum_nil, true_and, and_true, posT, b2_0, b2_1, bft, true_or, or_true, Nat.zero_le, Nat.reduceAdd, Nat.reduceLeDiff, hI_uI, hL_uI, hR_uI, nx_uI, sl_uI, hI_uL, hL_uL, hR_uL, nx_uL, sl_uL, hI_uR, hL_uR, hR_uR, nx_uR, sl_uR, st_eq, if_true, if_false, eq_self, Nat.reduceEqDiff, Nat.reduceMul, reduceIte, kdT, ixT, w_cl, w_ti, w_s1, w_a, w_m12, w_m8, w_m3, w_m4, at_f, hR_at, n8, r3, ed, t1, tb2, if_pos n2, a2, k10, tk, kd_RD, ln_RD]
          · rw [if_neg q3]
            have tk := tg.2 q3
            refine ⟨x', _, a1, fun Q => ?_⟩
            rw [s51_29]
            simp (disch := first | omega | assumption | decide | (apply bT_; decide)) only [s51_0, s51_1, s51_4, s51_5, s51_8, s51_9, s51_10, s51_11, s51_14, s51_17, s51_18, s51_21, s51_24, s51_25, s51_28, s51_30, s51_32, s51_36, s51_37, s51_40, s51_41, s51_42, s51_43, s51_43i, s51_44, s51_47, s51_48, s51_49, s51_52, s51_53, s51_56, s51_59, s51_60, s51_61, s51_62, s51_63, s51_66, s51_69, s51_70, s51_73, s51_76, s51_80, s51_83, s51_84, s51_86, s51_87, s51_88, s51_89, s51_92, s51_95, s51_96, s51_97, s51_98, s51_101, s51_102, s51_105, s51_106, K_v, K_0, acI, acA, acJ, acX, List.map_cons, List.map_nil, List.sum_cons, List.sum_nil, true_and, and_true, posT, b2_0, b2_1, bft, true_or, or_true, Nat.zero_le, Nat.reduceAdd, Nat.reduceLeDiff, hI_uI, hL_uI, hR_uI, nx_uI, sl_uI, hI_uL, hL_uL, hR_uL, nx_uL, sl_uL, hI_uR, hL_uR, hR_uR, nx_uR, sl_uR, st_eq, if_true, if_false, eq_self, Nat.reduceEqDiff, Nat.reduceMul, reduceIte, kdT, ixT, w_cl, w_ti, w_s1, w_a, w_m12, w_m8, w_m3, w_m4, at_f, hR_at, n8, r3, ed, t1, tb2, if_pos n2, a2, k10, tk, kd_RD, ln_RD]
      · rw [if_neg q2]
        have n2 : ¬ _ := fun z => q2 (i2.mp z)
        have hF := ih (d - 1) (k + 1) s _ (by omega) (by omega) H1
        have ho := okF n (k + 1) hkf
        cases hr : pF_ (stk_ B N) (vlk_ B N) n (k + 1) with
        | inl y =>
          obtain ⟨c, k1⟩ := y
          rw [hr] at hF
          obtain ⟨x', s', a1, a2⟩ := hF
          dsimp only at a2
          refine ⟨x', s', a1, fun Q => ?_⟩
          rw [s51_29]
          simp (disch := first | omega | assumption | decide | (apply bT_; decide)) only [s51_0, s51_1, s51_4, s51_5, s51_8, s51_9, s51_10, s51_11, s51_14, s51_17, s51_18, s51_21, s51_24, s51_25, s51_28, s51_30, s51_32, s51_36, s51_37, s51_40, s51_41, s51_42, s51_43, s51_43i, s51_44, s51_47, s51_48, s51_49, s51_52, s51_53, s51_56, s51_60, s51_61, s51_62, s51_63, s51_66, s51_69, s51_70, s51_73, s51_76, s51_79, s51_80, s51_83, s51_84, s51_85, s51_86, s51_87, s51_88, s51_89, s51_92, s51_95, s51_96, s51_98, s51_101, s51_102, s51_105, s51_106, K_v, K_0, acI, acA, acJ, acX, List.map_cons, List.map_nil, List.sum_cons, List.sum_nil, true_and, and_true, posT, b2_0, b2_1, bft, true_or, or_true, Nat.zero_le, Nat.reduceAdd, Nat.reduceLeDiff, hI_uI, hL_uI, hR_uI, nx_uI, sl_uI, hI_uL, hL_uL, hR_uL, nx_uL, sl_uL, hI_uR, hL_uR, hR_uR, nx_uR, sl_uR, st_eq, if_true, if_false, eq_self, Nat.reduceEqDiff, Nat.reduceMul, reduceIte, kdT, ixT, w_cl, w_ti, w_s1, w_a, w_m12, w_m8, w_m3, w_m4, at_f, hR_at, n8, r3, ed, t1, tb2, if_neg n2, a2, kd_RD, ln_RD]
        | inr y =>
          obtain ⟨e, k1⟩ := y
          rw [hr] at hF ho
          obtain ⟨x', a1, a2⟩ := hF
          dsimp only at a2
          obtain ⟨b1, b2, b3, -⟩ := ho
          obtain ⟨y, c1, c2⟩ := c_addStep (xs := xs) (d := d - 1) (v := 0) hg hC hz f8 a1 (by
            have := H.2.2.2.2.2.2.2.2.1
            rw [List.length_append]
            omega)
          rw [List.append_assoc] at c1
          have r6 := a1.2.2.2.2.2.1
          refine ⟨y, c1, fun Q => ?_⟩
          rw [s51_29]
          simp (disch := first | omega | assumption | decide | (apply bT_; decide)) only [s51_0, s51_1, s51_4, s51_5, s51_8, s51_9, s51_10, s51_11, s51_14, s51_17, s51_18, s51_21, s51_24, s51_25, s51_28, s51_30, s51_32, s51_36, s51_37, s51_40, s51_41, s51_42, s51_43, s51_43i, s51_44, s51_47, s51_48, s51_49, s51_52, s51_53, s51_56, s51_60, s51_61, s51_62, s51_63, s51_66, s51_69, s51_70, s51_73, s51_76, s51_79, s51_80, s51_83, s51_84, s51_85, s51_86, s51_87, s51_88, s51_89, s51_92, s51_96, s51_97, s51_98, s51_101, s51_102, s51_105, s51_106, K_v, K_0, acI, acA, acJ, acX, List.map_cons, List.map_nil, List.sum_cons, List.sum_nil, true_and, and_true, posT, b2_0, b2_1, bft, true_or, or_true, Nat.zero_le, Nat.reduceAdd, Nat.reduceLeDiff, hI_uI, hL_uI, hR_uI, nx_uI, sl_uI, hI_uL, hL_uL, hR_uL, nx_uL, sl_uL, hI_uR, hL_uR, hR_uR, nx_uR, sl_uR, st_eq, if_true, if_false, eq_self, Nat.reduceEqDiff, Nat.reduceMul, reduceIte, kdT, ixT, w_cl, w_ti, w_s1, w_a, w_m12, w_m8, w_m3, w_m4, at_f, hR_at, n8, r3, ed, t1, tb2, if_neg n2, a2, k10, r6, c2, hkG, kd_RD, ln_RD]
    · rw [if_neg q]; exact simple d k s x _ (by omega) H q
theorem c_readE (hg : GC_ cG cW cN cP cT) (hC : CS_ h0) (hT : TKF_ B N f h0) (hz : 0 < sz ∧ sz ≤ 10) (hd : 30 ≤ d) (H : RS_ h0 cG cP cT sz f pr 1 k s x) : RRV_ (fun Q => V_ xs d 49 0 [vA (some 29884421), vI 0, vX 0] [] x Q) h0 cG cP cT sz f pr s (pE_ (stk_ B N) (vlk_ B N) 8 k) := by
  have okF := pF_ok (f := f) (tkf_0 hT) (vlk_nat (B := B) (N := N)) (fun k => stk_lt)
  exact c_readAnyOf (xs := xs) (d := d) (D := Int32.ofNat (8 - 8)) (DD := 1 + 2 * 8 + 1) hg hC hT hz (by omega) (fun k hk => pst_ok (by decide) (tkf_0 hT) mk_and (okF 8) hk) (fun k s x H => c_readAllOf (DD := 1 + 2 * 8) hg hC hT hz (by omega) (okF 8) (fun k s x H => c_readPart hg hC hT hz 8 (d - 1 - 1) k s x (by omega) (by omega) H) H) H
end CRE
