/-! the class reads all terms -/
section CTB
variable {xs : Nat → Int32} {d : Nat} {h h0 x : AH} {B : Nat → Int32} {N cG cW cN cP cT f k : Nat} {L : List Trm_}
theorem GC_.ne (hg : GC_ cG cW cN cP cT) : cW ≠ 29884421 ∧ cN ∉ [29884421, cG, cP, cT] ∧ (∀ a ∈ [29884421, cG, cN, cP, cT], a ≠ 30459984 ∧ a ≠ 30722128) ∧ (∀ a ∈ [cW], a ≠ 30197846) ∧ (∀ a ∈ [cW], a ∈ [30197846, 31195798, 32506518]) ∧ 29884421 ∉ [cG, cN, cP] ∧ kd_ cG = 1 := by
  rcases hg with ⟨rfl, rfl, rfl, rfl, rfl⟩ | ⟨rfl, rfl, rfl, rfl, rfl⟩ <;> decide
theorem AG_.of {x1 y : AH} {w : Nat} {am : Int32} {e : Ex_} {j k1 : Nat} {fk : Int32} (hg : GC_ cG cW cN cP cT) (hA : AG_ cG cW cN cP cT L x) (hl : L.length < 10) (h1 : ∀ i, i < L.length → hR_ x1 cW i = hR_ x cW i ∧ hI_ x1 cN i = hI_ x cN i ∧ hI_ x1 cP i = hI_ x cP i) (h2 : hR_ x1 cW L.length = some (tref_ (cl_ w))) (h3 : hI_ x1 cN L.length = am) (H : RS_ x1 cG cP cT (L.length + 1) f (hI_ x1 cP) fk k1 (sts_ L ++ e.1) y) : AG_ cG cW cN cP cT (L ++ [(w, am, e, j)]) y := by
  obtain ⟨a1, a2, a3, a4⟩ := hA
  obtain ⟨r1, r2, r3, r4, r5, r6, r7, r8, r9, r10, r11, r12⟩ := H
  obtain ⟨g1, g2, -⟩ := hg.ne
  have hll : (L ++ [(w, am, e, j)]).length = L.length + 1 := by rw [List.length_append]; rfl
  rw [Nat.add_sub_cancel] at r10 r11
  refine ⟨by rw [hll]; exact r7, by omega, fun i hi => ?_, ?_⟩
  · rw [hll] at hi
    rw [r1.2.2.1 cW i (fun z => nomatch z) (fun z => absurd z g1), r1.1 cN g2]
    by_cases q : i = L.length
    · rw [q, gT_r, h2, h3, r10]
      refine ⟨rfl, rfl, ?_⟩
      rw [List.take_of_length_le (by omega), sts_snoc]
    · rw [gT_l (by omega), r11 i q]
      obtain ⟨b1, b2, b3⟩ := h1 i (by omega)
      rw [b1, b2, b3, List.take_append_of_le_length (by omega)]
      exact a3 i (by omega)
  · rw [sts_snoc]
    exact r12
theorem c_termBody {w : Nat} {am : Int32} (hg : GC_ cG cW cN cP cT) (hC : CS_ h0) (hT : TKF_ B N f h0) (hw : cl_ w < 22) (hl : L.length < 10) (hd : 31 ≤ d) (H : RT_ h0 cG cW cN cP cT f k L x) : RQ_ (fun Q => V_ xs d 48 88 [vA (some 29884421), vA (some (tref_ (cl_ w))), vI am] [] x Q) h0 cG cW cN cP cT f L (ptb_ (stk_ B N) (vlk_ B N) w am k) := by
  obtain ⟨g1, g2, g3, g4, g5, g6, g7⟩ := hg.ne
  obtain ⟨t1, t2, t3, t4, t5, t6, t7, t8, t9⟩ := H
  have k10 : ¬ ((1 : Int32) = 0) := by decide
  have hCx : CS_ x := t1.cs g5 hC
  obtain ⟨x1, b1, b2, b3, b4, b5, b6⟩ := c_addTerm (xs := xs) (d := d - 1) (w := w) (am := am) hg hCx hw t7 hl t8 t2 t3 t4 t5 t6 t9
  have kx1 : KT_ [29884421, cG, cN, cP, cT] [cW] h0 x1 := t1.tr (b1.mono (fun a ha => by simp only [List.mem_cons, List.not_mem_nil, or_false] at ha ⊢; rcases ha with z | z | z <;> simp [z]) (fun a ha => ha))
  have hC1 : CS_ x1 := kx1.cs g5 hC
  have hT1 : TKF_ B N f x1 := hT.kt kx1 g3 g4 (by rw [b2.2.1, hT.2.1])
  have hz : 0 < L.length + 1 ∧ L.length + 1 ≤ 10 := ⟨by omega, by omega⟩
  have up : ∀ y, KT_ [29884421, cG, cP, cT] [] x1 y → KT_ [29884421, cG, cN, cP, cT] [cW] h0 y := fun y hy => kx1.tr (hy.mono (fun a ha => by simp only [List.mem_cons, List.not_mem_nil, or_false] at ha ⊢; rcases ha with z | z | z | z <;> simp [z]) (fun a ha => nomatch ha))
  have r6 := b2.2.2.2.2.2.1
  have tg := c_take (xs := xs) (d := d - 1) (σ := 14) (by decide) (by decide) hg hC1 hT1 b2
  rw [show tref_ (cl_ 14) = 1310752 from by decide] at tg
  unfold ptb_
  by_cases q : stk_ B N k = 14
  · rw [if_pos q]
    obtain ⟨hkf, tk⟩ := tg.1 q
    have H1 := b2.at hg hkf
    have hE := c_readE (xs := xs) (d := d - 1) hg hC1 hT1 hz (by omega) H1
    cases hr : pE_ (stk_ B N) (vlk_ B N) 8 (k + 1) with
    | inl y =>
      obtain ⟨c, k1⟩ := y
      rw [hr] at hE
      obtain ⟨x', s', a1, a2⟩ := hE
      dsimp only at a2
      refine ⟨x', up _ a1.1, a1.2.2.1, a1.2.2.2.1, a1.2.2.2.2.1, fun Q => ?_⟩
      dsimp only
      rw [s48_88]
      simp (disch := first | omega | assumption | decide | (apply bT_; decide)) only [s48_0, s48_1, s48_4, s48_5, s48_8, s48_9, s48_10, s48_11, s48_14, s48_17, s48_18, s48_19, s48_20, s48_23, s48_26, s48_28, s48_31, s48_32, s48_33, s48_36, s48_37, s48_38, s48_39, s48_39i, s48_40, s48_43, s48_44, s48_45, s48_48, s48_49, s48_52, s48_55, s48_56, s48_59, s48_60, s48_63, s48_64, s48_67, s48_68, s48_69, s48_70, s48_73, s48_76, s48_77, s48_80, s48_83, s48_86, s48_87, s48_89, s48_92, s48_93, s48_94, s48_97, s48_98, s48_101, s48_104, s48_107, s48_108, s48_109, s48_112, s48_116, s48_119, s48_122, s48_126, s48_129, s48_130, K_v, K_0, acI, acA, acJ, acX, List.map_cons, List.map_nil, List.sum_cons, List.sum_nil, true_and, and_true, posT, b2_0, b2_1, bft, true_or, or_true, Nat.zero_le, Nat.reduceAdd, Nat.reduceLeDiff, hI_uI, hL_uI, hR_uI, nx_uI, sl_uI, hI_uL, hL_uL, hR_uL, nx_uL, sl_uL, hI_uR, hL_uR, hR_uR, nx_uR, sl_uR, st_eq, if_true, if_false, eq_self, Nat.reduceEqDiff, Nat.reduceMul, reduceIte, kdT, ixT, w_cl, w_ti, w_s1, w_a, w_m12, w_m8, w_m3, w_m4, at_f, hR_at, t6, b6, tk, k10, a2, g7, kd_RD, ln_RD]
    | inr y =>
      obtain ⟨e, k1⟩ := y
      rw [hr] at hE
      obtain ⟨x', a1, a2⟩ := hE
      dsimp only at a2
      have ts := c_take (xs := xs) (d := d - 1) (σ := 6) (by decide) (by decide) hg hC1 hT1 a1
      rw [show tref_ (cl_ 6) = 4456480 from by decide] at ts
      dsimp only
      by_cases q3 : stk_ B N k1 = 6
      · rw [if_pos q3]
        obtain ⟨hk1, tk2⟩ := ts.1 q3
        have H2 := a1.at hg hk1
        refine ⟨at_ x' (k1 + 1), ⟨up _ H2.1, H2.2.1, H2.2.2.1, H2.2.2.2.1, H2.2.2.2.2.1, H2.2.2.2.2.2.1, AG_.of hg t7 hl b3 b4 b5 H2, ?_, ?_⟩, fun Q => ?_⟩
        · rw [sts_snoc]; exact H2.2.2.2.2.2.2.2.1
        · rw [sts_snoc]; exact H2.2.2.2.2.2.2.2.2.1
        · dsimp only
          rw [s48_88]
          simp (disch := first | omega | assumption | decide | (apply bT_; decide)) only [s48_0, s48_1, s48_4, s48_5, s48_8, s48_9, s48_10, s48_11, s48_14, s48_17, s48_18, s48_19, s48_20, s48_23, s48_26, s48_28, s48_31, s48_32, s48_33, s48_36, s48_37, s48_38, s48_39, s48_39i, s48_40, s48_43, s48_44, s48_45, s48_48, s48_49, s48_52, s48_55, s48_56, s48_59, s48_60, s48_63, s48_64, s48_67, s48_68, s48_69, s48_70, s48_73, s48_76, s48_77, s48_80, s48_83, s48_86, s48_87, s48_89, s48_92, s48_93, s48_94, s48_97, s48_98, s48_101, s48_104, s48_107, s48_108, s48_109, s48_112, s48_115, s48_116, s48_119, s48_122, s48_125, s48_126, s48_130, K_v, K_0, acI, acA, acJ, acX, List.map_cons, List.map_nil, List.sum_cons, List.sum_nil, true_and, and_true, posT, b2_0, b2_1, bft, true_or, or_true, Nat.zero_le, Nat.reduceAdd, Nat.reduceLeDiff, hI_uI, hL_uI, hR_uI, nx_uI, sl_uI, hI_uL, hL_uL, hR_uL, nx_uL, sl_uL, hI_uR, hL_uR, hR_uR, nx_uR, sl_uR, st_eq, if_true, if_false, eq_self, Nat.reduceEqDiff, Nat.reduceMul, reduceIte, kdT, ixT, w_cl, w_ti, w_s1, w_a, w_m12, w_m8, w_m3, w_m4, at_f, hR_at, t6, b6, tk, k10, a2, tk2, g7, kd_RD, ln_RD]
      · rw [if_neg q3]
        have tk2 := ts.2 q3
        refine ⟨x', up _ a1.1, a1.2.2.1, a1.2.2.2.1, a1.2.2.2.2.1, fun Q => ?_⟩
        dsimp only
        rw [s48_88]
        simp (disch := first | omega | assumption | decide | (apply bT_; decide)) only [s48_0, s48_1, s48_4, s48_5, s48_8, s48_9, s48_10, s48_11, s48_14, s48_17, s48_18, s48_19, s48_20, s48_23, s48_26, s48_28, s48_31, s48_32, s48_33, s48_36, s48_37, s48_38, s48_39, s48_39i, s48_40, s48_43, s48_44, s48_45, s48_48, s48_49, s48_52, s48_55, s48_56, s48_59, s48_60, s48_63, s48_64, s48_67, s48_68, s48_69, s48_70, s48_73, s48_76, s48_77, s48_80, s48_83, s48_86, s48_87, s48_89, s48_92, s48_93, s48_94, s48_97, s48_98, s48_101, s48_104, s48_107, s48_108, s48_109, s48_112, s48_115, s48_116, s48_119, s48_122, s48_126, s48_129, s48_130, K_v, K_0, acI, acA, acJ, acX, List.map_cons, List.map_nil, List.sum_cons, List.sum_nil, true_and, and_true, posT, b2_0, b2_1, bft, true_or, or_true, Nat.zero_le, Nat.reduceAdd, Nat.reduceLeDiff, hI_uI, hL_uI, hR_uI, nx_uI, sl_uI, hI_uL, hL_uL, hR_uL, nx_uL, sl_uL, hI_uR, hL_uR, hR_uR, nx_uR, sl_uR, st_eq, if_true, if_false, eq_self, Nat.reduceEqDiff, Nat.reduceMul, reduceIte, kdT, ixT, w_cl, w_ti, w_s1, w_a, w_m12, w_m8, w_m3, w_m4, at_f, hR_at, t6, b6, tk, k10, a2, tk2, g7, kd_RD, ln_RD]
  · rw [if_neg q]
    have tk := tg.2 q
    refine ⟨x1, kx1, b2.2.2.1, b2.2.2.2.1, b2.2.2.2.2.1, fun Q => ?_⟩
    dsimp only
    rw [s48_88]
    simp (disch := first | omega | assumption | decide | (apply bT_; decide)) only [s48_0, s48_1, s48_4, s48_5, s48_8, s48_9, s48_10, s48_11, s48_14, s48_17, s48_18, s48_19, s48_20, s48_23, s48_26, s48_28, s48_31, s48_32, s48_33, s48_36, s48_37, s48_38, s48_39, s48_39i, s48_40, s48_43, s48_44, s48_45, s48_48, s48_49, s48_52, s48_55, s48_56, s48_59, s48_60, s48_63, s48_64, s48_67, s48_68, s48_69, s48_70, s48_73, s48_76, s48_77, s48_80, s48_83, s48_86, s48_87, s48_89, s48_92, s48_93, s48_94, s48_97, s48_98, s48_101, s48_104, s48_108, s48_109, s48_112, s48_115, s48_116, s48_119, s48_122, s48_126, s48_129, s48_130, K_v, K_0, acI, acA, acJ, acX, List.map_cons, List.map_nil, List.sum_cons, List.sum_nil, true_and, and_true, posT, b2_0, b2_1, bft, true_or, or_true, Nat.zero_le, Nat.reduceAdd, Nat.reduceLeDiff, hI_uI, hL_uI, hR_uI, nx_uI, sl_uI, hI_uL, hL_uL, hR_uL, nx_uL, sl_uL, hI_uR, hL_uR, hR_uR, nx_uR, sl_uR, st_eq, if_true, if_false, eq_self, Nat.reduceEqDiff, Nat.reduceMul, reduceIte, kdT, ixT, w_cl, w_ti, w_s1, w_a, w_m12, w_m8, w_m3, w_m4, at_f, hR_at, t6, b6, tk, g7, kd_RD, ln_RD]
theorem RT_.at (hg : GC_ cG cW cN cP cT) (H : RT_ h0 cG cW cN cP cT f k L x) (hk : k < f) : RT_ h0 cG cW cN cP cT f (k + 1) L (at_ x (k + 1)) := by
  obtain ⟨t1, t2, t3, t4, t5, t6, ⟨a1, a2, a3, a4⟩, t8, t9⟩ := H
  unfold at_
  rcases hg with ⟨rfl, rfl, rfl, rfl, rfl⟩ | ⟨rfl, rfl, rfl, rfl, rfl⟩
  all_goals exact ⟨t1.uI (by decide), by simp only [hI_uI, hL_uI, hR_uI, nx_uI, sl_uI, hI_uL, hL_uL, hR_uL, nx_uL, sl_uL, hI_uR, hL_uR, hR_uR, nx_uR, sl_uR, st_eq, if_true, if_false, eq_self, Nat.reduceEqDiff, Nat.reduceMul, reduceIte, kdT, ixT, w_cl, w_ti, w_s1, w_a, w_m12, w_m8, w_m3, w_m4]; exact t2, by simp only [hI_uI, hL_uI, hR_uI, nx_uI, sl_uI, hI_uL, hL_uL, hR_uL, nx_uL, sl_uL, hI_uR, hL_uR, hR_uR, nx_uR, sl_uR, st_eq, if_true, if_false, eq_self, Nat.reduceEqDiff, Nat.reduceMul, reduceIte, kdT, ixT, w_cl, w_ti, w_s1, w_a, w_m12, w_m8, w_m3, w_m4], hk, by simp only [hI_uI, hL_uI, hR_uI, nx_uI, sl_uI, hI_uL, hL_uL, hR_uL, nx_uL, sl_uL, hI_uR, hL_uR, hR_uR, nx_uR, sl_uR, st_eq, if_true, if_false, eq_self, Nat.reduceEqDiff, Nat.reduceMul, reduceIte, kdT, ixT, w_cl, w_ti, w_s1, w_a, w_m12, w_m8, w_m3, w_m4]; exact t5, t6, ⟨by simp only [hI_uI, hL_uI, hR_uI, nx_uI, sl_uI, hI_uL, hL_uL, hR_uL, nx_uL, sl_uL, hI_uR, hL_uR, hR_uR, nx_uR, sl_uR, st_eq, if_true, if_false, eq_self, Nat.reduceEqDiff, Nat.reduceMul, reduceIte, kdT, ixT, w_cl, w_ti, w_s1, w_a, w_m12, w_m8, w_m3, w_m4]; exact a1, a2, fun i hi => by simp only [hI_uI, hL_uI, hR_uI, nx_uI, sl_uI, hI_uL, hL_uL, hR_uL, nx_uL, sl_uL, hI_uR, hL_uR, hR_uR, nx_uR, sl_uR, st_eq, if_true, if_false, eq_self, Nat.reduceEqDiff, Nat.reduceMul, reduceIte, kdT, ixT, w_cl, w_ti, w_s1, w_a, w_m12, w_m8, w_m3, w_m4]; exact a3 i hi, fun j hj => by simp only [hI_uI, hL_uI, hR_uI, nx_uI, sl_uI, hI_uL, hL_uL, hR_uL, nx_uL, sl_uL, hI_uR, hL_uR, hR_uR, nx_uR, sl_uR, st_eq, if_true, if_false, eq_self, Nat.reduceEqDiff, Nat.reduceMul, reduceIte, kdT, ixT, w_cl, w_ti, w_s1, w_a, w_m12, w_m8, w_m3, w_m4]; exact a4 j hj⟩, by simp only [hI_uI, hL_uI, hR_uI, nx_uI, sl_uI, hI_uL, hL_uL, hR_uL, nx_uL, sl_uL, hI_uR, hL_uR, hR_uR, nx_uR, sl_uR, st_eq, if_true, if_false, eq_self, Nat.reduceEqDiff, Nat.reduceMul, reduceIte, kdT, ixT, w_cl, w_ti, w_s1, w_a, w_m12, w_m8, w_m3, w_m4]; exact t8, by omega⟩
theorem c_readTerm (hg : GC_ cG cW cN cP cT) (hC : CS_ h0) (hT : TKF_ B N f h0) (hd : 31 ≤ d) (H : RT_ h0 cG cW cN cP cT f k L x) : RQ_ (fun Q => V_ xs d 48 0 [vA (some 29884421), vX 0, vX 0] [] x Q) h0 cG cW cN cP cT f L (ptm_ (stk_ B N) (vlk_ B N) L.length k) := by
  obtain ⟨g1, g2, g3, g4, g5, g6, g7⟩ := hg.ne
  have f8 := hT.2.2.1
  obtain ⟨t1, t2, t3, t4, t5, t6, t7, t8, t9⟩ := id H
  obtain ⟨a1, a2, a3, a4⟩ := id t7
  have k10 : ¬ ((1 : Int32) = 0) := by decide
  have hCx : CS_ x := t1.cs g5 hC
  have hb : kd_ 30197846 = 20 ∨ kd_ 30197846 = 21 ∨ kd_ 30197846 = 22 := Or.inr (Or.inr rfl)
  have htk : hR_ x 30197846 k = some (tref_ (cl_ (stk_ B N k))) := by
    rw [t1.2.2.1 30197846 k (fun z => (g4 _ z) rfl) (fun z => absurd z (by decide))]
    exact (hT.2.2.2.2.2 k (by omega)).1
  obtain ⟨tk32, -, -⟩ := tok_f (cl_ (stk_ B N k)) (cl_lt _ stk_lt)
  have hop := fun Q => c_opensTerm (xs := xs) (d := d - 1) (h := x) (Q := Q) (s := stk_ B N k) stk_lt
  unfold ptm_
  by_cases q : stk_ B N k < 10 ∨ 13 < stk_ B N k
  · rw [if_pos q]
    rw [decide_eq_false (by omega)] at hop
    have hop' : ∀ Q : OU_ → AH → Prop, V_ xs (d - 1) 174 0 [vA (some (tref_ (cl_ (stk_ B N k))))] [] x Q ↔ Q (some (some (vI 0))) x := hop
    refine ⟨x, t1, t3, t4, t5, fun Q => ?_⟩
    simp (disch := first | omega | assumption | decide | (apply bT_; decide)) only [s48_0, s48_1, s48_4, s48_5, s48_8, s48_9, s48_10, s48_11, s48_14, s48_17, s48_18, s48_20, s48_23, s48_26, s48_28, s48_31, s48_32, s48_33, s48_36, s48_37, s48_38, s48_39, s48_39i, s48_40, s48_43, s48_44, s48_45, s48_48, s48_49, s48_52, s48_55, s48_56, s48_59, s48_60, s48_63, s48_64, s48_67, s48_68, s48_69, s48_70, s48_73, s48_76, s48_77, s48_80, s48_83, s48_86, s48_87, s48_88, s48_89, s48_92, s48_93, s48_94, s48_97, s48_98, s48_101, s48_104, s48_107, s48_108, s48_109, s48_112, s48_115, s48_116, s48_119, s48_122, s48_125, s48_126, s48_129, s48_130, K_v, K_0, acI, acA, acJ, acX, List.map_cons, List.map_nil, List.sum_cons, List.sum_nil, true_and, and_true, posT, b2_0, b2_1, bft, true_or, or_true, Nat.zero_le, Nat.reduceAdd, Nat.reduceLeDiff, hI_uI, hL_uI, hR_uI, nx_uI, sl_uI, hI_uL, hL_uL, hR_uL, nx_uL, sl_uL, hI_uR, hL_uR, hR_uR, nx_uR, sl_uR, st_eq, if_true, if_false, eq_self, Nat.reduceEqDiff, Nat.reduceMul, reduceIte, kdT, ixT, w_cl, w_ti, w_s1, w_a, w_m12, w_m8, w_m3, w_m4, hCx.x0, hCx.x2, hCx.x4, hCx.x7, hCx.x8, hCx.x9, hCx.x11, hCx.f0, hCx.f1, hCx.f2, hCx.p0, hCx.p1, hCx.p2, hCx.p3, hCx.l1, hCx.l2, hCx.l3, hCx.l4, hCx.d0, hCx.d1, hCx.d2, hCx.g1, hCx.g2, hCx.g3, hCx.g4, hCx.k1, hCx.k2, hCx.k3, hCx.k4, t3, htk, tk32, hb, hop', kd_RD, ln_RD, kd_TK, ln_TK]
  · rw [if_neg q]
    rw [decide_eq_true (by omega)] at hop
    have hop' : ∀ Q : OU_ → AH → Prop, V_ xs (d - 1) 174 0 [vA (some (tref_ (cl_ (stk_ B N k))))] [] x Q ↔ Q (some (some (vI 1))) x := hop
    by_cases q10 : L.length = 10
    · rw [if_pos q10]
      have n10 : ¬ (Int32.ofNat L.length < 10) := by rw [q10]; decide
      refine ⟨uI_ x 29884421 (st_ (hI_ x 29884421) 5 2), t1.uI List.mem_cons_self, by simp only [hI_uI, hL_uI, hR_uI, nx_uI, sl_uI, hI_uL, hL_uL, hR_uL, nx_uL, sl_uL, hI_uR, hL_uR, hR_uR, nx_uR, sl_uR, st_eq, if_true, if_false, eq_self, Nat.reduceEqDiff, Nat.reduceMul, reduceIte, kdT, ixT, w_cl, w_ti, w_s1, w_a, w_m12, w_m8, w_m3, w_m4]; exact t3, t4, by simp only [hI_uI, hL_uI, hR_uI, nx_uI, sl_uI, hI_uL, hL_uL, hR_uL, nx_uL, sl_uL, hI_uR, hL_uR, hR_uR, nx_uR, sl_uR, st_eq, if_true, if_false, eq_self, Nat.reduceEqDiff, Nat.reduceMul, reduceIte, kdT, ixT, w_cl, w_ti, w_s1, w_a, w_m12, w_m8, w_m3, w_m4]; rfl, fun Q => ?_⟩
      simp (disch := first | omega | assumption | decide | (apply bT_; decide)) only [s48_0, s48_1, s48_4, s48_5, s48_8, s48_9, s48_10, s48_11, s48_14, s48_18, s48_19, s48_20, s48_23, s48_26, s48_28, s48_31, s48_32, s48_33, s48_36, s48_37, s48_39, s48_39i, s48_40, s48_43, s48_44, s48_45, s48_48, s48_49, s48_52, s48_55, s48_56, s48_59, s48_60, s48_63, s48_64, s48_67, s48_68, s48_69, s48_70, s48_73, s48_76, s48_77, s48_80, s48_83, s48_86, s48_87, s48_88, s48_89, s48_92, s48_93, s48_94, s48_97, s48_98, s48_101, s48_104, s48_107, s48_108, s48_109, s48_112, s48_115, s48_116, s48_119, s48_122, s48_125, s48_126, s48_129, s48_130, K_v, K_0, acI, acA, acJ, acX, List.map_cons, List.map_nil, List.sum_cons, List.sum_nil, true_and, and_true, posT, b2_0, b2_1, bft, true_or, or_true, Nat.zero_le, Nat.reduceAdd, Nat.reduceLeDiff, hI_uI, hL_uI, hR_uI, nx_uI, sl_uI, hI_uL, hL_uL, hR_uL, nx_uL, sl_uL, hI_uR, hL_uR, hR_uR, nx_uR, sl_uR, st_eq, if_true, if_false, eq_self, Nat.reduceEqDiff, Nat.reduceMul, reduceIte, kdT, ixT, w_cl, w_ti, w_s1, w_a, w_m12, w_m8, w_m3, w_m4, hCx.x0, hCx.x2, hCx.x4, hCx.x7, hCx.x8, hCx.x9, hCx.x11, hCx.f0, hCx.f1, hCx.f2, hCx.p0, hCx.p1, hCx.p2, hCx.p3, hCx.l1, hCx.l2, hCx.l3, hCx.l4, hCx.d0, hCx.d1, hCx.d2, hCx.g1, hCx.g2, hCx.g3, hCx.g4, hCx.k1, hCx.k2, hCx.k3, hCx.k4, t3, t6, a1, n10, htk, tk32, hb, hop', k10, g7, kd_RD, ln_RD, kd_TK, ln_TK]
    · rw [if_neg q10]
      have l10 : Int32.ofNat L.length < 10 := (w_lt (b := 10) (by omega) (by omega)).mpr (by omega)
      have hkf : k < f := by
        rcases Nat.lt_or_ge k f with z | z
        · exact z
        · rw [tkf_0 hT k z] at q; exact absurd (Or.inl (by decide)) q
      have H1 := H.at hg hkf
      have hC1 : CS_ (at_ x (k + 1)) := H1.1.cs g5 hC
      have r4 := H1.2.2.1
      have tm : tkb_ (some 262176) = true := by decide
      have tkb := (tok_f (cl_ (stk_ B N k)) (cl_lt _ stk_lt)).2.2
      have i1 := tok_is (σ := 10) (s := stk_ B N k) (t := 262176) (by decide) (by decide) stk_lt (by decide)
      by_cases q2 : stk_ B N k = 10
      · rw [if_pos q2]
        have n1 := i1.mpr q2
        refine RQ_.tr (fun Q => ?_) (c_termBody (xs := xs) (w := stk_ B N k) (am := 0) hg hC hT (cl_lt _ stk_lt) (by omega) hd H1)
        simp (disch := first | omega | assumption | decide | (apply bT_; decide)) only [s48_0, s48_1, s48_4, s48_5, s48_8, s48_9, s48_10, s48_11, s48_14, s48_18, s48_19, s48_20, s48_23, s48_26, s48_28, s48_32, s48_33, s48_36, s48_37, s48_38, s48_39, s48_39i, s48_40, s48_43, s48_44, s48_45, s48_48, s48_49, s48_52, s48_55, s48_56, s48_60, s48_63, s48_64, s48_67, s48_68, s48_69, s48_70, s48_73, s48_77, s48_80, s48_83, s48_86, s48_87, s48_89, s48_92, s48_93, s48_94, s48_97, s48_98, s48_101, s48_104, s48_107, s48_108, s48_109, s48_112, s48_115, s48_116, s48_119, s48_122, s48_125, s48_126, s48_129, s48_130, K_v, K_0, acI, acA, acJ, acX, List.map_cons, List.map_nil, List.sum_cons, List.sum_nil, true_and, and_true, posT, b2_0, b2_1, bft, true_or, or_true, Nat.zero_le, Nat.reduceAdd, Nat.reduceLeDiff, hI_uI, hL_uI, hR_uI, nx_uI, sl_uI, hI_uL, hL_uL, hR_uL, nx_uL, sl_uL, hI_uR, hL_uR, hR_uR, nx_uR, sl_uR, st_eq, if_true, if_false, eq_self, Nat.reduceEqDiff, Nat.reduceMul, reduceIte, kdT, ixT, w_cl, w_ti, w_s1, w_a, w_m12, w_m8, w_m3, w_m4, at_f, hR_at, hCx.x0, hCx.x2, hCx.x4, hCx.x7, hCx.x8, hCx.x9, hCx.x11, hCx.f0, hCx.f1, hCx.f2, hCx.p0, hCx.p1, hCx.p2, hCx.p3, hCx.l1, hCx.l2, hCx.l3, hCx.l4, hCx.d0, hCx.d1, hCx.d2, hCx.g1, hCx.g2, hCx.g3, hCx.g4, hCx.k1, hCx.k2, hCx.k3, hCx.k4, t3, t6, a1, l10, htk, tk32, hb, hop', k10, tm, tkb, if_pos n1, g7, kd_RD, ln_RD, kd_TK, ln_TK]
      · rw [if_neg q2]
        have n1 : ¬ _ := fun z => q2 (i1.mp z)
        have k1f : k + 1 ≤ f := hkf
        -- take speaks of RS_: only its heap matters
        have htk1 : hR_ (at_ x (k + 1)) 30197846 (k + 1) = some (tref_ (cl_ (stk_ B N (k + 1)))) := by
          rw [H1.1.2.2.1 30197846 (k + 1) (fun z => (g4 _ z) rfl) (fun z => absurd z (by decide))]
          exact (hT.2.2.2.2.2 (k + 1) (by omega)).1
        have hnum : stk_ B N (k + 1) = 2 → hI_ (at_ x (k + 1)) 30722128 (k + 1) = vlk_ B N (k + 1) := by
          intro z
          rw [H1.1.1 30722128 (fun z => (g3 _ z).2 rfl)]
          exact (hT.2.2.2.2.2 (k + 1) (by omega)).2.2 z
        have tkb1 := (tok_f (cl_ (stk_ B N (k + 1))) (cl_lt _ stk_lt)).2.2
        have tn : tkb_ (some 5242912) = true := by decide
        have i2 := tok_is (σ := 2) (s := stk_ B N (k + 1)) (t := 5242912) (by decide) (by decide) stk_lt (by decide)
        have r3 := H1.2.1
        by_cases q3 : stk_ B N (k + 1) = 2
        · rw [if_pos q3]
          have hk2 : k + 1 < f := by
            rcases Nat.lt_or_ge (k + 1) f with z | z
            · exact z
            · rw [tkf_0 hT (k + 1) z] at q3; cases q3
          have H2 := H1.at hg hk2
          have n2 := i2.mpr q3
          have tk : ∀ Q : OU_ → AH → Prop, V_ xs (d - 1) 47 0 [vA (some 29884421), vA (some 5242912)] [] (at_ x (k + 1)) Q ↔ Q (some (some (vI 1))) (at_ (at_ x (k + 1)) (k + 1 + 1)) := by
            intro Q
            simp (disch := first | omega | assumption | decide | (apply bT_; decide)) only [s47_0, s47_1, s47_4, s47_5, s47_8, s47_11, s47_12, s47_15, s47_16, s47_19, s47_20, s47_21, s47_25, s47_26, s47_27, s47_27i, s47_28, s47_31, s47_32, s47_33, s47_36, s47_37, K_v, K_0, acI, acA, acJ, acX, List.map_cons, List.map_nil, List.sum_cons, List.sum_nil, true_and, and_true, posT, b2_0, b2_1, bft, true_or, or_true, Nat.zero_le, Nat.reduceAdd, Nat.reduceLeDiff, hI_uI, hL_uI, hR_uI, nx_uI, sl_uI, hI_uL, hL_uL, hR_uL, nx_uL, sl_uL, hI_uR, hL_uR, hR_uR, nx_uR, sl_uR, st_eq, if_true, if_false, eq_self, Nat.reduceEqDiff, Nat.reduceMul, reduceIte, kdT, ixT, w_cl, w_ti, w_s1, w_a, w_m12, w_m8, w_m3, w_m4, hC1.x0, hC1.x2, hC1.x4, hC1.x7, hC1.x8, hC1.x9, hC1.x11, hC1.f0, hC1.f1, hC1.f2, hC1.p0, hC1.p1, hC1.p2, hC1.p3, hC1.l1, hC1.l2, hC1.l3, hC1.l4, hC1.d0, hC1.d1, hC1.d2, hC1.g1, hC1.g2, hC1.g3, hC1.g4, hC1.k1, hC1.k2, hC1.k3, hC1.k4, r3, r4, hk2, w_lt, htk1, hb, tkb1, tn, if_pos n2, at_f, kd_RD, ln_RD, kd_TK, ln_TK]
          have hnum' := hnum q3
          refine RQ_.tr (fun Q => ?_) (c_termBody (xs := xs) (w := stk_ B N k) (am := vlk_ B N (k + 1)) hg hC hT (cl_lt _ stk_lt) (by omega) hd H2)
          simp (disch := first | omega | assumption | decide | (apply bT_; decide)) only [s48_0, s48_1, s48_4, s48_5, s48_8, s48_9, s48_10, s48_11, s48_14, s48_18, s48_19, s48_20, s48_23, s48_26, s48_28, s48_32, s48_33, s48_36, s48_37, s48_38, s48_39, s48_39i, s48_40, s48_43, s48_44, s48_45, s48_48, s48_49, s48_52, s48_56, s48_59, s48_60, s48_63, s48_64, s48_67, s48_68, s48_69, s48_70, s48_73, s48_76, s48_77, s48_80, s48_83, s48_87, s48_89, s48_92, s48_93, s48_94, s48_97, s48_98, s48_101, s48_104, s48_107, s48_108, s48_109, s48_112, s48_115, s48_116, s48_119, s48_122, s48_125, s48_126, s48_129, s48_130, K_v, K_0, acI, acA, acJ, acX, List.map_cons, List.map_nil, List.sum_cons, List.sum_nil, true_and, and_true, posT, b2_0, b2_1, bft, true_or, or_true, Nat.zero_le, Nat.reduceAdd, Nat.reduceLeDiff, hI_uI, hL_uI, hR_uI, nx_uI, sl_uI, hI_uL, hL_uL, hR_uL, nx_uL, sl_uL, hI_uR, hL_uR, hR_uR, nx_uR, sl_uR, st_eq, if_true, if_false, eq_self, Nat.reduceEqDiff, Nat.reduceMul, reduceIte, kdT, ixT, w_cl, w_ti, w_s1, w_a, w_m12, w_m8, w_m3, w_m4, at_f, hR_at, hCx.x0, hCx.x2, hCx.x4, hCx.x7, hCx.x8, hCx.x9, hCx.x11, hCx.f0, hCx.f1, hCx.f2, hCx.p0, hCx.p1, hCx.p2, hCx.p3, hCx.l1, hCx.l2, hCx.l3, hCx.l4, hCx.d0, hCx.d1, hCx.d2, hCx.g1, hCx.g2, hCx.g3, hCx.g4, hCx.k1, hCx.k2, hCx.k3, hCx.k4, t3, r4, t6, a1, l10, htk, tk32, hb, hop', k10, tm, tkb, if_neg n1, hnum', tk, g7, kd_RD, ln_RD, kd_TK, ln_TK, kd_NUM, ln_NUM]
        · rw [if_neg q3]
          have n2 : ¬ _ := fun z => q3 (i2.mp z)
          have tk : ∀ Q : OU_ → AH → Prop, V_ xs (d - 1) 47 0 [vA (some 29884421), vA (some 5242912)] [] (at_ x (k + 1)) Q ↔ Q (some (some (vI 0))) (at_ x (k + 1)) := by
            intro Q
            by_cases hk2 : k + 1 < f
            · simp (disch := first | omega | assumption | decide | (apply bT_; decide)) only [s47_0, s47_1, s47_4, s47_5, s47_8, s47_11, s47_12, s47_15, s47_16, s47_19, s47_20, s47_21, s47_24, s47_25, s47_27, s47_27i, s47_28, s47_31, s47_32, s47_33, s47_36, s47_37, K_v, K_0, acI, acA, acJ, acX, List.map_cons, List.map_nil, List.sum_cons, List.sum_nil, true_and, and_true, posT, b2_0, b2_1, bft, true_or, or_true, Nat.zero_le, Nat.reduceAdd, Nat.reduceLeDiff, hI_uI, hL_uI, hR_uI, nx_uI, sl_uI, hI_uL, hL_uL, hR_uL, nx_uL, sl_uL, hI_uR, hL_uR, hR_uR, nx_uR, sl_uR, st_eq, if_true, if_false, eq_self, Nat.reduceEqDiff, Nat.reduceMul, reduceIte, kdT, ixT, w_cl, w_ti, w_s1, w_a, w_m12, w_m8, w_m3, w_m4, hC1.x0, hC1.x2, hC1.x4, hC1.x7, hC1.x8, hC1.x9, hC1.x11, hC1.f0, hC1.f1, hC1.f2, hC1.p0, hC1.p1, hC1.p2, hC1.p3, hC1.l1, hC1.l2, hC1.l3, hC1.l4, hC1.d0, hC1.d1, hC1.d2, hC1.g1, hC1.g2, hC1.g3, hC1.g4, hC1.k1, hC1.k2, hC1.k3, hC1.k4, r3, r4, hk2, w_lt, htk1, hb, tkb1, tn, if_neg n2, kd_RD, ln_RD, kd_TK, ln_TK]
            · simp (disch := first | omega | assumption | decide | (apply bT_; decide)) only [s47_0, s47_1, s47_4, s47_5, s47_8, s47_12, s47_15, s47_16, s47_19, s47_20, s47_21, s47_24, s47_25, s47_26, s47_27, s47_27i, s47_28, s47_31, s47_32, s47_33, s47_36, s47_37, K_v, K_0, acI, acA, acJ, acX, List.map_cons, List.map_nil, List.sum_cons, List.sum_nil, true_and, and_true, posT, b2_0, b2_1, bft, true_or, or_true, Nat.zero_le, Nat.reduceAdd, Nat.reduceLeDiff, hI_uI, hL_uI, hR_uI, nx_uI, sl_uI, hI_uL, hL_uL, hR_uL, nx_uL, sl_uL, hI_uR, hL_uR, hR_uR, nx_uR, sl_uR, st_eq, if_true, if_false, eq_self, Nat.reduceEqDiff, Nat.reduceMul, reduceIte, kdT, ixT, w_cl, w_ti, w_s1, w_a, w_m12, w_m8, w_m3, w_m4, r3, r4, hk2, w_lt, kd_RD, ln_RD]
          refine ⟨at_ x (k + 1), H1.1, H1.2.2.1, H1.2.2.2.1, H1.2.2.2.2.1, fun Q => ?_⟩
          simp (disch := first | omega | assumption | decide | (apply bT_; decide)) only [s48_0, s48_1, s48_4, s48_5, s48_8, s48_9, s48_10, s48_11, s48_14, s48_18, s48_19, s48_20, s48_23, s48_26, s48_28, s48_32, s48_33, s48_36, s48_37, s48_38, s48_39, s48_39i, s48_40, s48_43, s48_44, s48_45, s48_48, s48_49, s48_52, s48_56, s48_59, s48_60, s48_63, s48_64, s48_67, s48_68, s48_69, s48_70, s48_73, s48_76, s48_77, s48_80, s48_83, s48_86, s48_87, s48_89, s48_92, s48_93, s48_94, s48_97, s48_98, s48_101, s48_104, s48_107, s48_108, s48_109, s48_112, s48_115, s48_116, s48_119, s48_122, s48_125, s48_126, s48_129, s48_130, K_v, K_0, acI, acA, acJ, acX, List.map_cons, List.map_nil, List.sum_cons, List.sum_nil, true_and, and_true, posT, b2_0, b2_1, bft, true_or, or_true, Nat.zero_le, Nat.reduceAdd, Nat.reduceLeDiff, hI_uI, hL_uI, hR_uI, nx_uI, sl_uI, hI_uL, hL_uL, hR_uL, nx_uL, sl_uL, hI_uR, hL_uR, hR_uR, nx_uR, sl_uR, st_eq, if_true, if_false, eq_self, Nat.reduceEqDiff, Nat.reduceMul, reduceIte, kdT, ixT, w_cl, w_ti, w_s1, w_a, w_m12, w_m8, w_m3, w_m4, at_f, hR_at, hCx.x0, hCx.x2, hCx.x4, hCx.x7, hCx.x8, hCx.x9, hCx.x11, hCx.f0, hCx.f1, hCx.f2, hCx.p0, hCx.p1, hCx.p2, hCx.p3, hCx.l1, hCx.l2, hCx.l3, hCx.l4, hCx.d0, hCx.d1, hCx.d2, hCx.g1, hCx.g2, hCx.g3, hCx.g4, hCx.k1, hCx.k2, hCx.k3, hCx.k4, t3, r4, t6, a1, l10, htk, tk32, hb, hop', k10, tm, tkb, if_neg n1, tk, g7, kd_RD, ln_RD, kd_TK, ln_TK, kd_NUM, ln_NUM]
def pts_ (S : Nat → Nat) (W : Nat → Int32) : Nat → List Trm_ → Nat → (Nat × Nat) ⊕ List Trm_
  | 0, L, _ => .inr L
  | m + 1, L, k => if S k = 0 then .inr L else (match ptm_ S W L.length k with | .inl x => .inl x | .inr (t, k1) => pts_ S W m (L ++ [t]) k1)
theorem cl_20 : ∀ s, s < 25 → (cl_ s = 20 ↔ s = 0) := by decide +kernel
/-- the answer of a text: 0, or the fault -/
def rda_ (B : Nat → Int32) (N : Nat) (r : (Nat × Nat) ⊕ List Trm_) : Int32 := match r with
  | .inl (c, k) => Int32.ofNat c + 16 * Int32.ofNat (ps_ B N k)
  | .inr _ => 0
theorem c_readL (hg : GC_ cG cW cN cP cT) (hC : CS_ h0) (hT : TKF_ B N f h0) (hd : 32 ≤ d) {tp g : AV} {nn : Int32} : ∀ (m i k : Nat) (L : List Trm_) (x : AH), i + m = 11 → RT_ h0 cG cW cN cP cT f k L x → ∃ x', KT_ [29884421, cG, cN, cP, cT] [cW] h0 x' ∧ (∀ L', pts_ (stk_ B N) (vlk_ B N) m L k = .inr L' → AG_ cG cW cN cP cT L' x') ∧ ∀ Q, V_ xs d 38 31 [vA (some 29884421), tp, vI nn, g, vI (Int32.ofNat i)] [] x Q ↔ Q (some (some (vI (rda_ B N (pts_ (stk_ B N) (vlk_ B N) m L k))))) x' := by
  obtain ⟨g1, g2, g3, g4, g5, g6, g7⟩ := hg.ne
  have f8 := hT.2.2.1
  have k10 : ¬ ((1 : Int32) = 0) := by decide
  have hb : kd_ 30197846 = 20 ∨ kd_ 30197846 = 21 ∨ kd_ 30197846 = 22 := Or.inr (Or.inr rfl)
  intro m
  induction m with
  | zero =>
    intro i k L x hi H
    refine ⟨x, H.1, fun L' hL => ?_, fun Q => ?_⟩
    · have : L = L' := by injection hL
      rw [← this]; exact H.2.2.2.2.2.2.1
    · have e : i = 11 := by omega
      have n10 : (10 : Int32) < Int32.ofNat 11 := by decide
      rw [e, s38_31]
      simp (disch := first | omega | assumption | decide | (apply bT_; decide)) only [s38_0, s38_1, s38_2, s38_3, s38_6, s38_7, s38_8, s38_11, s38_12, s38_15, s38_18, s38_19, s38_20, s38_23, s38_24, s38_25, s38_28, s38_29, s38_33, s38_35, s38_39, s38_42, s38_43, s38_46, s38_47, s38_50, s38_53, s38_54, s38_57, s38_60, s38_61, s38_64, s38_66, s38_67, s38_70, s38_71, s38_74, s38_75, s38_76, s38_77, s38_78, s38_81, s38_84, s38_85, K_v, K_0, acI, acA, acJ, acX, List.map_cons, List.map_nil, List.sum_cons, List.sum_nil, true_and, and_true, posT, b2_0, b2_1, bft, true_or, or_true, Nat.zero_le, Nat.reduceAdd, Nat.reduceLeDiff, hI_uI, hL_uI, hR_uI, nx_uI, sl_uI, hI_uL, hL_uL, hR_uL, nx_uL, sl_uL, hI_uR, hL_uR, hR_uR, nx_uR, sl_uR, st_eq, if_true, if_false, eq_self, Nat.reduceEqDiff, Nat.reduceMul, reduceIte, kdT, ixT, w_cl, w_ti, w_s1, w_a, w_m12, w_m8, w_m3, w_m4, n10]
      exact Iff.rfl
  | succ m ih =>
    intro i k L x hi H
    have n10 : ¬ ((10 : Int32) < Int32.ofNat i) := fun z => by
      have := (w_lt (a := 10) (by omega) (by omega)).mp z
      omega
    obtain ⟨t1, t2, t3, t4, t5, t6, t7, t8, t9⟩ := id H
    have hCx : CS_ x := t1.cs g5 hC
    have htk : hR_ x 30197846 k = some (tref_ (cl_ (stk_ B N k))) := by
      rw [t1.2.2.1 30197846 k (fun z => (g4 _ z) rfl) (fun z => absurd z (by decide))]
      exact (hT.2.2.2.2.2 k (by omega)).1
    have tkb := (tok_f (cl_ (stk_ B N k)) (cl_lt _ stk_lt)).2.2
    have tf : tkb_ (some 5505056) = true := by decide
    have i0 : some (tref_ (cl_ (stk_ B N k))) = some 5505056 ↔ stk_ B N k = 0 := by
      rw [show 5505056 = tref_ 20 from by decide, tref_inj]
      exact cl_20 _ stk_lt
    have es : pts_ (stk_ B N) (vlk_ B N) (m + 1) L k = if stk_ B N k = 0 then .inr L else (match ptm_ (stk_ B N) (vlk_ B N) L.length k with | .inl x => .inl x | .inr (t, k1) => pts_ (stk_ B N) (vlk_ B N) m (L ++ [t]) k1) := rfl
    rw [es]
    by_cases q : stk_ B N k = 0
    · have n0 := i0.mpr q
      rw [if_pos q]
      refine ⟨x, t1, fun L' hL => ?_, fun Q => ?_⟩
      · have : L = L' := by injection hL
        rw [← this]; exact t7
      · rw [s38_31]
        simp (disch := first | omega | assumption | decide | (apply bT_; decide)) only [s38_0, s38_1, s38_2, s38_3, s38_6, s38_7, s38_8, s38_11, s38_12, s38_15, s38_18, s38_19, s38_20, s38_23, s38_24, s38_25, s38_28, s38_29, s38_33, s38_35, s38_38, s38_39, s38_42, s38_43, s38_46, s38_47, s38_50, s38_54, s38_57, s38_60, s38_61, s38_64, s38_66, s38_67, s38_70, s38_71, s38_74, s38_75, s38_76, s38_77, s38_78, s38_81, s38_84, s38_85, K_v, K_0, acI, acA, acJ, acX, List.map_cons, List.map_nil, List.sum_cons, List.sum_nil, true_and, and_true, posT, b2_0, b2_1, bft, true_or, or_true, Nat.zero_le, Nat.reduceAdd, Nat.reduceLeDiff, hI_uI, hL_uI, hR_uI, nx_uI, sl_uI, hI_uL, hL_uL, hR_uL, nx_uL, sl_uL, hI_uR, hL_uR, hR_uR, nx_uR, sl_uR, st_eq, if_true, if_false, eq_self, Nat.reduceEqDiff, Nat.reduceMul, reduceIte, kdT, ixT, w_cl, w_ti, w_s1, w_a, w_m12, w_m8, w_m3, w_m4, hCx.x0, hCx.x2, hCx.x4, hCx.x7, hCx.x8, hCx.x9, hCx.x11, hCx.f0, hCx.f1, hCx.f2, hCx.p0, hCx.p1, hCx.p2, hCx.p3, hCx.l1, hCx.l2, hCx.l3, hCx.l4, hCx.d0, hCx.d1, hCx.d2, hCx.g1, hCx.g2, hCx.g3, hCx.g4, hCx.k1, hCx.k2, hCx.k3, hCx.k4, n10, t3, htk, hb, tkb, tf, if_pos n0, kd_RD, ln_RD, kd_TK, ln_TK]
        exact Iff.rfl
    · have n0 : ¬ _ := fun z => q (i0.mp z)
      rw [if_neg q]
      have hR := c_readTerm (xs := xs) (d := d - 1) hg hC hT (by omega) H
      cases hr : ptm_ (stk_ B N) (vlk_ B N) L.length k with
      | inl y =>
        obtain ⟨c, k1⟩ := y
        rw [hr] at hR
        obtain ⟨x', a1, a2, a3, a4, a5⟩ := hR
        dsimp only at a5
        have hC2 : CS_ x' := a1.cs g5 hC
        have hpl : hI_ x' 30459984 k1 = Int32.ofNat (ps_ B N k1) := by
          rw [a1.1 30459984 (fun z => (g3 _ z).1 rfl)]
          exact (hT.2.2.2.2.2 k1 (by omega)).2.1
        refine ⟨x', a1, fun L' hL => (by cases hL), fun Q => ?_⟩
        rw [s38_31]
        simp (disch := first | omega | assumption | decide | (apply bT_; decide)) only [s38_0, s38_1, s38_2, s38_3, s38_6, s38_7, s38_8, s38_11, s38_12, s38_15, s38_18, s38_19, s38_20, s38_23, s38_24, s38_25, s38_28, s38_29, s38_33, s38_35, s38_38, s38_39, s38_42, s38_43, s38_46, s38_47, s38_50, s38_53, s38_54, s38_57, s38_60, s38_61, s38_64, s38_66, s38_67, s38_70, s38_71, s38_74, s38_75, s38_76, s38_77, s38_81, s38_85, K_v, K_0, acI, acA, acJ, acX, List.map_cons, List.map_nil, List.sum_cons, List.sum_nil, true_and, and_true, posT, b2_0, b2_1, bft, true_or, or_true, Nat.zero_le, Nat.reduceAdd, Nat.reduceLeDiff, hI_uI, hL_uI, hR_uI, nx_uI, sl_uI, hI_uL, hL_uL, hR_uL, nx_uL, sl_uL, hI_uR, hL_uR, hR_uR, nx_uR, sl_uR, st_eq, if_true, if_false, eq_self, Nat.reduceEqDiff, Nat.reduceMul, reduceIte, kdT, ixT, w_cl, w_ti, w_s1, w_a, w_m12, w_m8, w_m3, w_m4, hCx.x0, hCx.x2, hCx.x4, hCx.x7, hCx.x8, hCx.x9, hCx.x11, hCx.f0, hCx.f1, hCx.f2, hCx.p0, hCx.p1, hCx.p2, hCx.p3, hCx.l1, hCx.l2, hCx.l3, hCx.l4, hCx.d0, hCx.d1, hCx.d2, hCx.g1, hCx.g2, hCx.g3, hCx.g4, hCx.k1, hCx.k2, hCx.k3, hCx.k4, hC2.x0, hC2.x2, hC2.x4, hC2.x7, hC2.x8, hC2.x9, hC2.x11, hC2.f0, hC2.f1, hC2.f2, hC2.p0, hC2.p1, hC2.p2, hC2.p3, hC2.l1, hC2.l2, hC2.l3, hC2.l4, hC2.d0, hC2.d1, hC2.d2, hC2.g1, hC2.g2, hC2.g3, hC2.g4, hC2.k1, hC2.k2, hC2.k3, hC2.k4, n10, t3, htk, hb, tkb, tf, if_neg n0, a5, a2, a4, hpl, kd_RD, ln_RD, kd_TK, ln_TK, kd_PLC, ln_PLC]
        exact Iff.rfl
      | inr y =>
        obtain ⟨t, k1⟩ := y
        rw [hr] at hR
        obtain ⟨x', a1, a2⟩ := hR
        dsimp only at a2
        obtain ⟨y, b1, b2, b3⟩ := ih (i + 1) k1 (L ++ [t]) x' (by omega) a1
        refine ⟨y, b1, b2, fun Q => Iff.trans ?_ (b3 Q)⟩
        rw [s38_31]
        simp (disch := first | omega | assumption | decide | (apply bT_; decide)) only [s38_0, s38_1, s38_2, s38_3, s38_6, s38_7, s38_8, s38_11, s38_12, s38_15, s38_18, s38_19, s38_20, s38_23, s38_24, s38_25, s38_28, s38_29, s38_33, s38_35, s38_38, s38_39, s38_42, s38_43, s38_46, s38_47, s38_50, s38_53, s38_54, s38_57, s38_61, s38_64, s38_66, s38_67, s38_70, s38_71, s38_74, s38_75, s38_76, s38_77, s38_78, s38_81, s38_85, K_v, K_0, acI, acA, acJ, acX, List.map_cons, List.map_nil, List.sum_cons, List.sum_nil, true_and, and_true, posT, b2_0, b2_1, bft, true_or, or_true, Nat.zero_le, Nat.reduceAdd, Nat.reduceLeDiff, hI_uI, hL_uI, hR_uI, nx_uI, sl_uI, hI_uL, hL_uL, hR_uL, nx_uL, sl_uL, hI_uR, hL_uR, hR_uR, nx_uR, sl_uR, st_eq, if_true, if_false, eq_self, Nat.reduceEqDiff, Nat.reduceMul, reduceIte, kdT, ixT, w_cl, w_ti, w_s1, w_a, w_m12, w_m8, w_m3, w_m4, hCx.x0, hCx.x2, hCx.x4, hCx.x7, hCx.x8, hCx.x9, hCx.x11, hCx.f0, hCx.f1, hCx.f2, hCx.p0, hCx.p1, hCx.p2, hCx.p3, hCx.l1, hCx.l2, hCx.l3, hCx.l4, hCx.d0, hCx.d1, hCx.d2, hCx.g1, hCx.g2, hCx.g3, hCx.g4, hCx.k1, hCx.k2, hCx.k3, hCx.k4, n10, t3, htk, hb, tkb, tf, if_neg n0, a2, k10, kd_RD, ln_RD, kd_TK, ln_TK]
/-- all of a text -/
def ptx_ (B : Nat → Int32) (N : Nat) : (Nat × Nat) ⊕ List Trm_ := pts_ (stk_ B N) (vlk_ B N) 11 [] 0
theorem c_read (hg : GC_ cG cW cN cP cT) (hC : CS_ h) (hT : TX_ B N 29673489 h) (hd : 32 ≤ d) : ∃ h', KT_ [29884421, 30459984, 30722128, cG, cN, cP, cT] [30197846, cW] h h' ∧ (∀ L, ptx_ B N = .inr L → AG_ cG cW cN cP cT L h') ∧ Do_ xs d 38 [vA (some 29884421), vA (some 29673489), vI (Int32.ofNat N), vA (some cG), vX 0] h (some (some (vI (rda_ B N (ptx_ B N))))) h' := by
  obtain ⟨g1, g2, g3, g4, g5, g6, g7⟩ := hg.ne
  have hge : kd_ cG = 1 ∧ cG ≠ 29884421 := by rcases hg with ⟨rfl, rfl, rfl, rfl, rfl⟩ | ⟨rfl, rfl, rfl, rfl, rfl⟩ <;> decide
  obtain ⟨h1, f, a1, a2, a3⟩ := c_scan (xs := xs) (d := d - 1) hC hT (by omega)
  have hC1 : CS_ h1 := a1.cs (by decide) hC
  -- the heap at the loop
  have hx : ∃ x, x = uI_ (uI_ (uI_ (uI_ (uR_ h1 29884421 (st_ (hR_ h1 29884421) 6 (some cG))) cG (st_ (hI_ h1 cG) 0 0)) cG (st_ (st_ (hI_ h1 cG) 0 0) 5 0)) 29884421 (st_ (hI_ h1 29884421) 4 0)) 29884421 (st_ (st_ (hI_ h1 29884421) 4 0) 5 1) := ⟨_, rfl⟩
  obtain ⟨x, hx⟩ := hx
  have hk : KT_ [29884421, cG, cN, cP, cT] [cW] h1 x := by
    rw [hx]
    refine KT_.uI (KT_.uI (KT_.uI (KT_.uI ?_ (by simp)) (by simp)) (by simp)) (by simp)
    exact ⟨fun _ _ => rfl, rfl, fun a j _ r => by
      rw [hR_uR]
      by_cases q : a = 29884421
      · rw [if_pos q, st_eq, if_neg (r q), q]
      · rw [if_neg q], rfl, rfl⟩
  have hI : RT_ h1 cG cW cN cP cT f 0 [] x := by
    refine ⟨hk, ?_, ?_, Nat.zero_le _, ?_, ?_, ⟨?_, by decide, fun i hi => absurd hi (Nat.not_lt_zero _), fun i hi => absurd hi (Nat.not_lt_zero _)⟩, ?_, by decide⟩
    · rw [hx]; simp only [hI_uI, hL_uI, hR_uI, nx_uI, sl_uI, hI_uL, hL_uL, hR_uL, nx_uL, sl_uL, hI_uR, hL_uR, hR_uR, nx_uR, sl_uR, st_eq, if_true, if_false, eq_self, Nat.reduceEqDiff, Nat.reduceMul, reduceIte, kdT, ixT, w_cl, w_ti, w_s1, w_a, w_m12, w_m8, w_m3, w_m4]; exact a2.2.1
    · rw [hx]; simp only [hI_uI, hL_uI, hR_uI, nx_uI, sl_uI, hI_uL, hL_uL, hR_uL, nx_uL, sl_uL, hI_uR, hL_uR, hR_uR, nx_uR, sl_uR, st_eq, if_true, if_false, eq_self, Nat.reduceEqDiff, Nat.reduceMul, reduceIte, kdT, ixT, w_cl, w_ti, w_s1, w_a, w_m12, w_m8, w_m3, w_m4]; rfl
    · rw [hx]; simp only [hI_uI, hL_uI, hR_uI, nx_uI, sl_uI, hI_uL, hL_uL, hR_uL, nx_uL, sl_uL, hI_uR, hL_uR, hR_uR, nx_uR, sl_uR, st_eq, if_true, if_false, eq_self, Nat.reduceEqDiff, Nat.reduceMul, reduceIte, kdT, ixT, w_cl, w_ti, w_s1, w_a, w_m12, w_m8, w_m3, w_m4]
    · rw [hx]; simp only [hI_uI, hL_uI, hR_uI, nx_uI, sl_uI, hI_uL, hL_uL, hR_uL, nx_uL, sl_uL, hI_uR, hL_uR, hR_uR, nx_uR, sl_uR, st_eq, if_true, if_false, eq_self, Nat.reduceEqDiff, Nat.reduceMul, reduceIte, kdT, ixT, w_cl, w_ti, w_s1, w_a, w_m12, w_m8, w_m3, w_m4]
    · rw [hx]; simp only [hI_uI, hL_uI, hR_uI, nx_uI, sl_uI, hI_uL, hL_uL, hR_uL, nx_uL, sl_uL, hI_uR, hL_uR, hR_uR, nx_uR, sl_uR, st_eq, if_true, if_false, eq_self, Nat.reduceEqDiff, Nat.reduceMul, reduceIte, kdT, ixT, w_cl, w_ti, w_s1, w_a, w_m12, w_m8, w_m3, w_m4, hge.2]; rfl
    · rw [hx]; simp only [hI_uI, hL_uI, hR_uI, nx_uI, sl_uI, hI_uL, hL_uL, hR_uL, nx_uL, sl_uL, hI_uR, hL_uR, hR_uR, nx_uR, sl_uR, st_eq, if_true, if_false, eq_self, Nat.reduceEqDiff, Nat.reduceMul, reduceIte, kdT, ixT, w_cl, w_ti, w_s1, w_a, w_m12, w_m8, w_m3, w_m4, hge.2]; rfl
  obtain ⟨x', b1, b2, b3⟩ := c_readL (xs := xs) (d := d) (tp := vA (some 29673489)) (g := vA (some cG)) (nn := Int32.ofNat N) hg hC1 a2 hd 11 0 0 [] x (by omega) hI
  refine ⟨x', (a1.mono (by intro a ha; simp only [List.mem_cons, List.not_mem_nil, or_false] at ha ⊢; rcases ha with z | z | z <;> simp [z]) (by simp)).tr (b1.mono (by intro a ha; simp only [List.mem_cons, List.not_mem_nil, or_false] at ha ⊢; rcases ha with z | z | z | z | z <;> simp [z]) (by simp)), b2, fun Q => Iff.trans ?_ (b3 Q)⟩
  have hem : ∀ (y : AH) (Q : OU_ → AH → Prop), V_ xs (d - 1) 9 0 [vA (some cG)] [] y Q ↔ Q (some none) (uI_ (uI_ y cG (st_ (hI_ y cG) 0 0)) cG (st_ (hI_ (uI_ y cG (st_ (hI_ y cG) 0 0)) cG) 5 0)) := by
    intro y Q
    simp (disch := first | omega | assumption | decide | (apply bT_; decide)) only [s9_0, s9_1, s9_2, s9_5, s9_6, s9_7, s9_10, K_v, K_0, acI, acA, acJ, acX, List.map_cons, List.map_nil, List.sum_cons, List.sum_nil, true_and, and_true, posT, b2_0, b2_1, bft, true_or, or_true, Nat.zero_le, Nat.reduceAdd, Nat.reduceLeDiff, hge.1]
  rw [hx]
  have hne := hge.2
  have hne' : ¬ (29884421 = cG) := fun z => hge.2 z.symm
  simp (disch := first | omega | assumption | decide | (apply bT_; decide)) only [s38_0, s38_1, s38_2, s38_3, s38_6, s38_7, s38_8, s38_11, s38_12, s38_15, s38_18, s38_19, s38_20, s38_23, s38_24, s38_25, s38_28, s38_29, s38_33, s38_35, s38_38, s38_39, s38_42, s38_43, s38_46, s38_47, s38_50, s38_53, s38_54, s38_57, s38_60, s38_61, s38_64, s38_66, s38_67, s38_70, s38_71, s38_74, s38_75, s38_76, s38_77, s38_78, s38_81, s38_84, s38_85, K_v, K_0, acI, acA, acJ, acX, List.map_cons, List.map_nil, List.sum_cons, List.sum_nil, true_and, and_true, posT, b2_0, b2_1, bft, true_or, or_true, Nat.zero_le, Nat.reduceAdd, Nat.reduceLeDiff, hI_uI, hL_uI, hR_uI, nx_uI, sl_uI, hI_uL, hL_uL, hR_uL, nx_uL, sl_uL, hI_uR, hL_uR, hR_uR, nx_uR, sl_uR, st_eq, if_true, if_false, eq_self, Nat.reduceEqDiff, Nat.reduceMul, reduceIte, kdT, ixT, w_cl, w_ti, w_s1, w_a, w_m12, w_m8, w_m3, w_m4, a3, hem, hge.1, hne, hne', kd_RD, ln_RD]
  exact Iff.rfl
end CTB
