/-! the model: casts, forgetsOld, takes -/
section MFT
variable {xs : Nat → Int32} {d : Nat} {h : AH} {Q : OU_ → AH → Prop} {P : PS} {na : Nat} {F G : Nat → Nat → Int32} {σ T U p a s : Nat} {Hs Hs' O : Nat → Int32}
theorem c_mcasts (hM : MS_ h) (hA : MA_ na F G h) (hP : MP_ P h) (hc : MC_ σ Hs O T U h) (hD : PD_ P) (hp : p < 12) (hd : 8 ≤ d) : ∃ h' T' U' σ' Hs' o, KM_ [38535696] [22, 26, 27] h h' ∧ MC_ σ' Hs' O T' U' h' ∧ BO_ o (EL_ F G P p 0 Hs' O na (2 ^ qr_ P p)) ∧ (∀ b c, o = some (b, c) → (hI_ h' 33554440 26 = Int32.ofNat b ∧ hI_ h' 33554440 27 = Int32.ofNat c) ∧ b ≤ 200 ∧ c ≤ 8 ∧ ∀ r, r < qr_ P p → fc_ F G P p O na b c Hs' r) ∧ Do_ xs d 129 [vA (some 33554440), vI (Int32.ofNat p), vX 0, vX 0] h (some (some (vI (b2_ o.isSome)))) h' := by
  have h8 := hP.2.1.2.2.1 p
  have kf0 : KM_ [38535696] [22, 26, 27] h (uI_ h 33554440 (st_ (hI_ h 33554440) 22 (Int32.ofNat 0))) := KM_.rf.uM (by decide)
  obtain ⟨h1, T1, U1, o, w1, w2, w3, w4, w5⟩ := c_mfinds (xs := xs) (d := d - 1) (kf0.ms hM) (kf0.ma (by decide) (by decide) hA) (kf0.mp (by decide) (by decide) hP) (hc.set (τ := 0) (by omega)) hD hp (by omega)
  have kf1 : KM_ [38535696] [22, 26, 27] h h1 := kf0.tr (w1.wk (fun a z => by cases z) (by decide))
  have w6 : ∀ Q, V_ xs (d - 1) 127 0 [vA (some 33554440), vI (Int32.ofNat p), vX 0, vX 0, vX 0, vX 0] [] (uI_ h 33554440 (st_ (hI_ h 33554440) 22 0)) Q ↔ Q (some (some (vI (b2_ o.isSome)))) h1 := w5
  cases o with
  | none =>
    refine ⟨h1, T1, U1, 0, Hs, none, kf1, w2, w3, fun b c e => (by cases e), fun Q => ?_⟩
    have w7 : ∀ Q, V_ xs (d - 1) 127 0 [vA (some 33554440), vI (Int32.ofNat p), vX 0, vX 0, vX 0, vX 0] [] (uI_ h 33554440 (st_ (hI_ h 33554440) 22 0)) Q ↔ Q (some (some (vI 0))) h1 := w6
    simp (disch := first | omega | assumption | decide | (apply bT_; decide)) only [s129_0, s129_1, s129_2, s129_5, s129_6, s129_7, s129_10, s129_13, s129_14, s129_15, s129_16, s129_18, s129_19, s129_22, s129_23, s129_24, s129_27, s129_28, s129_29, s129_30, s129_31, s129_34, s129_35, s129_36, s129_37, s129_40, s129_41, s129_42, s129_43, s129_44, s129_45, s129_48, s129_51, s129_52, s129_53, s129_54, s129_55, s129_58, s129_61, s129_62, s129_63, s129_66, s129_69, s129_72, s129_73, s129_76, s129_77, s129_78, s129_79, s129_82, s129_83, s129_84, s129_87, s129_90, s129_91, s129_94, s129_95, s129_96, s129_97, s129_100, s129_103, s129_104, K_v, K_0, acI, acA, acJ, acX, List.map_cons, List.map_nil, List.sum_cons, List.sum_nil, true_and, and_true, posT, b2_0, b2_1, bft, true_or, or_true, Nat.zero_le, Nat.reduceAdd, Nat.reduceLeDiff, hI_uI, hL_uI, hR_uI, nx_uI, sl_uI, hI_uL, hL_uL, hR_uL, nx_uL, sl_uL, hI_uR, hL_uR, hR_uR, nx_uR, sl_uR, st_eq, if_true, if_false, eq_self, Nat.reduceEqDiff, Nat.reduceMul, reduceIte, kdT, ixT, w_cl, w_ti, w_s1, w_a, w_m12, w_m8, w_m3, w_m4, w7, kd_M]
    exact Iff.rfl
  | some w =>
    obtain ⟨b, c⟩ := w
    obtain ⟨j1, j2, j3, j4⟩ := w4 b c rfl
    have hmin : ∀ x y, EL_ F G P p 0 Hs O na (2 ^ qr_ P p) x y → b ≤ x := fun x y hv => by have := w3.2 x y hv; omega
    obtain ⟨⟨z, T2, U2, σ2, Hz, v3⟩, ⟨z1, z2, z3, z4⟩, z5⟩ := loopX_ (P := fun Q r (x : AH × Nat × Nat × Nat × (Nat → Int32) × AV) => V_ xs d 129 17 [vA (some 33554440), vI (Int32.ofNat p), vI (Int32.ofNat r), x.2.2.2.2.2] [] x.1 Q) (n := qr_ P p) (fun r x => KM_ [38535696] [22, 26, 27] h x.1 ∧ MC_ x.2.2.2.1 x.2.2.2.2.1 O x.2.1 x.2.2.1 x.1 ∧ (hI_ x.1 33554440 26 = Int32.ofNat b ∧ hI_ x.1 33554440 27 = Int32.ofNat c) ∧ ∀ r', r' < r → fc_ F G P p O na b c x.2.2.2.2.1 r') (fun r x hr hI => by
      obtain ⟨x, T2, U2, σ2, Hx, v3⟩ := x
      obtain ⟨i1, i2, i3, i4⟩ := hI
      dsimp only at i1 i2 i3 i4
      have hMx := i1.ms hM
      have hPx := i1.mp (by decide) (by decide) hP
      have g0 := (hPx.2.2.2.1 p hp).1
      have hmin' : ∀ x y, EL_ F G P p 0 Hx O na (2 ^ qr_ P p) x y → b ≤ x := fun x y hv => hmin x y ((EL_congr (fun j hj => absurd hj (Nat.not_lt_zero _))).mp hv)
      obtain ⟨y, T3, U3, v, a', g1, g2, g3, g4, g5⟩ := c_mcast1 (xs := xs) (d := d) (Hs := Hx) (b := b) (c := c) (r := r) hA hM hP hD hp hr ⟨j3, j4⟩ hmin' (by omega) na 0 T2 U2 (uI_ (uI_ x 33554440 (st_ (hI_ x 33554440) 22 (Int32.ofNat (r + 1)))) 38535696 (st_ (hI_ x 38535696) r 0)) (by omega) ((i1.uM (by decide)).uI (Or.inr (Or.inr ⟨by decide, by decide⟩))) (by
        have := (i2.set (τ := r + 1) (by omega)).has (r := r) (v := 0)
        simp only [hI_uI, hL_uI, hR_uI, nx_uI, sl_uI, hI_uL, hL_uL, hR_uL, nx_uL, sl_uL, hI_uR, hL_uR, hR_uR, nx_uR, sl_uR, st_eq, if_true, if_false, eq_self, Nat.reduceEqDiff, Nat.reduceMul, reduceIte, kdT, ixT, w_cl, w_ti, w_s1, w_a, w_m12, w_m8, w_m3, w_m4] at this
        exact this) (by simp only [hI_uI, hL_uI, hR_uI, nx_uI, sl_uI, hI_uL, hL_uL, hR_uL, nx_uL, sl_uL, hI_uR, hL_uR, hR_uR, nx_uR, sl_uR, st_eq, if_true, if_false, eq_self, Nat.reduceEqDiff, Nat.reduceMul, reduceIte, kdT, ixT, w_cl, w_ti, w_s1, w_a, w_m12, w_m8, w_m3, w_m4]; exact i3) (fun a' ha' => absurd ha' (Nat.not_lt_zero _))
      refine ⟨(y, T3, U3, r + 1, up1_ Hx r v, a'), ⟨g1, g2, g3, fun r' hr' => ?_⟩, fun Q => ?_⟩
      · dsimp only
        by_cases e : r' = r
        · rw [e]; exact g4
        · exact fc_congr (fun j hj => by unfold up1_; rw [if_neg (by omega)]) (i4 r' (by omega))
      · have g6 : ∀ Q, V_ xs d 129 43 [vA (some 33554440), vI (Int32.ofNat p), vI (Int32.ofNat r), vI 0] [] (uI_ (uI_ x 33554440 (st_ (hI_ x 33554440) 22 (Int32.ofNat (r + 1)))) 38535696 (st_ (hI_ x 38535696) r 0)) Q ↔ _ := g5
        dsimp only
        rw [s129_17]
        simp (disch := first | omega | assumption | decide | (apply bT_; decide)) only [s129_0, s129_1, s129_2, s129_5, s129_6, s129_7, s129_10, s129_13, s129_14, s129_15, s129_16, s129_18, s129_19, s129_22, s129_23, s129_24, s129_27, s129_28, s129_29, s129_30, s129_31, s129_34, s129_35, s129_36, s129_37, s129_40, s129_41, s129_42, s129_44, s129_45, s129_48, s129_51, s129_52, s129_53, s129_54, s129_55, s129_58, s129_61, s129_62, s129_63, s129_66, s129_69, s129_72, s129_73, s129_76, s129_77, s129_78, s129_79, s129_82, s129_83, s129_84, s129_87, s129_90, s129_91, s129_94, s129_95, s129_96, s129_97, s129_100, s129_104, K_v, K_0, acI, acA, acJ, acX, List.map_cons, List.map_nil, List.sum_cons, List.sum_nil, true_and, and_true, posT, b2_0, b2_1, bft, true_or, or_true, Nat.zero_le, Nat.reduceAdd, Nat.reduceLeDiff, hI_uI, hL_uI, hR_uI, nx_uI, sl_uI, hI_uL, hL_uL, hR_uL, nx_uL, sl_uL, hI_uR, hL_uR, hR_uR, nx_uR, sl_uR, st_eq, if_true, if_false, eq_self, Nat.reduceEqDiff, Nat.reduceMul, reduceIte, kdT, ixT, w_cl, w_ti, w_s1, w_a, w_m12, w_m8, w_m3, w_m4, hMx.r2, hMx.r3, hMx.r4, hMx.r5, hMx.r6, hMx.r7, hMx.r9, hMx.r10, hMx.r11, hMx.r12, hMx.r13, hMx.r14, hMx.r15, hMx.r16, hMx.r17, hMx.r18, hMx.r20, hMx.r21, hMx.r23, hMx.r29, hMx.r30, hMx.r35, hMx.r36, hMx.r37, hMx.r38, hMx.r40, hMx.r42, hMx.r43, hMx.r44, hMx.r45, hMx.r46, hMx.r47, g0, hr, w_lt, kd_M, ln_M, kd_mRoles, ln_mRoles, kd_mHas, ln_mHas]
        refine (g6 Q).trans ?_
        rw [s129_97]
        simp (disch := first | omega | assumption | decide | (apply bT_; decide)) only [s129_0, s129_1, s129_2, s129_5, s129_6, s129_7, s129_10, s129_13, s129_14, s129_15, s129_16, s129_18, s129_19, s129_22, s129_23, s129_24, s129_27, s129_28, s129_29, s129_30, s129_31, s129_34, s129_35, s129_36, s129_37, s129_40, s129_41, s129_42, s129_43, s129_44, s129_45, s129_48, s129_51, s129_52, s129_53, s129_54, s129_55, s129_58, s129_61, s129_62, s129_63, s129_66, s129_69, s129_72, s129_73, s129_76, s129_77, s129_78, s129_79, s129_82, s129_83, s129_84, s129_87, s129_90, s129_91, s129_94, s129_95, s129_96, s129_100, s129_103, s129_104, K_v, K_0, acI, acA, acJ, acX, List.map_cons, List.map_nil, List.sum_cons, List.sum_nil, true_and, and_true, posT, b2_0, b2_1, bft, true_or, or_true, Nat.zero_le, Nat.reduceAdd, Nat.reduceLeDiff, hI_uI, hL_uI, hR_uI, nx_uI, sl_uI, hI_uL, hL_uL, hR_uL, nx_uL, sl_uL, hI_uR, hL_uR, hR_uR, nx_uR, sl_uR, st_eq, if_true, if_false, eq_self, Nat.reduceEqDiff, Nat.reduceMul, reduceIte, kdT, ixT, w_cl, w_ti, w_s1, w_a, w_m12, w_m8, w_m3, w_m4]) (qr_ P p) 0 (h1, T1, U1, 0, Hs, vX 0) (by omega) ⟨kf1, w2, ⟨j1, j2⟩, fun r' hr' => absurd hr' (Nat.not_lt_zero _)⟩
    dsimp only at z1 z2 z3 z4
    refine ⟨z, T2, U2, σ2, Hz, some (b, c), z1, z2, w3.iff (fun x y => EL_congr (fun j hj => absurd hj (Nat.not_lt_zero _))), fun b' c' e => by cases e; exact ⟨z3, j3, j4, z4⟩, fun Q => ?_⟩
    have w7 : ∀ Q, V_ xs (d - 1) 127 0 [vA (some 33554440), vI (Int32.ofNat p), vX 0, vX 0, vX 0, vX 0] [] (uI_ h 33554440 (st_ (hI_ h 33554440) 22 0)) Q ↔ Q (some (some (vI 1))) h1 := w6
    have n2 : ¬ ((1 : Int32) = 0) := by decide
    have hMz := z1.ms hM
    have g0 := ((z1.mp (by decide) (by decide) hP).2.2.2.1 p hp).1
    have nl : ¬ (qr_ P p < qr_ P p) := by omega
    simp (disch := first | omega | assumption | decide | (apply bT_; decide)) only [s129_0, s129_1, s129_2, s129_5, s129_6, s129_7, s129_10, s129_13, s129_14, s129_15, s129_16, s129_18, s129_19, s129_22, s129_23, s129_24, s129_27, s129_28, s129_29, s129_30, s129_31, s129_34, s129_35, s129_36, s129_37, s129_40, s129_41, s129_42, s129_43, s129_44, s129_45, s129_48, s129_51, s129_52, s129_53, s129_54, s129_55, s129_58, s129_61, s129_62, s129_63, s129_66, s129_69, s129_72, s129_73, s129_76, s129_77, s129_78, s129_79, s129_82, s129_83, s129_84, s129_87, s129_90, s129_91, s129_94, s129_95, s129_96, s129_97, s129_100, s129_103, s129_104, K_v, K_0, acI, acA, acJ, acX, List.map_cons, List.map_nil, List.sum_cons, List.sum_nil, true_and, and_true, posT, b2_0, b2_1, bft, true_or, or_true, Nat.zero_le, Nat.reduceAdd, Nat.reduceLeDiff, hI_uI, hL_uI, hR_uI, nx_uI, sl_uI, hI_uL, hL_uL, hR_uL, nx_uL, sl_uL, hI_uR, hL_uR, hR_uR, nx_uR, sl_uR, st_eq, if_true, if_false, eq_self, Nat.reduceEqDiff, Nat.reduceMul, reduceIte, kdT, ixT, w_cl, w_ti, w_s1, w_a, w_m12, w_m8, w_m3, w_m4, w7, n2, kd_M]
    refine (show V_ xs d 129 17 [vA (some 33554440), vI (Int32.ofNat p), vI (Int32.ofNat 0), vX 0] [] h1 Q ↔ _ from z5 Q).trans ?_
    dsimp only
    rw [s129_17]
    simp (disch := first | omega | assumption | decide | (apply bT_; decide)) only [s129_0, s129_1, s129_2, s129_5, s129_6, s129_7, s129_10, s129_13, s129_14, s129_15, s129_16, s129_18, s129_19, s129_22, s129_23, s129_24, s129_28, s129_29, s129_30, s129_31, s129_34, s129_35, s129_36, s129_37, s129_40, s129_41, s129_42, s129_43, s129_44, s129_45, s129_48, s129_51, s129_52, s129_53, s129_54, s129_55, s129_58, s129_61, s129_62, s129_63, s129_66, s129_69, s129_72, s129_73, s129_76, s129_77, s129_78, s129_79, s129_82, s129_83, s129_84, s129_87, s129_90, s129_91, s129_94, s129_95, s129_96, s129_97, s129_100, s129_103, s129_104, K_v, K_0, acI, acA, acJ, acX, List.map_cons, List.map_nil, List.sum_cons, List.sum_nil, true_and, and_true, posT, b2_0, b2_1, bft, true_or, or_true, Nat.zero_le, Nat.reduceAdd, Nat.reduceLeDiff, hI_uI, hL_uI, hR_uI, nx_uI, sl_uI, hI_uL, hL_uL, hR_uL, nx_uL, sl_uL, hI_uR, hL_uR, hR_uR, nx_uR, sl_uR, st_eq, if_true, if_false, eq_self, Nat.reduceEqDiff, Nat.reduceMul, reduceIte, kdT, ixT, w_cl, w_ti, w_s1, w_a, w_m12, w_m8, w_m3, w_m4, hMz.r2, hMz.r3, hMz.r4, hMz.r5, hMz.r6, hMz.r7, hMz.r9, hMz.r10, hMz.r11, hMz.r12, hMz.r13, hMz.r14, hMz.r15, hMz.r16, hMz.r17, hMz.r18, hMz.r20, hMz.r21, hMz.r23, hMz.r29, hMz.r30, hMz.r35, hMz.r36, hMz.r37, hMz.r38, hMz.r40, hMz.r42, hMz.r43, hMz.r44, hMz.r45, hMz.r46, hMz.r47, g0, nl, w_lt, kd_M, ln_M, kd_mRoles, ln_mRoles]
    exact Iff.rfl
theorem MC_.old {f : Nat → Int32} (H : MC_ σ Hs O T U h) : MC_ σ Hs f T U (uI_ h 38273552 f) := by
  obtain ⟨e1, e2, e3, e4, e5, e6, e7⟩ := H
  exact ⟨by simp only [hI_uI, hL_uI, hR_uI, nx_uI, sl_uI, hI_uL, hL_uL, hR_uL, nx_uL, sl_uL, hI_uR, hL_uR, hR_uR, nx_uR, sl_uR, st_eq, if_true, if_false, eq_self, Nat.reduceEqDiff, Nat.reduceMul, reduceIte, kdT, ixT, w_cl, w_ti, w_s1, w_a, w_m12, w_m8, w_m3, w_m4]; exact e1, e2, fun q hq => by simp only [hI_uI, hL_uI, hR_uI, nx_uI, sl_uI, hI_uL, hL_uL, hR_uL, nx_uL, sl_uL, hI_uR, hL_uR, hR_uR, nx_uR, sl_uR, st_eq, if_true, if_false, eq_self, Nat.reduceEqDiff, Nat.reduceMul, reduceIte, kdT, ixT, w_cl, w_ti, w_s1, w_a, w_m12, w_m8, w_m3, w_m4]; exact e3 q hq, fun q hq => by simp only [hI_uI, hL_uI, hR_uI, nx_uI, sl_uI, hI_uL, hL_uL, hR_uL, nx_uL, sl_uL, hI_uR, hL_uR, hR_uR, nx_uR, sl_uR, st_eq, if_true, if_false, eq_self, Nat.reduceEqDiff, Nat.reduceMul, reduceIte, kdT, ixT, w_cl, w_ti, w_s1, w_a, w_m12, w_m8, w_m3, w_m4], e5, e6, e7⟩
theorem c_mforgets (hM : MS_ h) : ∃ f, (∀ r, r < 8 → f r = -1) ∧ Do_ xs d 130 [vA (some 33554440), vX 0] h (some none) (uI_ h 38273552 f) := by
  obtain ⟨f, k1, k2⟩ := loopX_ (P := fun Q t (x : Nat → Int32) => V_ xs d 130 2 [vA (some 33554440), vI (Int32.ofNat t)] [] (uI_ h 38273552 x) Q) (n := 8) (fun t x => ∀ s, s < t → x s = -1) (fun t x ht hI => by
    refine ⟨st_ x t (-1), fun s hs => ?_, fun Q => ?_⟩
    · rw [st_eq]
      by_cases q : s = t
      · rw [if_pos q]
      · rw [if_neg q]; exact hI s (by omega)
    · have i8 : Int32.ofNat t < 8 := (w_lt (b := 8) (by omega) (by omega)).mpr ht
      rw [s130_2]
      simp (disch := first | omega | assumption | decide | (apply bT_; decide)) only [s130_0, s130_1, s130_3, s130_5, s130_8, s130_9, s130_12, s130_13, s130_14, s130_15, s130_18, s130_21, K_v, K_0, acI, acA, acJ, acX, List.map_cons, List.map_nil, List.sum_cons, List.sum_nil, true_and, and_true, posT, b2_0, b2_1, bft, true_or, or_true, Nat.zero_le, Nat.reduceAdd, Nat.reduceLeDiff, hI_uI, hL_uI, hR_uI, nx_uI, sl_uI, hI_uL, hL_uL, hR_uL, nx_uL, sl_uL, hI_uR, hL_uR, hR_uR, nx_uR, sl_uR, st_eq, if_true, if_false, eq_self, Nat.reduceEqDiff, Nat.reduceMul, reduceIte, kdT, ixT, w_cl, w_ti, w_s1, w_a, w_m12, w_m8, w_m3, w_m4, hM.r2, hM.r3, hM.r4, hM.r5, hM.r6, hM.r7, hM.r9, hM.r10, hM.r11, hM.r12, hM.r13, hM.r14, hM.r15, hM.r16, hM.r17, hM.r18, hM.r20, hM.r21, hM.r23, hM.r29, hM.r30, hM.r35, hM.r36, hM.r37, hM.r38, hM.r40, hM.r42, hM.r43, hM.r44, hM.r45, hM.r46, hM.r47, i8, uI_uI, kd_M, ln_M, kd_mOld, ln_mOld]) 8 0 (hI_ h 38273552) (by omega) (fun s hs => absurd hs (Nat.not_lt_zero _))
  refine ⟨f, k1, fun Q => ?_⟩
  have e12 := k2 Q
  rw [uI_self] at e12
  simp (disch := first | omega | assumption | decide | (apply bT_; decide)) only [s130_0, s130_1, s130_3, s130_5, s130_8, s130_9, s130_12, s130_13, s130_14, s130_15, s130_18, s130_21, K_v, K_0, acI, acA, acJ, acX, List.map_cons, List.map_nil, List.sum_cons, List.sum_nil, true_and, and_true, posT, b2_0, b2_1, bft, true_or, or_true, Nat.zero_le, Nat.reduceAdd, Nat.reduceLeDiff, hI_uI, hL_uI, hR_uI, nx_uI, sl_uI, hI_uL, hL_uL, hR_uL, nx_uL, sl_uL, hI_uR, hL_uR, hR_uR, nx_uR, sl_uR, st_eq, if_true, if_false, eq_self, Nat.reduceEqDiff, Nat.reduceMul, reduceIte, kdT, ixT, w_cl, w_ti, w_s1, w_a, w_m12, w_m8, w_m3, w_m4]
  refine (show V_ xs d 130 2 [vA (some 33554440), vI (Int32.ofNat 0)] [] h Q ↔ _ from e12).trans ?_
  have nl : ¬ (Int32.ofNat 8 < 8) := by decide
  rw [s130_2]
  simp (disch := first | omega | assumption | decide | (apply bT_; decide)) only [s130_0, s130_1, s130_3, s130_5, s130_8, s130_9, s130_12, s130_13, s130_14, s130_15, s130_18, s130_21, K_v, K_0, acI, acA, acJ, acX, List.map_cons, List.map_nil, List.sum_cons, List.sum_nil, true_and, and_true, posT, b2_0, b2_1, bft, true_or, or_true, Nat.zero_le, Nat.reduceAdd, Nat.reduceLeDiff, hI_uI, hL_uI, hR_uI, nx_uI, sl_uI, hI_uL, hL_uL, hR_uL, nx_uL, sl_uL, hI_uR, hL_uR, hR_uR, nx_uR, sl_uR, st_eq, if_true, if_false, eq_self, Nat.reduceEqDiff, Nat.reduceMul, reduceIte, kdT, ixT, w_cl, w_ti, w_s1, w_a, w_m12, w_m8, w_m3, w_m4, nl]
theorem c_mtakes (hM : MS_ h) (hP : MP_ P h) (hc : MC_ σ Hs O T U h) (hp : p < 12) : ∃ f, (∀ r, r < 8 → f r = if r < qr_ P p then Hs r else -1) ∧ Do_ xs d 131 [vA (some 33554440), vI (Int32.ofNat p), vX 0] h (some none) (uI_ (uI_ h 33554440 (st_ (hI_ h 33554440) 19 (Int32.ofNat p))) 38011408 f) := by
  have h8 := hP.2.1.2.2.1 p
  have g0 := (hP.2.2.2.1 p hp).1
  have c3 := hc.2.2.1
  obtain ⟨f, k1, k2⟩ := loopX_ (P := fun Q t (x : Nat → Int32) => V_ xs d 131 7 [vA (some 33554440), vI (Int32.ofNat p), vI (Int32.ofNat t)] [] (uI_ (uI_ h 33554440 (st_ (hI_ h 33554440) 19 (Int32.ofNat p))) 38011408 x) Q) (n := 8) (fun t x => ∀ s, s < t → x s = if s < qr_ P p then Hs s else -1) (fun t x ht hI => by
    refine ⟨st_ x t (if t < qr_ P p then Hs t else -1), fun s hs => ?_, fun Q => ?_⟩
    · rw [st_eq]
      by_cases q : s = t
      · rw [if_pos q, q]
      · rw [if_neg q]; exact hI s (by omega)
    · have i8 : Int32.ofNat t < 8 := (w_lt (b := 8) (by omega) (by omega)).mpr ht
      have e3 := c3 t ht
      rw [s131_7]
      by_cases q : t < qr_ P p
      · rw [if_pos q]
        simp (disch := first | omega | assumption | decide | (apply bT_; decide)) only [s131_0, s131_1, s131_2, s131_5, s131_6, s131_8, s131_10, s131_13, s131_14, s131_17, s131_18, s131_19, s131_20, s131_23, s131_24, s131_25, s131_28, s131_29, s131_32, s131_33, s131_34, s131_37, s131_38, s131_39, s131_42, K_v, K_0, acI, acA, acJ, acX, List.map_cons, List.map_nil, List.sum_cons, List.sum_nil, true_and, and_true, posT, b2_0, b2_1, bft, true_or, or_true, Nat.zero_le, Nat.reduceAdd, Nat.reduceLeDiff, hI_uI, hL_uI, hR_uI, nx_uI, sl_uI, hI_uL, hL_uL, hR_uL, nx_uL, sl_uL, hI_uR, hL_uR, hR_uR, nx_uR, sl_uR, st_eq, if_true, if_false, eq_self, Nat.reduceEqDiff, Nat.reduceMul, reduceIte, kdT, ixT, w_cl, w_ti, w_s1, w_a, w_m12, w_m8, w_m3, w_m4, hM.r2, hM.r3, hM.r4, hM.r5, hM.r6, hM.r7, hM.r9, hM.r10, hM.r11, hM.r12, hM.r13, hM.r14, hM.r15, hM.r16, hM.r17, hM.r18, hM.r20, hM.r21, hM.r23, hM.r29, hM.r30, hM.r35, hM.r36, hM.r37, hM.r38, hM.r40, hM.r42, hM.r43, hM.r44, hM.r45, hM.r46, hM.r47, g0, e3, i8, q, w_lt, uI_uI, kd_M, ln_M, kd_mHand, ln_mHand, kd_mRoles, ln_mRoles, kd_mHas, ln_mHas]
      · rw [if_neg q]
        simp (disch := first | omega | assumption | decide | (apply bT_; decide)) only [s131_0, s131_1, s131_2, s131_5, s131_6, s131_8, s131_10, s131_13, s131_14, s131_17, s131_18, s131_19, s131_20, s131_23, s131_24, s131_25, s131_28, s131_29, s131_32, s131_33, s131_34, s131_37, s131_38, s131_39, s131_42, K_v, K_0, acI, acA, acJ, acX, List.map_cons, List.map_nil, List.sum_cons, List.sum_nil, true_and, and_true, posT, b2_0, b2_1, bft, true_or, or_true, Nat.zero_le, Nat.reduceAdd, Nat.reduceLeDiff, hI_uI, hL_uI, hR_uI, nx_uI, sl_uI, hI_uL, hL_uL, hR_uL, nx_uL, sl_uL, hI_uR, hL_uR, hR_uR, nx_uR, sl_uR, st_eq, if_true, if_false, eq_self, Nat.reduceEqDiff, Nat.reduceMul, reduceIte, kdT, ixT, w_cl, w_ti, w_s1, w_a, w_m12, w_m8, w_m3, w_m4, hM.r2, hM.r3, hM.r4, hM.r5, hM.r6, hM.r7, hM.r9, hM.r10, hM.r11, hM.r12, hM.r13, hM.r14, hM.r15, hM.r16, hM.r17, hM.r18, hM.r20, hM.r21, hM.r23, hM.r29, hM.r30, hM.r35, hM.r36, hM.r37, hM.r38, hM.r40, hM.r42, hM.r43, hM.r44, hM.r45, hM.r46, hM.r47, g0, e3, i8, q, w_lt, uI_uI, kd_M, ln_M, kd_mHand, ln_mHand, kd_mRoles, ln_mRoles, kd_mHas, ln_mHas]) 8 0 (hI_ h 38011408) (by omega) (fun s hs => absurd hs (Nat.not_lt_zero _))
  refine ⟨f, k1, fun Q => ?_⟩
  have e12 := k2 Q
  have es : uI_ (uI_ h 33554440 (st_ (hI_ h 33554440) 19 (Int32.ofNat p))) 38011408 (hI_ h 38011408) = uI_ h 33554440 (st_ (hI_ h 33554440) 19 (Int32.ofNat p)) := by
    have : hI_ h 38011408 = hI_ (uI_ h 33554440 (st_ (hI_ h 33554440) 19 (Int32.ofNat p))) 38011408 := by simp only [hI_uI, hL_uI, hR_uI, nx_uI, sl_uI, hI_uL, hL_uL, hR_uL, nx_uL, sl_uL, hI_uR, hL_uR, hR_uR, nx_uR, sl_uR, st_eq, if_true, if_false, eq_self, Nat.reduceEqDiff, Nat.reduceMul, reduceIte, kdT, ixT, w_cl, w_ti, w_s1, w_a, w_m12, w_m8, w_m3, w_m4]
    rw [this, uI_self]
  rw [es] at e12
  simp (disch := first | omega | assumption | decide | (apply bT_; decide)) only [s131_0, s131_1, s131_2, s131_5, s131_6, s131_8, s131_10, s131_13, s131_14, s131_17, s131_18, s131_19, s131_20, s131_23, s131_24, s131_25, s131_28, s131_29, s131_32, s131_33, s131_34, s131_37, s131_38, s131_39, s131_42, s131_45, K_v, K_0, acI, acA, acJ, acX, List.map_cons, List.map_nil, List.sum_cons, List.sum_nil, true_and, and_true, posT, b2_0, b2_1, bft, true_or, or_true, Nat.zero_le, Nat.reduceAdd, Nat.reduceLeDiff, hI_uI, hL_uI, hR_uI, nx_uI, sl_uI, hI_uL, hL_uL, hR_uL, nx_uL, sl_uL, hI_uR, hL_uR, hR_uR, nx_uR, sl_uR, st_eq, if_true, if_false, eq_self, Nat.reduceEqDiff, Nat.reduceMul, reduceIte, kdT, ixT, w_cl, w_ti, w_s1, w_a, w_m12, w_m8, w_m3, w_m4, kd_M]
  refine (show V_ xs d 131 7 [vA (some 33554440), vI (Int32.ofNat p), vI (Int32.ofNat 0)] [] (uI_ h 33554440 (st_ (hI_ h 33554440) 19 (Int32.ofNat p))) Q ↔ _ from e12).trans ?_
  have nl : ¬ (Int32.ofNat 8 < 8) := by decide
  rw [s131_7]
  simp (disch := first | omega | assumption | decide | (apply bT_; decide)) only [s131_0, s131_1, s131_2, s131_5, s131_6, s131_8, s131_10, s131_13, s131_14, s131_17, s131_18, s131_19, s131_20, s131_23, s131_24, s131_25, s131_28, s131_29, s131_32, s131_33, s131_34, s131_37, s131_38, s131_39, s131_42, s131_45, K_v, K_0, acI, acA, acJ, acX, List.map_cons, List.map_nil, List.sum_cons, List.sum_nil, true_and, and_true, posT, b2_0, b2_1, bft, true_or, or_true, Nat.zero_le, Nat.reduceAdd, Nat.reduceLeDiff, hI_uI, hL_uI, hR_uI, nx_uI, sl_uI, hI_uL, hL_uL, hR_uL, nx_uL, sl_uL, hI_uR, hL_uR, hR_uR, nx_uR, sl_uR, st_eq, if_true, if_false, eq_self, Nat.reduceEqDiff, Nat.reduceMul, reduceIte, kdT, ixT, w_cl, w_ti, w_s1, w_a, w_m12, w_m8, w_m3, w_m4, nl]
end MFT
