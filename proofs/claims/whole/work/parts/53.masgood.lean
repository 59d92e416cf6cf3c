/-! the model: is the best still to be had -/
section MAG
variable {xs : Nat → Int32} {d : Nat} {h : AH} {Q : OU_ → AH → Prop} {P : PS} {na : Nat} {F G : Nat → Nat → Int32} {σ T U p a s : Nat} {Hs O : Nat → Int32}
theorem c_misAsGood {b r : Nat} (hM : MS_ h) (hA : MA_ na F G h) (hP : MP_ P h) (hc : MC_ σ Hs O T U h) (hD : PD_ P) (hp : p < 12) (hb : hI_ h 33554440 26 = Int32.ofNat b ∧ hI_ h 33554440 27 = Int32.ofNat r ∧ b ≤ 200 ∧ r ≤ 8) (hmin : ∀ x y, EL_ F G P p σ Hs O na (2 ^ qr_ P p) x y → b ≤ x) (hd : 6 ≤ d) : ∃ h' T' U' e, KM_ [] [] h h' ∧ MC_ σ Hs O T' U' h' ∧ (e = true ↔ EL_ F G P p σ Hs O na (2 ^ qr_ P p) b r) ∧ Do_ xs d 128 [vA (some 33554440), vI (Int32.ofNat p), vX 0] h (some (some (vI (b2_ e)))) h' := by
  have h8 := hP.2.1.2.2.1 p
  have hq1 : 2 ^ qr_ P p ≤ 2 ^ 8 := Nat.pow_le_pow_right (by omega) h8
  have hsh := w_shl (qr_ P p) (by omega)
  obtain ⟨h1, T', U', w1, w2, w3, w4⟩ := c_mworks (xs := xs) (d := d - 1) hM hA hP hc hD hp (by omega)
  have hM1 := w1.ms hM
  have hP1 := w1.mp (by decide) (by decide) hP
  obtain ⟨-, -, -, -, c5, c6, c7⟩ := id w2
  have kT : kd_ T' = 16 := by rcases c7.l with rfl | rfl <;> rfl
  have lT : ln_ T' = 256 := by rcases c7.l with rfl | rfl <;> rfl
  have g0 := (hP1.2.2.2.1 p hp).1
  obtain ⟨b1, b2, b3, b4⟩ := hb
  have j1 : hI_ h1 33554440 26 = Int32.ofNat b := (w1.2.1 26 (by decide)).trans b1
  have j2 : hI_ h1 33554440 27 = Int32.ofNat r := (w1.2.1 27 (by decide)).trans b2
  let cB : Nat → Bool := fun i => decide ((hI_ h1 T' i).toNatClampNeg < 100) && (igd_ P p σ Hs i && (decide ((hI_ h1 T' i).toNatClampNeg + hc_ P p O i (qr_ P p) = b) && decide (pc_ i = r)))
  have hcB : ∀ i, cB i = (decide ((hI_ h1 T' i).toNatClampNeg < 100) && (igd_ P p σ Hs i && (decide ((hI_ h1 T' i).toNatClampNeg + hc_ P p O i (qr_ P p) = b) && decide (pc_ i = r)))) := fun _ => rfl
  refine ⟨h1, T', U', an_ cB (2 ^ qr_ P p) 0, w1, w2, ?_, fun Q => ?_⟩
  · rw [an_iff]
    constructor
    · rintro ⟨i, -, hi, hci⟩
      rw [hcB] at hci
      simp only [Bool.and_eq_true, decide_eq_true_eq] at hci
      obtain ⟨q1, q2, q3, q4⟩ := hci
      obtain ⟨k, ek, hk⟩ := w3 i (by omega)
      have hk100 : k ≤ 100 := by omega
      rw [ek, w_cl (by omega)] at q1 q3
      rcases hk with ⟨k1, k2⟩ | ⟨k1, k2, k3⟩
      · omega
      · exact ⟨i, k, by omega, k2, q2, q3.symm, q4.symm⟩
    · rintro ⟨i, v, hi, q1, q2, q3, q4⟩
      refine ⟨i, Nat.zero_le _, by omega, ?_⟩
      rw [hcB]
      obtain ⟨k, ek, hk⟩ := w3 i (by omega)
      rcases hk with ⟨k1, k2⟩ | ⟨k1, k2, k3⟩
      · exact absurd q1 (k2 v)
      · have e1 := k3 v q1
        have e2 := hmin _ _ ⟨i, k, hi, k2, q2, rfl, rfl⟩
        rw [ek, w_cl (by omega)]
        simp only [Bool.and_eq_true, decide_eq_true_eq]
        exact ⟨k1, q2, by omega, q4.symm⟩
  · have L := loopE_ (P := fun i => V_ xs d 128 7 [vA (some 33554440), vI (Int32.ofNat p), vI (Int32.ofNat i)] [] h1 Q) (R := Q (some (some (vI 1))) h1) (c := cB) (n := 2 ^ qr_ P p) (fun i hi => by
      have i256 : i < 256 := by omega
      obtain ⟨k, ek, hk⟩ := w3 i hi
      have hk100 : k ≤ 100 := by omega
      have hig := fun Q => c_misGood (xs := xs) (d := d - 1) (Q := Q) hM1 hP1 w2 hp i256
      have hhn := fun Q => c_mhands (xs := xs) (d := d - 1) (Q := Q) (k := k) hM1 hP1 w2 hp i256 ek hk100
      have hbc := fun h Q => c_bitCount (xs := xs) (d := d - 1) (h := h) (Q := Q) i256
      have hhc : hc_ P p O i (qr_ P p) ≤ qr_ P p := hc_le
      have hpc : pc_ i ≤ 8 := pc_le
      have n2 : ¬ ((1 : Int32) = 0) := by decide
      have e0 := hcB i
      rw [ek, w_cl (by omega)] at e0
      rw [e0, s128_7]
      by_cases q1 : k < 100
      · have n1 : Int32.ofNat k < 100 := (w_lt (b := 100) (by omega) (by omega)).mpr q1
        rw [decide_eq_true q1, Bool.true_and]
        cases hg : igd_ P p σ Hs i
        · unfold igd_ at hg
          rw [hg] at hig
          simp (disch := first | omega | assumption | decide | (apply bT_; decide)) only [s128_0, s128_1, s128_2, s128_5, s128_6, s128_8, s128_9, s128_10, s128_13, s128_14, s128_15, s128_16, s128_19, s128_20, s128_23, s128_24, s128_25, s128_27, s128_30, s128_31, s128_32, s128_33, s128_36, s128_40, s128_41, s128_42, s128_45, s128_46, s128_49, s128_52, s128_53, s128_56, s128_57, s128_60, s128_63, s128_64, s128_65, s128_68, s128_72, K_v, K_0, acI, acA, acJ, acX, List.map_cons, List.map_nil, List.sum_cons, List.sum_nil, true_and, and_true, posT, b2_0, b2_1, bft, true_or, or_true, Nat.zero_le, Nat.reduceAdd, Nat.reduceLeDiff, hI_uI, hL_uI, hR_uI, nx_uI, sl_uI, hI_uL, hL_uL, hR_uL, nx_uL, sl_uL, hI_uR, hL_uR, hR_uR, nx_uR, sl_uR, st_eq, if_true, if_false, eq_self, Nat.reduceEqDiff, Nat.reduceMul, reduceIte, kdT, ixT, w_cl, w_ti, w_s1, w_a, w_m12, w_m8, w_m3, w_m4, hM1.r2, hM1.r3, hM1.r4, hM1.r5, hM1.r6, hM1.r7, hM1.r9, hM1.r10, hM1.r11, hM1.r12, hM1.r13, hM1.r14, hM1.r15, hM1.r16, hM1.r17, hM1.r18, hM1.r20, hM1.r21, hM1.r23, hM1.r29, hM1.r30, hM1.r35, hM1.r36, hM1.r37, hM1.r38, hM1.r40, hM1.r42, hM1.r43, hM1.r44, hM1.r45, hM1.r46, hM1.r47, c5, g0, hsh, hi, ek, n1, kT, lT, w_lt, hig, kd_M, ln_M, kd_mRoles, ln_mRoles, Bool.false_and, Bool.false_eq_true]
        · unfold igd_ at hg
          rw [hg] at hig
          rw [Bool.true_and]
          by_cases q2 : k + hc_ P p O i (qr_ P p) = b
          · rw [decide_eq_true q2, Bool.true_and]
            have q2' : Int32.ofNat (k + hc_ P p O i (qr_ P p)) = Int32.ofNat b := by rw [q2]
            by_cases q3 : pc_ i = r
            · rw [decide_eq_true q3]
              have q3' : Int32.ofNat (pc_ i) = Int32.ofNat r := by rw [q3]
              simp (disch := first | omega | assumption | decide | (apply bT_; decide)) only [s128_0, s128_1, s128_2, s128_5, s128_6, s128_8, s128_9, s128_10, s128_13, s128_14, s128_15, s128_16, s128_19, s128_20, s128_23, s128_24, s128_25, s128_27, s128_30, s128_31, s128_32, s128_33, s128_36, s128_39, s128_40, s128_41, s128_42, s128_45, s128_46, s128_49, s128_52, s128_53, s128_56, s128_57, s128_60, s128_63, s128_64, s128_65, s128_68, s128_72, K_v, K_0, acI, acA, acJ, acX, List.map_cons, List.map_nil, List.sum_cons, List.sum_nil, true_and, and_true, posT, b2_0, b2_1, bft, true_or, or_true, Nat.zero_le, Nat.reduceAdd, Nat.reduceLeDiff, hI_uI, hL_uI, hR_uI, nx_uI, sl_uI, hI_uL, hL_uL, hR_uL, nx_uL, sl_uL, hI_uR, hL_uR, hR_uR, nx_uR, sl_uR, st_eq, if_true, if_false, eq_self, Nat.reduceEqDiff, Nat.reduceMul, reduceIte, kdT, ixT, w_cl, w_ti, w_s1, w_a, w_m12, w_m8, w_m3, w_m4, hM1.r2, hM1.r3, hM1.r4, hM1.r5, hM1.r6, hM1.r7, hM1.r9, hM1.r10, hM1.r11, hM1.r12, hM1.r13, hM1.r14, hM1.r15, hM1.r16, hM1.r17, hM1.r18, hM1.r20, hM1.r21, hM1.r23, hM1.r29, hM1.r30, hM1.r35, hM1.r36, hM1.r37, hM1.r38, hM1.r40, hM1.r42, hM1.r43, hM1.r44, hM1.r45, hM1.r46, hM1.r47, c5, g0, hsh, hi, ek, n1, kT, lT, w_lt, hig, hhn, hbc, j1, j2, q2', q3', kd_M, ln_M, kd_mRoles, ln_mRoles, Bool.true_eq_false]
            · rw [decide_eq_false q3]
              have q3' : ¬ (Int32.ofNat (pc_ i) = Int32.ofNat r) := fun e => q3 ((w_eq (by omega) (by omega)).mp e)
              simp (disch := first | omega | assumption | decide | (apply bT_; decide)) only [s128_0, s128_1, s128_2, s128_5, s128_6, s128_8, s128_9, s128_10, s128_13, s128_14, s128_15, s128_16, s128_19, s128_20, s128_23, s128_24, s128_25, s128_27, s128_30, s128_31, s128_32, s128_33, s128_36, s128_39, s128_40, s128_41, s128_42, s128_45, s128_46, s128_49, s128_52, s128_53, s128_56, s128_57, s128_60, s128_63, s128_64, s128_65, s128_68, s128_72, K_v, K_0, acI, acA, acJ, acX, List.map_cons, List.map_nil, List.sum_cons, List.sum_nil, true_and, and_true, posT, b2_0, b2_1, bft, true_or, or_true, Nat.zero_le, Nat.reduceAdd, Nat.reduceLeDiff, hI_uI, hL_uI, hR_uI, nx_uI, sl_uI, hI_uL, hL_uL, hR_uL, nx_uL, sl_uL, hI_uR, hL_uR, hR_uR, nx_uR, sl_uR, st_eq, if_true, if_false, eq_self, Nat.reduceEqDiff, Nat.reduceMul, reduceIte, kdT, ixT, w_cl, w_ti, w_s1, w_a, w_m12, w_m8, w_m3, w_m4, hM1.r2, hM1.r3, hM1.r4, hM1.r5, hM1.r6, hM1.r7, hM1.r9, hM1.r10, hM1.r11, hM1.r12, hM1.r13, hM1.r14, hM1.r15, hM1.r16, hM1.r17, hM1.r18, hM1.r20, hM1.r21, hM1.r23, hM1.r29, hM1.r30, hM1.r35, hM1.r36, hM1.r37, hM1.r38, hM1.r40, hM1.r42, hM1.r43, hM1.r44, hM1.r45, hM1.r46, hM1.r47, c5, g0, hsh, hi, ek, n1, kT, lT, w_lt, hig, hhn, hbc, j1, j2, q2', q3', kd_M, ln_M, kd_mRoles, ln_mRoles, Bool.true_eq_false, Bool.false_eq_true]
          · rw [decide_eq_false q2, Bool.false_and]
            have q2' : ¬ (Int32.ofNat (k + hc_ P p O i (qr_ P p)) = Int32.ofNat b) := fun e => q2 ((w_eq (by omega) (by omega)).mp e)
            simp (disch := first | omega | assumption | decide | (apply bT_; decide)) only [s128_0, s128_1, s128_2, s128_5, s128_6, s128_8, s128_9, s128_10, s128_13, s128_14, s128_15, s128_16, s128_19, s128_20, s128_23, s128_24, s128_25, s128_27, s128_30, s128_31, s128_32, s128_33, s128_36, s128_39, s128_40, s128_41, s128_42, s128_45, s128_46, s128_49, s128_53, s128_56, s128_57, s128_60, s128_63, s128_64, s128_65, s128_68, s128_72, K_v, K_0, acI, acA, acJ, acX, List.map_cons, List.map_nil, List.sum_cons, List.sum_nil, true_and, and_true, posT, b2_0, b2_1, bft, true_or, or_true, Nat.zero_le, Nat.reduceAdd, Nat.reduceLeDiff, hI_uI, hL_uI, hR_uI, nx_uI, sl_uI, hI_uL, hL_uL, hR_uL, nx_uL, sl_uL, hI_uR, hL_uR, hR_uR, nx_uR, sl_uR, st_eq, if_true, if_false, eq_self, Nat.reduceEqDiff, Nat.reduceMul, reduceIte, kdT, ixT, w_cl, w_ti, w_s1, w_a, w_m12, w_m8, w_m3, w_m4, hM1.r2, hM1.r3, hM1.r4, hM1.r5, hM1.r6, hM1.r7, hM1.r9, hM1.r10, hM1.r11, hM1.r12, hM1.r13, hM1.r14, hM1.r15, hM1.r16, hM1.r17, hM1.r18, hM1.r20, hM1.r21, hM1.r23, hM1.r29, hM1.r30, hM1.r35, hM1.r36, hM1.r37, hM1.r38, hM1.r40, hM1.r42, hM1.r43, hM1.r44, hM1.r45, hM1.r46, hM1.r47, c5, g0, hsh, hi, ek, n1, kT, lT, w_lt, hig, hhn, j1, j2, q2', kd_M, ln_M, kd_mRoles, ln_mRoles, Bool.true_eq_false, Bool.false_eq_true]
      · have n1 : ¬ (Int32.ofNat k < 100) := fun e => q1 ((w_lt (b := 100) (by omega) (by omega)).mp e)
        rw [decide_eq_false q1, Bool.false_and]
        simp (disch := first | omega | assumption | decide | (apply bT_; decide)) only [s128_0, s128_1, s128_2, s128_5, s128_6, s128_8, s128_9, s128_10, s128_13, s128_14, s128_15, s128_16, s128_19, s128_20, s128_23, s128_24, s128_25, s128_27, s128_31, s128_32, s128_33, s128_36, s128_39, s128_40, s128_41, s128_42, s128_45, s128_46, s128_49, s128_52, s128_53, s128_56, s128_57, s128_60, s128_63, s128_64, s128_65, s128_68, s128_72, K_v, K_0, acI, acA, acJ, acX, List.map_cons, List.map_nil, List.sum_cons, List.sum_nil, true_and, and_true, posT, b2_0, b2_1, bft, true_or, or_true, Nat.zero_le, Nat.reduceAdd, Nat.reduceLeDiff, hI_uI, hL_uI, hR_uI, nx_uI, sl_uI, hI_uL, hL_uL, hR_uL, nx_uL, sl_uL, hI_uR, hL_uR, hR_uR, nx_uR, sl_uR, st_eq, if_true, if_false, eq_self, Nat.reduceEqDiff, Nat.reduceMul, reduceIte, kdT, ixT, w_cl, w_ti, w_s1, w_a, w_m12, w_m8, w_m3, w_m4, hM1.r2, hM1.r3, hM1.r4, hM1.r5, hM1.r6, hM1.r7, hM1.r9, hM1.r10, hM1.r11, hM1.r12, hM1.r13, hM1.r14, hM1.r15, hM1.r16, hM1.r17, hM1.r18, hM1.r20, hM1.r21, hM1.r23, hM1.r29, hM1.r30, hM1.r35, hM1.r36, hM1.r37, hM1.r38, hM1.r40, hM1.r42, hM1.r43, hM1.r44, hM1.r45, hM1.r46, hM1.r47, c5, g0, hsh, hi, ek, n1, kT, lT, w_lt, kd_M, ln_M, kd_mRoles, ln_mRoles, Bool.false_eq_true]) (2 ^ qr_ P p) 0 (by omega)
    unfold Do_ at w4
    simp (disch := first | omega | assumption | decide | (apply bT_; decide)) only [s128_0, s128_1, s128_2, s128_5, s128_6, s128_8, s128_9, s128_10, s128_13, s128_14, s128_15, s128_16, s128_19, s128_20, s128_23, s128_24, s128_25, s128_27, s128_30, s128_31, s128_32, s128_33, s128_36, s128_39, s128_40, s128_41, s128_42, s128_45, s128_46, s128_49, s128_52, s128_53, s128_56, s128_57, s128_60, s128_63, s128_64, s128_65, s128_68, s128_71, s128_72, K_v, K_0, acI, acA, acJ, acX, List.map_cons, List.map_nil, List.sum_cons, List.sum_nil, true_and, and_true, posT, b2_0, b2_1, bft, true_or, or_true, Nat.zero_le, Nat.reduceAdd, Nat.reduceLeDiff, hI_uI, hL_uI, hR_uI, nx_uI, sl_uI, hI_uL, hL_uL, hR_uL, nx_uL, sl_uL, hI_uR, hL_uR, hR_uR, nx_uR, sl_uR, st_eq, if_true, if_false, eq_self, Nat.reduceEqDiff, Nat.reduceMul, reduceIte, kdT, ixT, w_cl, w_ti, w_s1, w_a, w_m12, w_m8, w_m3, w_m4, w4, kd_M]
    refine (show V_ xs d 128 7 [vA (some 33554440), vI (Int32.ofNat p), vI (Int32.ofNat 0)] [] h1 Q ↔ _ from L).trans ?_
    have nl : ¬ (2 ^ qr_ P p < 2 ^ qr_ P p) := by omega
    rw [s128_7]
    simp (disch := first | omega | assumption | decide | (apply bT_; decide)) only [s128_0, s128_1, s128_2, s128_5, s128_6, s128_8, s128_9, s128_10, s128_13, s128_14, s128_15, s128_16, s128_20, s128_23, s128_24, s128_25, s128_27, s128_30, s128_31, s128_32, s128_33, s128_36, s128_39, s128_40, s128_41, s128_42, s128_45, s128_46, s128_49, s128_52, s128_53, s128_56, s128_57, s128_60, s128_63, s128_64, s128_65, s128_68, s128_71, s128_72, K_v, K_0, acI, acA, acJ, acX, List.map_cons, List.map_nil, List.sum_cons, List.sum_nil, true_and, and_true, posT, b2_0, b2_1, bft, true_or, or_true, Nat.zero_le, Nat.reduceAdd, Nat.reduceLeDiff, hI_uI, hL_uI, hR_uI, nx_uI, sl_uI, hI_uL, hL_uL, hR_uL, nx_uL, sl_uL, hI_uR, hL_uR, hR_uR, nx_uR, sl_uR, st_eq, if_true, if_false, eq_self, Nat.reduceEqDiff, Nat.reduceMul, reduceIte, kdT, ixT, w_cl, w_ti, w_s1, w_a, w_m12, w_m8, w_m3, w_m4, hM1.r2, hM1.r3, hM1.r4, hM1.r5, hM1.r6, hM1.r7, hM1.r9, hM1.r10, hM1.r11, hM1.r12, hM1.r13, hM1.r14, hM1.r15, hM1.r16, hM1.r17, hM1.r18, hM1.r20, hM1.r21, hM1.r23, hM1.r29, hM1.r30, hM1.r35, hM1.r36, hM1.r37, hM1.r38, hM1.r40, hM1.r42, hM1.r43, hM1.r44, hM1.r45, hM1.r46, hM1.r47, g0, hsh, nl, w_lt, kd_M, ln_M, kd_mRoles, ln_mRoles]
    cases an_ cB (2 ^ qr_ P p) 0 <;> exact Iff.rfl
end MAG
