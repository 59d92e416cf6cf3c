/-! the model: playable -/
section MPY
variable {xs : Nat → Int32} {d : Nat} {h : AH} {Q : OU_ → AH → Prop} {P : PS} {na : Nat} {F G : Nat → Nat → Int32} {σ T U p a s : Nat} {Hs O : Nat → Int32}
theorem m_playable (hM : MS_ h) (hA : MA_ na F G h) (hP : MP_ P h) (hc : MC_ σ Hs O T U h) (hD : PD_ P) (hd : 8 ≤ d) : ∃ h' T' U' σ' Hs' O', KM_ [38535696, 38273552, 38011408] [0, 22, 26, 27] h h' ∧ hI_ h' 33554440 0 = 0 ∧ hI_ h' 38011408 = hI_ h 38011408 ∧ MC_ σ' Hs' O' T' U' h' ∧ Do_ xs d 136 [vA (some 33554440), vX 0, vX 0] h (some (some (vI (Int32.ofNat (msk_ (mpb_ F G P na) (qn_ P)))))) h' := by
  have h12 := hP.2.1.1
  have kf0 : KM_ [38535696, 38273552, 38011408] [0, 22, 26, 27] h (uI_ h 33554440 (st_ (hI_ h 33554440) 0 0)) := KM_.rf.uM (by decide)
  have hc0 := hc.um (f := st_ (hI_ h 33554440) 0 0) (by simp only [hI_uI, hL_uI, hR_uI, nx_uI, sl_uI, hI_uL, hL_uL, hR_uL, nx_uL, sl_uL, hI_uR, hL_uR, hR_uR, nx_uR, sl_uR, st_eq, if_true, if_false, eq_self, Nat.reduceEqDiff, Nat.reduceMul, reduceIte, kdT, ixT, w_cl, w_ti, w_s1, w_a, w_m12, w_m8, w_m3, w_m4])
  obtain ⟨⟨z, T1, U1, σ1, H1, O1⟩, ⟨z1, z2, z3, z4⟩, z5⟩ := loopX_ (P := fun Q i (x : AH × Nat × Nat × Nat × (Nat → Int32) × (Nat → Int32)) => V_ xs d 136 9 [vA (some 33554440), vI (Int32.ofNat (msk_ (mpb_ F G P na) i)), vI (Int32.ofNat i)] [] x.1 Q) (n := qn_ P) (fun i x => KM_ [38535696, 38273552, 38011408] [0, 22, 26, 27] h x.1 ∧ hI_ x.1 33554440 0 = 0 ∧ hI_ x.1 38011408 = hI_ h 38011408 ∧ MC_ x.2.2.2.1 x.2.2.2.2.1 x.2.2.2.2.2 x.2.1 x.2.2.1 x.1) (fun i x hi hI => by
    obtain ⟨x, T1, U1, σ1, H1, O1⟩ := x
    obtain ⟨i1, i2, i3, i4⟩ := hI
    dsimp only at i1 i2 i3 i4
    have hPx := i1.mp (by decide) (by decide) hP
    have e3 := hPx.1
    obtain ⟨y, T2, U2, σ2, H2, O2, k1, k2, k3, k4, k5⟩ := c_misPlayable (xs := xs) (d := d - 1) (p := i) (i1.ms hM) (i1.ma (by decide) (by decide) hA) hPx i4 hD (by omega) (by omega)
    refine ⟨(y, T2, U2, σ2, H2, O2), ⟨i1.tr k1, k2.trans i2, k3.trans i3, k4⟩, fun Q => ?_⟩
    unfold Do_ at k5
    have hsh := w_shl i (by omega)
    show _ ↔ V_ xs d 136 9 [_, vI (Int32.ofNat (msk_ (mpb_ F G P na) i + (if mpb_ F G P na i = true then 2 ^ i else 0))), _] [] y Q
    dsimp only
    rw [s136_9]
    cases hcb : mpb_ F G P na i
    · rw [hcb] at k5
      simp (disch := first | omega | assumption | decide | (apply bT_; decide)) only [s136_0, s136_1, s136_2, s136_5, s136_6, s136_7, s136_8, s136_10, s136_11, s136_14, s136_17, s136_18, s136_19, s136_22, s136_25, s136_26, s136_27, s136_28, s136_29, s136_30, s136_31, s136_34, s136_37, s136_38, K_v, K_0, acI, acA, acJ, acX, List.map_cons, List.map_nil, List.sum_cons, List.sum_nil, true_and, and_true, posT, b2_0, b2_1, bft, true_or, or_true, Nat.zero_le, Nat.reduceAdd, Nat.reduceLeDiff, hI_uI, hL_uI, hR_uI, nx_uI, sl_uI, hI_uL, hL_uL, hR_uL, nx_uL, sl_uL, hI_uR, hL_uR, hR_uR, nx_uR, sl_uR, st_eq, if_true, if_false, eq_self, Nat.reduceEqDiff, Nat.reduceMul, reduceIte, kdT, ixT, w_cl, w_ti, w_s1, w_a, w_m12, w_m8, w_m3, w_m4, e3, hi, k5, w_lt, kd_M, Bool.false_eq_true, Nat.add_zero]
    · rw [hcb] at k5
      simp (disch := first | omega | assumption | decide | (apply bT_; decide)) only [s136_0, s136_1, s136_2, s136_5, s136_6, s136_7, s136_8, s136_10, s136_11, s136_14, s136_17, s136_18, s136_19, s136_22, s136_25, s136_26, s136_27, s136_28, s136_29, s136_30, s136_31, s136_34, s136_37, s136_38, K_v, K_0, acI, acA, acJ, acX, List.map_cons, List.map_nil, List.sum_cons, List.sum_nil, true_and, and_true, posT, b2_0, b2_1, bft, true_or, or_true, Nat.zero_le, Nat.reduceAdd, Nat.reduceLeDiff, hI_uI, hL_uI, hR_uI, nx_uI, sl_uI, hI_uL, hL_uL, hR_uL, nx_uL, sl_uL, hI_uR, hL_uR, hR_uR, nx_uR, sl_uR, st_eq, if_true, if_false, eq_self, Nat.reduceEqDiff, Nat.reduceMul, reduceIte, kdT, ixT, w_cl, w_ti, w_s1, w_a, w_m12, w_m8, w_m3, w_m4, e3, hi, k5, w_lt, hsh, w_or, or_pow msk_lt, kd_M, Bool.true_eq_false]) (qn_ P) 0 (uI_ h 33554440 (st_ (hI_ h 33554440) 0 0), T, U, σ, Hs, O) (by omega) ⟨kf0, by simp only [hI_uI, hL_uI, hR_uI, nx_uI, sl_uI, hI_uL, hL_uL, hR_uL, nx_uL, sl_uL, hI_uR, hL_uR, hR_uR, nx_uR, sl_uR, st_eq, if_true, if_false, eq_self, Nat.reduceEqDiff, Nat.reduceMul, reduceIte, kdT, ixT, w_cl, w_ti, w_s1, w_a, w_m12, w_m8, w_m3, w_m4], by simp only [hI_uI, hL_uI, hR_uI, nx_uI, sl_uI, hI_uL, hL_uL, hR_uL, nx_uL, sl_uL, hI_uR, hL_uR, hR_uR, nx_uR, sl_uR, st_eq, if_true, if_false, eq_self, Nat.reduceEqDiff, Nat.reduceMul, reduceIte, kdT, ixT, w_cl, w_ti, w_s1, w_a, w_m12, w_m8, w_m3, w_m4], hc0⟩
  refine ⟨z, T1, U1, σ1, H1, O1, z1, z2, z3, z4, fun Q => ?_⟩
  simp (disch := first | omega | assumption | decide | (apply bT_; decide)) only [s136_0, s136_1, s136_2, s136_5, s136_6, s136_7, s136_8, s136_10, s136_11, s136_14, s136_17, s136_18, s136_19, s136_22, s136_25, s136_26, s136_27, s136_28, s136_29, s136_30, s136_31, s136_34, s136_37, s136_38, K_v, K_0, acI, acA, acJ, acX, List.map_cons, List.map_nil, List.sum_cons, List.sum_nil, true_and, and_true, posT, b2_0, b2_1, bft, true_or, or_true, Nat.zero_le, Nat.reduceAdd, Nat.reduceLeDiff, hI_uI, hL_uI, hR_uI, nx_uI, sl_uI, hI_uL, hL_uL, hR_uL, nx_uL, sl_uL, hI_uR, hL_uR, hR_uR, nx_uR, sl_uR, st_eq, if_true, if_false, eq_self, Nat.reduceEqDiff, Nat.reduceMul, reduceIte, kdT, ixT, w_cl, w_ti, w_s1, w_a, w_m12, w_m8, w_m3, w_m4, kd_M]
  refine (show V_ xs d 136 9 [vA (some 33554440), vI (Int32.ofNat (msk_ (mpb_ F G P na) 0)), vI (Int32.ofNat 0)] [] (uI_ h 33554440 (st_ (hI_ h 33554440) 0 0)) Q ↔ _ from z5 Q).trans ?_
  have e3 := (z1.mp (by decide) (by decide) hP).1
  have nl : ¬ (qn_ P < qn_ P) := by omega
  dsimp only
  rw [s136_9]
  simp (disch := first | omega | assumption | decide | (apply bT_; decide)) only [s136_0, s136_1, s136_2, s136_5, s136_6, s136_7, s136_8, s136_10, s136_11, s136_14, s136_17, s136_18, s136_19, s136_22, s136_25, s136_26, s136_27, s136_28, s136_29, s136_30, s136_31, s136_34, s136_37, s136_38, K_v, K_0, acI, acA, acJ, acX, List.map_cons, List.map_nil, List.sum_cons, List.sum_nil, true_and, and_true, posT, b2_0, b2_1, bft, true_or, or_true, Nat.zero_le, Nat.reduceAdd, Nat.reduceLeDiff, hI_uI, hL_uI, hR_uI, nx_uI, sl_uI, hI_uL, hL_uL, hR_uL, nx_uL, sl_uL, hI_uR, hL_uR, hR_uR, nx_uR, sl_uR, st_eq, if_true, if_false, eq_self, Nat.reduceEqDiff, Nat.reduceMul, reduceIte, kdT, ixT, w_cl, w_ti, w_s1, w_a, w_m12, w_m8, w_m3, w_m4, e3, nl, w_lt, kd_M]
end MPY
