/-! the class: whether a play can be cast; fit, anew, playable -/
section CCB
variable {xs : Nat → Int32} {d : Nat} {h : AH} {Q : OU_ → AH → Prop} {P : PS} {sp sa : Nat → Nat} {na : Nat} {F G : Nat → Nat → Int32} {p a c w s v : Nat}
noncomputable def cbc_ (F G : Nat → Nat → Int32) (P : PS) (na p : Nat) : Bool := @decide (∃ v, RC_ F G P p (nd_ P p) 0 na (nd_ P p) v) (Classical.propDecidable _)
theorem c_canBeCast (hC : CS_ h) (hA : CA_ na sa F G h) (hP : CP_ P sp h) (hD : PD_ P) (hp : p < qn_ P) (hd : 6 ≤ d) : ∃ h', KF_ h h' ∧ Do_ xs d 18 [vA (some 25952258), vA (some (mk_ (sp p) 4 0)), vA (some 25428756), vX 0] h (some (some (vI (b2_ (cbc_ F G P na p))))) h' := by
  have h8 := hP.2.1.2.2.1 p
  have hk0 : kd_ (mk_ (sp p) 4 0) = 4 := kd_mk (by omega)
  have hq1 : 2 ^ qr_ P p ≤ 2 ^ 8 := Nat.pow_le_pow_right (by omega) h8
  have hnl : nd_ P p < 2 ^ qr_ P p := msk_lt
  have hw : nd_ P p < 256 := by omega
  have hna := hA.2.1
  have hak : 16 ≤ kd_ 25428756 ∧ kd_ 25428756 ≤ 22 ∨ 34 ≤ kd_ 25428756 ∧ kd_ 25428756 ≤ 36 := by decide
  have hb : kd_ 25428756 = 20 ∨ kd_ 25428756 = 21 ∨ kd_ 25428756 = 22 := Or.inl rfl
  obtain ⟨r0, b1, b2⟩ := c_begin (xs := xs) (d := d - 1) (h := h) (F := F) (G := G) (P := P) (p := p) (w := nd_ P p) (c := 0) hC (by omega)
  have kf0 : KF_ h (uL_ h 26230803 r0) := KF_.rf.uL (by decide)
  have key : ∀ (k i : Nat) (x : AH), i + k = 12 → KF_ h x → (∀ s, s < 256 → LX_ (hL_ x 26230803 s) (RC_ F G P p (nd_ P p) 0 (min i na) s)) → ∃ h', KF_ h h' ∧ ∀ Q, V_ xs d 18 6 [vA (some 25952258), vA (some (mk_ (sp p) 4 0)), vA (some 25428756), vI (Int32.ofNat i)] [] x Q ↔ Q (some (some (vI (b2_ (cbc_ F G P na p))))) h' := by
    intro k
    induction k with
    | zero =>
      intro i x hik i1 i2
      have hN := ((i1.cp hP).2.2.2.2.2.1 p hp).2.1
      have hN' : hI_ x (mk_ (sp p) 4 0) 5 = Int32.ofNat (nd_ P p) := hN
      have hCx := i1.cs hC
      refine ⟨x, i1, fun Q => ?_⟩
      have e12 : i = 12 := by omega
      have i12 : ¬ (Int32.ofNat i < Int32.ofNat 12) := by rw [e12]; decide
      rw [show min i na = na by omega] at i2
      have hm := (i2 (nd_ P p) hw).m1 (fun v hv => by have := (RC_sub hv).2; omega)
      rw [s18_6]
      by_cases q : hL_ x 26230803 (nd_ P p) = -1
      · have hcb : cbc_ F G P na p = false := by
          unfold cbc_
          exact @decide_eq_false _ (Classical.propDecidable _) (fun ⟨v, hv⟩ => hm.mp q v hv)
        have cc : lg_cmp (-1) (-1) = 0 := lgd_0.mpr rfl
        rw [hcb]
        simp (disch := first | omega | assumption | decide | (apply bT_; decide)) only [s18_0, s18_1, s18_4, s18_5, s18_7, s18_8, s18_9, s18_13, s18_16, s18_17, s18_20, s18_21, s18_24, s18_25, s18_28, s18_29, s18_30, s18_31, s18_32, s18_33, s18_34, s18_35, s18_36, s18_39, s18_42, s18_45, s18_48, s18_49, s18_52, s18_53, s18_56, s18_57, s18_60, s18_61, s18_64, s18_65, s18_68, s18_69, K_v, K_0, acI, acA, acJ, acX, List.map_cons, List.map_nil, List.sum_cons, List.sum_nil, true_and, and_true, posT, b2_0, b2_1, bft, true_or, or_true, Nat.zero_le, Nat.reduceAdd, Nat.reduceLeDiff, hI_uI, hL_uI, hR_uI, nx_uI, sl_uI, hI_uL, hL_uL, hR_uL, nx_uL, sl_uL, hI_uR, hL_uR, hR_uR, nx_uR, sl_uR, st_eq, if_true, if_false, eq_self, Nat.reduceEqDiff, Nat.reduceMul, reduceIte, kdT, ixT, w_cl, w_ti, w_s1, w_a, w_m12, w_m8, w_m3, w_m4, hCx.x0, hCx.x2, hCx.x4, hCx.x7, hCx.x8, hCx.x9, hCx.x11, hCx.f0, hCx.f1, hCx.f2, hCx.p0, hCx.p1, hCx.p2, hCx.p3, hCx.l1, hCx.l2, hCx.l3, hCx.l4, hCx.d0, hCx.d1, hCx.d2, hCx.g1, hCx.g2, hCx.g3, hCx.g4, hCx.k1, hCx.k2, hCx.k3, hCx.k4, i12, hN', q, cc, hk0, kd_ACT, ln_ACT, kd_FI, ln_FI, kd_BEST, ln_BEST]
        exact Iff.rfl
      · have hcb : cbc_ F G P na p = true := by
          unfold cbc_
          refine @decide_eq_true _ (Classical.propDecidable _) (Classical.byContradiction (fun z => q (hm.mpr (fun v hv => z ⟨v, hv⟩))))
        have cc : ¬ (lg_cmp (hL_ x 26230803 (nd_ P p)) (-1) = 0) := fun z => q (lgd_0.mp z)
        rw [hcb]
        simp (disch := first | omega | assumption | decide | (apply bT_; decide)) only [s18_0, s18_1, s18_4, s18_5, s18_7, s18_8, s18_9, s18_13, s18_16, s18_17, s18_20, s18_21, s18_24, s18_25, s18_28, s18_29, s18_30, s18_31, s18_32, s18_33, s18_34, s18_35, s18_36, s18_39, s18_42, s18_45, s18_48, s18_49, s18_52, s18_53, s18_56, s18_57, s18_60, s18_61, s18_64, s18_65, s18_68, s18_69, K_v, K_0, acI, acA, acJ, acX, List.map_cons, List.map_nil, List.sum_cons, List.sum_nil, true_and, and_true, posT, b2_0, b2_1, bft, true_or, or_true, Nat.zero_le, Nat.reduceAdd, Nat.reduceLeDiff, hI_uI, hL_uI, hR_uI, nx_uI, sl_uI, hI_uL, hL_uL, hR_uL, nx_uL, sl_uL, hI_uR, hL_uR, hR_uR, nx_uR, sl_uR, st_eq, if_true, if_false, eq_self, Nat.reduceEqDiff, Nat.reduceMul, reduceIte, kdT, ixT, w_cl, w_ti, w_s1, w_a, w_m12, w_m8, w_m3, w_m4, hCx.x0, hCx.x2, hCx.x4, hCx.x7, hCx.x8, hCx.x9, hCx.x11, hCx.f0, hCx.f1, hCx.f2, hCx.p0, hCx.p1, hCx.p2, hCx.p3, hCx.l1, hCx.l2, hCx.l3, hCx.l4, hCx.d0, hCx.d1, hCx.d2, hCx.g1, hCx.g2, hCx.g3, hCx.g4, hCx.k1, hCx.k2, hCx.k3, hCx.k4, i12, hN', cc, hk0, kd_ACT, ln_ACT, kd_FI, ln_FI, kd_BEST, ln_BEST]
        exact Iff.rfl
    | succ k ih =>
      intro i x hik i1 i2
      have hN := ((i1.cp hP).2.2.2.2.2.1 p hp).2.1
      have hN' : hI_ x (mk_ (sp p) 4 0) 5 = Int32.ofNat (nd_ P p) := hN
      have hCx := i1.cs hC
      have hAx := i1.ca hA
      have i12 : Int32.ofNat i < Int32.ofNat 12 := (w_lt (b := 12) (by omega) (by omega)).mpr (by omega)
      have hm := (i2 (nd_ P p) hw).m1 (fun v hv => by have := (RC_sub hv).2; omega)
      by_cases q : hL_ x 26230803 (nd_ P p) = -1
      · have cc : lg_cmp (-1) (-1) = 0 := lgd_0.mpr rfl
        by_cases q1 : i < na
        · rw [show min i na = i by omega] at i2
          obtain ⟨y, k1, k2, k3⟩ := c_offer (xs := xs) (d := d - 1) hCx hAx (i1.cp hP) hD q1 hp hw (show 0 < 9223372036854775808 by omega) i2 (by omega)
          obtain ⟨h', g1, g2⟩ := ih (i + 1) y (by omega) (i1.tr k1) (by rw [show min (i + 1) na = i + 1 by omega]; exact k2)
          refine ⟨h', g1, fun Q => Iff.trans ?_ (g2 Q)⟩
          have e1 := (hAx.2.2.1 i q1).1
          have k4 : ∀ Q, V_ xs (d - 1) 20 0 [vA (some 25952258), vA (some (mk_ (sp p) 4 0)), vA (some (mk_ (sa i) 0 0)), vI (Int32.ofNat i), vJ 0, vX 0, vI (Int32.ofNat (nd_ P p))] [] x Q ↔ Q (some none) y := k3
          rw [s18_6]
          simp (disch := first | omega | assumption | decide | (apply bT_; decide)) only [s18_0, s18_1, s18_4, s18_5, s18_7, s18_8, s18_9, s18_12, s18_13, s18_16, s18_17, s18_20, s18_21, s18_24, s18_25, s18_28, s18_29, s18_30, s18_31, s18_32, s18_33, s18_34, s18_35, s18_36, s18_39, s18_42, s18_45, s18_49, s18_52, s18_53, s18_56, s18_57, s18_60, s18_61, s18_64, s18_65, s18_68, s18_69, K_v, K_0, acI, acA, acJ, acX, List.map_cons, List.map_nil, List.sum_cons, List.sum_nil, true_and, and_true, posT, b2_0, b2_1, bft, true_or, or_true, Nat.zero_le, Nat.reduceAdd, Nat.reduceLeDiff, hI_uI, hL_uI, hR_uI, nx_uI, sl_uI, hI_uL, hL_uL, hR_uL, nx_uL, sl_uL, hI_uR, hL_uR, hR_uR, nx_uR, sl_uR, st_eq, if_true, if_false, eq_self, Nat.reduceEqDiff, Nat.reduceMul, reduceIte, kdT, ixT, w_cl, w_ti, w_s1, w_a, w_m12, w_m8, w_m3, w_m4, hCx.x0, hCx.x2, hCx.x4, hCx.x7, hCx.x8, hCx.x9, hCx.x11, hCx.f0, hCx.f1, hCx.f2, hCx.p0, hCx.p1, hCx.p2, hCx.p3, hCx.l1, hCx.l2, hCx.l3, hCx.l4, hCx.d0, hCx.d1, hCx.d2, hCx.g1, hCx.g2, hCx.g3, hCx.g4, hCx.k1, hCx.k2, hCx.k3, hCx.k4, i12, hN', q, cc, e1, k4, hk0, kd_ACT, ln_ACT, kd_FI, ln_FI, kd_BEST, ln_BEST]
        · obtain ⟨h', g1, g2⟩ := ih (i + 1) x (by omega) i1 (by rw [show min (i + 1) na = min i na by omega]; exact i2)
          refine ⟨h', g1, fun Q => Iff.trans ?_ (g2 Q)⟩
          have e1 := hAx.2.2.2.1 i (by omega) (by omega)
          have k3 := c_offer0 (xs := xs) (d := d - 1) (h := x) (v := vA (some (mk_ (sp p) 4 0))) (x := Int32.ofNat i) (y := 0) (z := Int32.ofNat (nd_ P p))
          unfold Do_ at k3
          rw [s18_6]
          simp (disch := first | omega | assumption | decide | (apply bT_; decide)) only [s18_0, s18_1, s18_4, s18_5, s18_7, s18_8, s18_9, s18_12, s18_13, s18_16, s18_17, s18_20, s18_21, s18_24, s18_25, s18_28, s18_29, s18_30, s18_31, s18_32, s18_33, s18_34, s18_35, s18_36, s18_39, s18_42, s18_45, s18_49, s18_52, s18_53, s18_56, s18_57, s18_60, s18_61, s18_64, s18_65, s18_68, s18_69, K_v, K_0, acI, acA, acJ, acX, List.map_cons, List.map_nil, List.sum_cons, List.sum_nil, true_and, and_true, posT, b2_0, b2_1, bft, true_or, or_true, Nat.zero_le, Nat.reduceAdd, Nat.reduceLeDiff, hI_uI, hL_uI, hR_uI, nx_uI, sl_uI, hI_uL, hL_uL, hR_uL, nx_uL, sl_uL, hI_uR, hL_uR, hR_uR, nx_uR, sl_uR, st_eq, if_true, if_false, eq_self, Nat.reduceEqDiff, Nat.reduceMul, reduceIte, kdT, ixT, w_cl, w_ti, w_s1, w_a, w_m12, w_m8, w_m3, w_m4, hCx.x0, hCx.x2, hCx.x4, hCx.x7, hCx.x8, hCx.x9, hCx.x11, hCx.f0, hCx.f1, hCx.f2, hCx.p0, hCx.p1, hCx.p2, hCx.p3, hCx.l1, hCx.l2, hCx.l3, hCx.l4, hCx.d0, hCx.d1, hCx.d2, hCx.g1, hCx.g2, hCx.g3, hCx.g4, hCx.k1, hCx.k2, hCx.k3, hCx.k4, i12, hN', q, cc, e1, k3, hk0, kd_ACT, ln_ACT, kd_FI, ln_FI, kd_BEST, ln_BEST]
      · refine ⟨x, i1, fun Q => ?_⟩
        have hcb : cbc_ F G P na p = true := by
          unfold cbc_
          refine @decide_eq_true _ (Classical.propDecidable _) (Classical.byContradiction (fun z => q (hm.mpr (fun v hv => z ⟨v, RC_mono hP.2.1 hD (by omega) hv⟩))))
        have cc : ¬ (lg_cmp (hL_ x 26230803 (nd_ P p)) (-1) = 0) := fun z => q (lgd_0.mp z)
        rw [hcb, s18_6]
        simp (disch := first | omega | assumption | decide | (apply bT_; decide)) only [s18_0, s18_1, s18_4, s18_5, s18_7, s18_8, s18_9, s18_12, s18_13, s18_16, s18_17, s18_20, s18_21, s18_24, s18_25, s18_29, s18_30, s18_31, s18_32, s18_33, s18_34, s18_35, s18_36, s18_39, s18_42, s18_45, s18_48, s18_49, s18_52, s18_53, s18_56, s18_57, s18_60, s18_61, s18_64, s18_65, s18_68, s18_69, K_v, K_0, acI, acA, acJ, acX, List.map_cons, List.map_nil, List.sum_cons, List.sum_nil, true_and, and_true, posT, b2_0, b2_1, bft, true_or, or_true, Nat.zero_le, Nat.reduceAdd, Nat.reduceLeDiff, hI_uI, hL_uI, hR_uI, nx_uI, sl_uI, hI_uL, hL_uL, hR_uL, nx_uL, sl_uL, hI_uR, hL_uR, hR_uR, nx_uR, sl_uR, st_eq, if_true, if_false, eq_self, Nat.reduceEqDiff, Nat.reduceMul, reduceIte, kdT, ixT, w_cl, w_ti, w_s1, w_a, w_m12, w_m8, w_m3, w_m4, hCx.x0, hCx.x2, hCx.x4, hCx.x7, hCx.x8, hCx.x9, hCx.x11, hCx.f0, hCx.f1, hCx.f2, hCx.p0, hCx.p1, hCx.p2, hCx.p3, hCx.l1, hCx.l2, hCx.l3, hCx.l4, hCx.d0, hCx.d1, hCx.d2, hCx.g1, hCx.g2, hCx.g3, hCx.g4, hCx.k1, hCx.k2, hCx.k3, hCx.k4, i12, hN', cc, hk0, kd_ACT, ln_ACT, kd_FI, ln_FI, kd_BEST, ln_BEST]
        exact Iff.rfl
  obtain ⟨h', g1, g2⟩ := key 12 0 _ (by omega) kf0 (fun s hs => by simp only [hI_uI, hL_uI, hR_uI, nx_uI, sl_uI, hI_uL, hL_uL, hR_uL, nx_uL, sl_uL, hI_uR, hL_uR, hR_uR, nx_uR, sl_uR, st_eq, if_true, if_false, eq_self, Nat.reduceEqDiff, Nat.reduceMul, reduceIte, kdT, ixT, w_cl, w_ti, w_s1, w_a, w_m12, w_m8, w_m3, w_m4]; rw [Nat.zero_min]; exact b1 s hs)
  refine ⟨h', g1, fun Q => ?_⟩
  have g3 : ∀ Q, V_ xs d 18 6 [vA (some 25952258), vA (some (mk_ (sp p) 4 0)), vA (some 25428756), vI 0] [] (uL_ h 26230803 r0) Q ↔ Q (some (some (vI (b2_ (cbc_ F G P na p))))) h' := g2
  unfold Do_ at b2
  simp (disch := first | omega | assumption | decide | (apply bT_; decide)) only [s18_0, s18_1, s18_4, s18_5, s18_7, s18_8, s18_9, s18_12, s18_13, s18_16, s18_17, s18_20, s18_21, s18_24, s18_25, s18_28, s18_29, s18_30, s18_31, s18_32, s18_33, s18_34, s18_35, s18_36, s18_39, s18_42, s18_45, s18_48, s18_49, s18_52, s18_53, s18_56, s18_57, s18_60, s18_61, s18_64, s18_65, s18_68, s18_69, K_v, K_0, acI, acA, acJ, acX, List.map_cons, List.map_nil, List.sum_cons, List.sum_nil, true_and, and_true, posT, b2_0, b2_1, bft, true_or, or_true, Nat.zero_le, Nat.reduceAdd, Nat.reduceLeDiff, hI_uI, hL_uI, hR_uI, nx_uI, sl_uI, hI_uL, hL_uL, hR_uL, nx_uL, sl_uL, hI_uR, hL_uR, hR_uR, nx_uR, sl_uR, st_eq, if_true, if_false, eq_self, Nat.reduceEqDiff, Nat.reduceMul, reduceIte, kdT, ixT, w_cl, w_ti, w_s1, w_a, w_m12, w_m8, w_m3, w_m4, b2, g3, kd_FI]
/-- the numbers of the casts that a play may have -/
def BS_ (F G : Nat → Nat → Int32) (P : PS) (na p c v : Nat) : Prop := ∃ s, s &&& nd_ P p = nd_ P p ∧ RC_ F G P p (2 ^ qr_ P p - 1) c na s v
theorem x_fit0 {q : Int32} (hC : CS_ h) (hP : CP_ P sp h) (hq : ¬ (0 ≤ q.toInt ∧ q.toInt < qn_ P)) (hd : 2 ≤ d) : Do_ xs d 71 [vA (some 25165831), vI q, vX 0, vX 0, vX 0] h (some (some (vI (-2)))) h := by
  intro Q
  have e : pat_ P sp q = none := by unfold pat_; rw [if_neg hq]
  simp (disch := first | omega | assumption | decide | (apply bT_; decide)) only [s71_0, s71_1, s71_2, s71_5, s71_6, s71_7, s71_10, s71_12, s71_13, s71_14, s71_17, s71_18, s71_19, s71_22, s71_23, s71_26, s71_27, s71_28, s71_31, s71_32, s71_35, s71_36, s71_37, s71_38, s71_39, s71_42, s71_43, s71_44, s71_47, s71_48, s71_51, K_v, K_0, acI, acA, acJ, acX, List.map_cons, List.map_nil, List.sum_cons, List.sum_nil, true_and, and_true, posT, b2_0, b2_1, bft, true_or, or_true, Nat.zero_le, Nat.reduceAdd, Nat.reduceLeDiff, hI_uI, hL_uI, hR_uI, nx_uI, sl_uI, hI_uL, hL_uL, hR_uL, nx_uL, sl_uL, hI_uR, hL_uR, hR_uR, nx_uR, sl_uR, st_eq, if_true, if_false, eq_self, Nat.reduceEqDiff, Nat.reduceMul, reduceIte, kdT, ixT, w_cl, w_ti, w_s1, w_a, w_m12, w_m8, w_m3, w_m4, hC.x0, hC.x2, hC.x4, hC.x7, hC.x8, hC.x9, hC.x11, hC.f0, hC.f1, hC.f2, hC.p0, hC.p1, hC.p2, hC.p3, hC.l1, hC.l2, hC.l3, hC.l4, hC.d0, hC.d1, hC.d2, hC.g1, hC.g2, hC.g3, hC.g4, hC.k1, hC.k2, hC.k3, hC.k4, c_playAt hC hP, e]
theorem x_fit (hC : CS_ h) (hA : CA_ na sa F G h) (hP : CP_ P sp h) (hD : PD_ P) (hp : p < qn_ P) (hd : 7 ≤ d) : ∃ h' y, KF_ h h' ∧ LX_ y (BS_ F G P na p 0) ∧
    (y = -1 → Do_ xs d 71 [vA (some 25165831), vI (Int32.ofNat p), vX 0, vX 0, vX 0] h (some (some (vI (-1)))) h') ∧
    (y ≠ -1 → Do_ xs d 71 [vA (some 25165831), vI (Int32.ofNat p), vX 0, vX 0, vX 0] h (some (some (vI ((us_ y 32).toInt32 &&& 15)))) (uL_ (uI_ h' 25165831 (st_ (hI_ h' 25165831) 5 (Int32.ofNat p))) 25165831 (st_ (hL_ h' 25165831) 6 y))) := by
  have h12 := hP.2.1.1
  obtain ⟨h', y, k1, k2, k3⟩ := c_search (xs := xs) (d := d - 1) (c := 0) hC hA hP hD hp (by omega) (by omega)
  have e : pat_ P sp (Int32.ofNat p) = some (mk_ (sp p) 4 0) := by unfold pat_; rw [w_ti (by omega), if_pos (by omega), w_cl (by omega)]
  have k4 : ∀ Q, V_ xs (d - 1) 17 0 [vA (some 25952258), vA (some (mk_ (sp p) 4 0)), vA (some 25428756), vJ 0, vX 0, vX 0, vX 0, vX 0, vX 0] [] h Q ↔ Q (some (some (vJ y))) h' := k3
  refine ⟨h', y, k1, k2, fun hy Q => ?_, fun hy Q => ?_⟩
  · have cc : lg_cmp y (-1) = 0 := lgd_0.mpr hy
    simp (disch := first | omega | assumption | decide | (apply bT_; decide)) only [s71_0, s71_1, s71_2, s71_5, s71_6, s71_7, s71_10, s71_12, s71_13, s71_14, s71_17, s71_18, s71_19, s71_22, s71_23, s71_26, s71_27, s71_28, s71_31, s71_32, s71_35, s71_36, s71_37, s71_38, s71_39, s71_42, s71_43, s71_44, s71_47, s71_48, s71_51, K_v, K_0, acI, acA, acJ, acX, List.map_cons, List.map_nil, List.sum_cons, List.sum_nil, true_and, and_true, posT, b2_0, b2_1, bft, true_or, or_true, Nat.zero_le, Nat.reduceAdd, Nat.reduceLeDiff, hI_uI, hL_uI, hR_uI, nx_uI, sl_uI, hI_uL, hL_uL, hR_uL, nx_uL, sl_uL, hI_uR, hL_uR, hR_uR, nx_uR, sl_uR, st_eq, if_true, if_false, eq_self, Nat.reduceEqDiff, Nat.reduceMul, reduceIte, kdT, ixT, w_cl, w_ti, w_s1, w_a, w_m12, w_m8, w_m3, w_m4, hC.x0, hC.x2, hC.x4, hC.x7, hC.x8, hC.x9, hC.x11, hC.f0, hC.f1, hC.f2, hC.p0, hC.p1, hC.p2, hC.p3, hC.l1, hC.l2, hC.l3, hC.l4, hC.d0, hC.d1, hC.d2, hC.g1, hC.g2, hC.g3, hC.g4, hC.k1, hC.k2, hC.k3, hC.k4, c_playAt hC hP, e, k4, cc, kd_X, kd_FI, reduceCtorEq]
  · have cc : ¬ (lg_cmp y (-1) = 0) := fun z => hy (lgd_0.mp z)
    simp (disch := first | omega | assumption | decide | (apply bT_; decide)) only [s71_0, s71_1, s71_2, s71_5, s71_6, s71_7, s71_10, s71_12, s71_13, s71_14, s71_17, s71_18, s71_19, s71_22, s71_23, s71_26, s71_27, s71_28, s71_31, s71_32, s71_35, s71_36, s71_37, s71_38, s71_39, s71_42, s71_43, s71_44, s71_47, s71_48, s71_51, K_v, K_0, acI, acA, acJ, acX, List.map_cons, List.map_nil, List.sum_cons, List.sum_nil, true_and, and_true, posT, b2_0, b2_1, bft, true_or, or_true, Nat.zero_le, Nat.reduceAdd, Nat.reduceLeDiff, hI_uI, hL_uI, hR_uI, nx_uI, sl_uI, hI_uL, hL_uL, hR_uL, nx_uL, sl_uL, hI_uR, hL_uR, hR_uR, nx_uR, sl_uR, st_eq, if_true, if_false, eq_self, Nat.reduceEqDiff, Nat.reduceMul, reduceIte, kdT, ixT, w_cl, w_ti, w_s1, w_a, w_m12, w_m8, w_m3, w_m4, hC.x0, hC.x2, hC.x4, hC.x7, hC.x8, hC.x9, hC.x11, hC.f0, hC.f1, hC.f2, hC.p0, hC.p1, hC.p2, hC.p3, hC.l1, hC.l2, hC.l3, hC.l4, hC.d0, hC.d1, hC.d2, hC.g1, hC.g2, hC.g3, hC.g4, hC.k1, hC.k2, hC.k3, hC.k4, c_playAt hC hP, e, k4, cc, c_filledIn, kd_X, kd_FI, reduceCtorEq]
theorem x_anew0 {cs : Int64} (hC : CS_ h) (hP : CP_ P sp h) (hH : CH_ none cs h) (hd : 2 ≤ d) : Do_ xs d 72 [vA (some 25165831), vX 0, vX 0, vX 0, vX 0] h (some (some (vI (-2)))) h := by
  intro Q
  have e0 := hH.1
  have e : pat_ P sp (oi_ none) = none := by unfold pat_; rw [oi_n, if_neg]; rintro ⟨z, -⟩; exact absurd z (by decide)
  simp (disch := first | omega | assumption | decide | (apply bT_; decide)) only [s72_0, s72_1, s72_2, s72_5, s72_8, s72_9, s72_10, s72_13, s72_15, s72_16, s72_17, s72_20, s72_21, s72_22, s72_25, s72_26, s72_29, s72_32, s72_33, s72_34, s72_37, s72_38, s72_41, s72_42, s72_43, s72_44, s72_47, s72_50, s72_51, s72_54, s72_55, s72_57, s72_58, s72_59, s72_62, s72_64, K_v, K_0, acI, acA, acJ, acX, List.map_cons, List.map_nil, List.sum_cons, List.sum_nil, true_and, and_true, posT, b2_0, b2_1, bft, true_or, or_true, Nat.zero_le, Nat.reduceAdd, Nat.reduceLeDiff, hI_uI, hL_uI, hR_uI, nx_uI, sl_uI, hI_uL, hL_uL, hR_uL, nx_uL, sl_uL, hI_uR, hL_uR, hR_uR, nx_uR, sl_uR, st_eq, if_true, if_false, eq_self, Nat.reduceEqDiff, Nat.reduceMul, reduceIte, kdT, ixT, w_cl, w_ti, w_s1, w_a, w_m12, w_m8, w_m3, w_m4, hC.x0, hC.x2, hC.x4, hC.x7, hC.x8, hC.x9, hC.x11, hC.f0, hC.f1, hC.f2, hC.p0, hC.p1, hC.p2, hC.p3, hC.l1, hC.l2, hC.l3, hC.l4, hC.d0, hC.d1, hC.d2, hC.g1, hC.g2, hC.g3, hC.g4, hC.k1, hC.k2, hC.k3, hC.k4, c_playAt hC hP, e0, e]
theorem x_anew (hC : CS_ h) (hA : CA_ na sa F G h) (hP : CP_ P sp h) (hD : PD_ P) (hp : p < qn_ P) (hc : c < 9223372036854775808) (hH : CH_ (some p) (Int64.ofNat c) h) (hd : 7 ≤ d) : ∃ h' y, KF_ h h' ∧ LX_ y (BS_ F G P na p c) ∧
    (y = -1 → Do_ xs d 72 [vA (some 25165831), vX 0, vX 0, vX 0, vX 0] h (some (some (vI (-1)))) h') ∧
    (y ≠ -1 → Do_ xs d 72 [vA (some 25165831), vX 0, vX 0, vX 0, vX 0] h (some (some (vI (((us_ (Int64.ofNat c) 32).toInt32 &&& 15) - ((us_ y 36).toInt32 &&& 15))))) (uL_ h' 25165831 (st_ (hL_ h' 25165831) 6 y))) := by
  have h12 := hP.2.1.1
  obtain ⟨e0, e6⟩ := hH
  obtain ⟨h', y, k1, k2, k3⟩ := c_search (xs := xs) (d := d - 1) (c := c) hC hA hP hD hp (by omega) (by omega)
  have e : pat_ P sp (oi_ (some p)) = some (mk_ (sp p) 4 0) := by unfold pat_; rw [oi_s, w_ti (by omega), if_pos (by omega), w_cl (by omega)]
  unfold Do_ at k3
  have e7 : hL_ h' 25165831 6 = Int64.ofNat c := by rw [(k1.1 25165831 (by decide) (by decide) (by decide) (by decide)).2]; exact e6
  refine ⟨h', y, k1, k2, fun hy Q => ?_, fun hy Q => ?_⟩
  · have cc : lg_cmp y (-1) = 0 := lgd_0.mpr hy
    simp (disch := first | omega | assumption | decide | (apply bT_; decide)) only [s72_0, s72_1, s72_2, s72_5, s72_8, s72_9, s72_10, s72_13, s72_15, s72_16, s72_17, s72_20, s72_21, s72_22, s72_25, s72_26, s72_29, s72_32, s72_33, s72_34, s72_37, s72_38, s72_41, s72_42, s72_43, s72_44, s72_47, s72_50, s72_51, s72_54, s72_55, s72_57, s72_58, s72_59, s72_62, s72_64, K_v, K_0, acI, acA, acJ, acX, List.map_cons, List.map_nil, List.sum_cons, List.sum_nil, true_and, and_true, posT, b2_0, b2_1, bft, true_or, or_true, Nat.zero_le, Nat.reduceAdd, Nat.reduceLeDiff, hI_uI, hL_uI, hR_uI, nx_uI, sl_uI, hI_uL, hL_uL, hR_uL, nx_uL, sl_uL, hI_uR, hL_uR, hR_uR, nx_uR, sl_uR, st_eq, if_true, if_false, eq_self, Nat.reduceEqDiff, Nat.reduceMul, reduceIte, kdT, ixT, w_cl, w_ti, w_s1, w_a, w_m12, w_m8, w_m3, w_m4, hC.x0, hC.x2, hC.x4, hC.x7, hC.x8, hC.x9, hC.x11, hC.f0, hC.f1, hC.f2, hC.p0, hC.p1, hC.p2, hC.p3, hC.l1, hC.l2, hC.l3, hC.l4, hC.d0, hC.d1, hC.d2, hC.g1, hC.g2, hC.g3, hC.g4, hC.k1, hC.k2, hC.k3, hC.k4, c_playAt hC hP, e0, e, e6, k3, cc, kd_X, kd_FI, reduceCtorEq]
  · have cc : ¬ (lg_cmp y (-1) = 0) := fun z => hy (lgd_0.mp z)
    simp (disch := first | omega | assumption | decide | (apply bT_; decide)) only [s72_0, s72_1, s72_2, s72_5, s72_8, s72_9, s72_10, s72_13, s72_15, s72_16, s72_17, s72_20, s72_21, s72_22, s72_25, s72_26, s72_29, s72_32, s72_33, s72_34, s72_37, s72_38, s72_41, s72_42, s72_43, s72_44, s72_47, s72_50, s72_51, s72_54, s72_55, s72_57, s72_58, s72_59, s72_62, s72_64, K_v, K_0, acI, acA, acJ, acX, List.map_cons, List.map_nil, List.sum_cons, List.sum_nil, true_and, and_true, posT, b2_0, b2_1, bft, true_or, or_true, Nat.zero_le, Nat.reduceAdd, Nat.reduceLeDiff, hI_uI, hL_uI, hR_uI, nx_uI, sl_uI, hI_uL, hL_uL, hR_uL, nx_uL, sl_uL, hI_uR, hL_uR, hR_uR, nx_uR, sl_uR, st_eq, if_true, if_false, eq_self, Nat.reduceEqDiff, Nat.reduceMul, reduceIte, kdT, ixT, w_cl, w_ti, w_s1, w_a, w_m12, w_m8, w_m3, w_m4, hC.x0, hC.x2, hC.x4, hC.x7, hC.x8, hC.x9, hC.x11, hC.f0, hC.f1, hC.f2, hC.p0, hC.p1, hC.p2, hC.p3, hC.l1, hC.l2, hC.l3, hC.l4, hC.d0, hC.d1, hC.d2, hC.g1, hC.g2, hC.g3, hC.g4, hC.k1, hC.k2, hC.k3, hC.k4, c_playAt hC hP, e0, e, e6, e7, k3, cc, c_filledIn, c_keptIn, kd_X, kd_FI, reduceCtorEq]
theorem x_playable (hC : CS_ h) (hA : CA_ na sa F G h) (hP : CP_ P sp h) (hD : PD_ P) (hd : 7 ≤ d) : ∃ h', KF_ h h' ∧ Do_ xs d 74 [vA (some 25165831), vX 0, vX 0, vX 0] h (some (some (vI (Int32.ofNat (msk_ (cbc_ F G P na) (qn_ P)))))) h' := by
  have h12 := hP.2.1.1
  have hb : kd_ 25690901 = 20 ∨ kd_ 25690901 = 21 ∨ kd_ 25690901 = 22 := Or.inr (Or.inl rfl)
  obtain ⟨z, hz1, hz2⟩ := loopX_ (P := fun Q i (x : AH × AV) => V_ xs d 74 4 [vA (some 25165831), vI (Int32.ofNat (msk_ (cbc_ F G P na) i)), vI (Int32.ofNat i), x.2] [] x.1 Q) (n := qn_ P) (fun i x => KF_ h x.1) (fun i x hi i1 => by
    obtain ⟨x, v3⟩ := x
    dsimp only at i1
    have hCx := i1.cs hC
    have hPx := i1.cp hP
    have e1 := (hPx.2.2.1 i hi).1
    have e3 := hPx.1
    obtain ⟨y, k1, k2⟩ := c_canBeCast (xs := xs) (d := d - 1) hCx (i1.ca hA) hPx hD hi (by omega)
    refine ⟨(y, vA (some (mk_ (sp i) 4 0))), i1.tr k1, fun Q => ?_⟩
    unfold Do_ at k2
    have hsh := w_shl i (by omega)
    show _ ↔ V_ xs d 74 4 [_, vI (Int32.ofNat (msk_ (cbc_ F G P na) i + (if cbc_ F G P na i = true then 2 ^ i else 0))), _, _] [] y Q
    dsimp only
    rw [s74_4]
    cases hcb : cbc_ F G P na i
    · rw [hcb] at k2
      simp (disch := first | omega | assumption | decide | (apply bT_; decide)) only [s74_0, s74_1, s74_2, s74_3, s74_5, s74_6, s74_9, s74_12, s74_13, s74_16, s74_17, s74_18, s74_19, s74_20, s74_23, s74_24, s74_27, s74_28, s74_29, s74_32, s74_35, s74_38, s74_39, s74_40, s74_41, s74_42, s74_43, s74_44, s74_47, s74_50, s74_51, K_v, K_0, acI, acA, acJ, acX, List.map_cons, List.map_nil, List.sum_cons, List.sum_nil, true_and, and_true, posT, b2_0, b2_1, bft, true_or, or_true, Nat.zero_le, Nat.reduceAdd, Nat.reduceLeDiff, hI_uI, hL_uI, hR_uI, nx_uI, sl_uI, hI_uL, hL_uL, hR_uL, nx_uL, sl_uL, hI_uR, hL_uR, hR_uR, nx_uR, sl_uR, st_eq, if_true, if_false, eq_self, Nat.reduceEqDiff, Nat.reduceMul, reduceIte, kdT, ixT, w_cl, w_ti, w_s1, w_a, w_m12, w_m8, w_m3, w_m4, hCx.x0, hCx.x2, hCx.x4, hCx.x7, hCx.x8, hCx.x9, hCx.x11, hCx.f0, hCx.f1, hCx.f2, hCx.p0, hCx.p1, hCx.p2, hCx.p3, hCx.l1, hCx.l2, hCx.l3, hCx.l4, hCx.d0, hCx.d1, hCx.d2, hCx.g1, hCx.g2, hCx.g3, hCx.g4, hCx.k1, hCx.k2, hCx.k3, hCx.k4, e1, e3, hi, k2, w_lt, kd_REP, ln_REP, kd_X, ln_X, kd_FI, ln_FI, reduceCtorEq, Bool.false_eq_true, Nat.add_zero]
    · rw [hcb] at k2
      simp (disch := first | omega | assumption | decide | (apply bT_; decide)) only [s74_0, s74_1, s74_2, s74_3, s74_5, s74_6, s74_9, s74_12, s74_13, s74_16, s74_17, s74_18, s74_19, s74_20, s74_23, s74_24, s74_27, s74_28, s74_29, s74_32, s74_35, s74_38, s74_39, s74_40, s74_41, s74_42, s74_43, s74_44, s74_47, s74_50, s74_51, K_v, K_0, acI, acA, acJ, acX, List.map_cons, List.map_nil, List.sum_cons, List.sum_nil, true_and, and_true, posT, b2_0, b2_1, bft, true_or, or_true, Nat.zero_le, Nat.reduceAdd, Nat.reduceLeDiff, hI_uI, hL_uI, hR_uI, nx_uI, sl_uI, hI_uL, hL_uL, hR_uL, nx_uL, sl_uL, hI_uR, hL_uR, hR_uR, nx_uR, sl_uR, st_eq, if_true, if_false, eq_self, Nat.reduceEqDiff, Nat.reduceMul, reduceIte, kdT, ixT, w_cl, w_ti, w_s1, w_a, w_m12, w_m8, w_m3, w_m4, hCx.x0, hCx.x2, hCx.x4, hCx.x7, hCx.x8, hCx.x9, hCx.x11, hCx.f0, hCx.f1, hCx.f2, hCx.p0, hCx.p1, hCx.p2, hCx.p3, hCx.l1, hCx.l2, hCx.l3, hCx.l4, hCx.d0, hCx.d1, hCx.d2, hCx.g1, hCx.g2, hCx.g3, hCx.g4, hCx.k1, hCx.k2, hCx.k3, hCx.k4, e1, e3, hi, k2, w_lt, hsh, w_or, or_pow msk_lt, kd_REP, ln_REP, kd_X, ln_X, kd_FI, ln_FI, reduceCtorEq, Bool.true_eq_false]) (qn_ P) 0 (h, vX 0) (by omega) KF_.rf
  refine ⟨z.1, hz1, fun Q => ?_⟩
  simp (disch := first | omega | assumption | decide | (apply bT_; decide)) only [s74_0, s74_1, s74_2, s74_3, s74_5, s74_6, s74_9, s74_12, s74_13, s74_16, s74_17, s74_18, s74_19, s74_20, s74_23, s74_24, s74_27, s74_28, s74_29, s74_32, s74_35, s74_38, s74_39, s74_40, s74_41, s74_42, s74_43, s74_44, s74_47, s74_50, s74_51, K_v, K_0, acI, acA, acJ, acX, List.map_cons, List.map_nil, List.sum_cons, List.sum_nil, true_and, and_true, posT, b2_0, b2_1, bft, true_or, or_true, Nat.zero_le, Nat.reduceAdd, Nat.reduceLeDiff, hI_uI, hL_uI, hR_uI, nx_uI, sl_uI, hI_uL, hL_uL, hR_uL, nx_uL, sl_uL, hI_uR, hL_uR, hR_uR, nx_uR, sl_uR, st_eq, if_true, if_false, eq_self, Nat.reduceEqDiff, Nat.reduceMul, reduceIte, kdT, ixT, w_cl, w_ti, w_s1, w_a, w_m12, w_m8, w_m3, w_m4]
  refine (show V_ xs d 74 4 [vA (some 25165831), vI (Int32.ofNat (msk_ (cbc_ F G P na) 0)), vI (Int32.ofNat 0), vX 0] [] h Q ↔ _ from hz2 Q).trans ?_
  have e3 := (hz1.cp hP).1
  have nl : ¬ (qn_ P < qn_ P) := by omega
  rw [s74_4]
  simp (disch := first | omega | assumption | decide | (apply bT_; decide)) only [s74_0, s74_1, s74_2, s74_3, s74_5, s74_6, s74_9, s74_12, s74_13, s74_16, s74_17, s74_18, s74_19, s74_20, s74_23, s74_24, s74_27, s74_28, s74_29, s74_32, s74_35, s74_38, s74_39, s74_40, s74_41, s74_42, s74_43, s74_44, s74_47, s74_50, s74_51, K_v, K_0, acI, acA, acJ, acX, List.map_cons, List.map_nil, List.sum_cons, List.sum_nil, true_and, and_true, posT, b2_0, b2_1, bft, true_or, or_true, Nat.zero_le, Nat.reduceAdd, Nat.reduceLeDiff, hI_uI, hL_uI, hR_uI, nx_uI, sl_uI, hI_uL, hL_uL, hR_uL, nx_uL, sl_uL, hI_uR, hL_uR, hR_uR, nx_uR, sl_uR, st_eq, if_true, if_false, eq_self, Nat.reduceEqDiff, Nat.reduceMul, reduceIte, kdT, ixT, w_cl, w_ti, w_s1, w_a, w_m12, w_m8, w_m3, w_m4, e3, nl, w_lt, kd_X]
end CCB
