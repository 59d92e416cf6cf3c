/-! the model: fit, anew, playable -/
section MFB
variable {xs : Nat → Int32} {d : Nat} {h : AH} {Q : OU_ → AH → Prop} {P : PS} {na : Nat} {F G : Nat → Nat → Int32} {σ T U p a s : Nat} {Hs Hs' O Hd : Nat → Int32}
theorem m_fit0 {q : Int32} (hP : MP_ P h) (hq : ¬ (0 ≤ q.toInt ∧ q.toInt < qn_ P)) (hd : 1 ≤ d) : Do_ xs d 132 [vA (some 33554440), vI q] h (some (some (vI (-2)))) (uI_ h 33554440 (st_ (hI_ h 33554440) 0 0)) := by
  intro Q
  have e : decide (0 ≤ q.toInt ∧ q.toInt < (qn_ P : Int)) = false := decide_eq_false hq
  simp (disch := first | omega | assumption | decide | (apply bT_; decide)) only [s132_0, s132_1, s132_2, s132_5, s132_6, s132_7, s132_10, s132_13, s132_15, s132_17, s132_20, s132_21, s132_22, s132_25, s132_28, s132_29, s132_30, s132_31, s132_32, s132_35, s132_36, s132_39, K_v, K_0, acI, acA, acJ, acX, List.map_cons, List.map_nil, List.sum_cons, List.sum_nil, true_and, and_true, posT, b2_0, b2_1, bft, true_or, or_true, Nat.zero_le, Nat.reduceAdd, Nat.reduceLeDiff, hI_uI, hL_uI, hR_uI, nx_uI, sl_uI, hI_uL, hL_uL, hR_uL, nx_uL, sl_uL, hI_uR, hL_uR, hR_uR, nx_uR, sl_uR, st_eq, if_true, if_false, eq_self, Nat.reduceEqDiff, Nat.reduceMul, reduceIte, kdT, ixT, w_cl, w_ti, w_s1, w_a, w_m12, w_m8, w_m3, w_m4, c_misPlay hP.u0, e, kd_M]
/-- what casts and takes leave behind -/
def CR_ (F G : Nat → Nat → Int32) (P : PS) (p na : Nat) (O : Nat → Int32) (o : Option (Nat × Nat)) (Hs : Nat → Int32) : Prop := BO_ o (EL_ F G P p 0 Hs O na (2 ^ qr_ P p)) ∧ ∀ b c, o = some (b, c) → b ≤ 200 ∧ c ≤ 8 ∧ ∀ r, r < qr_ P p → fc_ F G P p O na b c Hs r
theorem m_fit (hM : MS_ h) (hA : MA_ na F G h) (hP : MP_ P h) (hc : MC_ σ Hs O T U h) (hD : PD_ P) (hp : p < qn_ P) (hd : 9 ≤ d) : ∃ h' T' U' σ' Hs' O' o, KM_ [38535696, 38273552, 38011408] [0, 19, 22, 26, 27] h h' ∧ MC_ σ' Hs' O' T' U' h' ∧ (∀ r, r < 8 → O' r = -1) ∧ CR_ F G P p na O' o Hs' ∧ hI_ h' 33554440 0 = 0 ∧
    (o = none → hI_ h' 33554440 19 = hI_ h 33554440 19 ∧ hI_ h' 38011408 = hI_ h 38011408 ∧ Do_ xs d 132 [vA (some 33554440), vI (Int32.ofNat p)] h (some (some (vI (-1)))) h') ∧
    (∀ b c, o = some (b, c) → hI_ h' 33554440 19 = Int32.ofNat p ∧ (∀ r, r < 8 → hI_ h' 38011408 r = if r < qr_ P p then Hs' r else -1) ∧ Do_ xs d 132 [vA (some 33554440), vI (Int32.ofNat p)] h (some (some (vI (Int32.ofNat c)))) h') := by
  have h12 := hP.2.1.1
  have hp12 : p < 12 := by omega
  have e : decide (0 ≤ (p : Int) ∧ (p : Int) < (qn_ P : Int)) = true := decide_eq_true (by omega)
  have kf0 : KM_ [38535696, 38273552, 38011408] [0, 19, 22, 26, 27] h (uI_ h 33554440 (st_ (hI_ h 33554440) 0 0)) := KM_.rf.uM (by decide)
  obtain ⟨f, f1, f2⟩ := c_mforgets (xs := xs) (d := d - 1) (kf0.ms hM)
  have kf1 : KM_ [38535696, 38273552, 38011408] [0, 19, 22, 26, 27] h (uI_ (uI_ h 33554440 (st_ (hI_ h 33554440) 0 0)) 38273552 f) := kf0.uI (Or.inr (Or.inr ⟨by decide, by decide⟩))
  have hc1 := (hc.um (f := st_ (hI_ h 33554440) 0 0) (by simp only [hI_uI, hL_uI, hR_uI, nx_uI, sl_uI, hI_uL, hL_uL, hR_uL, nx_uL, sl_uL, hI_uR, hL_uR, hR_uR, nx_uR, sl_uR, st_eq, if_true, if_false, eq_self, Nat.reduceEqDiff, Nat.reduceMul, reduceIte, kdT, ixT, w_cl, w_ti, w_s1, w_a, w_m12, w_m8, w_m3, w_m4])).old (f := f)
  obtain ⟨h2, T2, U2, σ2, Hs2, o, w1, w2, w3, w4, w5⟩ := c_mcasts (xs := xs) (d := d - 1) (kf1.ms hM) (kf1.ma (by decide) (by decide) hA) (kf1.mp (by decide) (by decide) hP) hc1 hD hp12 (by omega)
  have kf2 := kf1.tr (w1.wk (by decide) (by decide))
  unfold Do_ at f2 w5
  have z0 : hI_ h2 33554440 0 = 0 := by rw [w1.2.1 0 (by decide)]; simp only [hI_uI, hL_uI, hR_uI, nx_uI, sl_uI, hI_uL, hL_uL, hR_uL, nx_uL, sl_uL, hI_uR, hL_uR, hR_uR, nx_uR, sl_uR, st_eq, if_true, if_false, eq_self, Nat.reduceEqDiff, Nat.reduceMul, reduceIte, kdT, ixT, w_cl, w_ti, w_s1, w_a, w_m12, w_m8, w_m3, w_m4]
  cases o with
  | none =>
    refine ⟨h2, T2, U2, σ2, Hs2, f, none, kf2, w2, f1, ⟨w3, fun b c e => by cases e⟩, z0, fun _ => ⟨?_, ?_, fun Q => ?_⟩, fun b c e => by cases e⟩
    · rw [w1.2.1 19 (by decide)]; simp only [hI_uI, hL_uI, hR_uI, nx_uI, sl_uI, hI_uL, hL_uL, hR_uL, nx_uL, sl_uL, hI_uR, hL_uR, hR_uR, nx_uR, sl_uR, st_eq, if_true, if_false, eq_self, Nat.reduceEqDiff, Nat.reduceMul, reduceIte, kdT, ixT, w_cl, w_ti, w_s1, w_a, w_m12, w_m8, w_m3, w_m4]
    · rw [w1.1 38011408 (by decide) (by decide) (by decide) (by decide)]; simp only [hI_uI, hL_uI, hR_uI, nx_uI, sl_uI, hI_uL, hL_uL, hR_uL, nx_uL, sl_uL, hI_uR, hL_uR, hR_uR, nx_uR, sl_uR, st_eq, if_true, if_false, eq_self, Nat.reduceEqDiff, Nat.reduceMul, reduceIte, kdT, ixT, w_cl, w_ti, w_s1, w_a, w_m12, w_m8, w_m3, w_m4]
    · have w6 : ∀ Q, V_ xs (d - 1) 129 0 [vA (some 33554440), vI (Int32.ofNat p), vX 0, vX 0] [] (uI_ (uI_ h 33554440 (st_ (hI_ h 33554440) 0 0)) 38273552 f) Q ↔ Q (some (some (vI 0))) h2 := w5
      simp (disch := first | omega | assumption | decide | (apply bT_; decide)) only [s132_0, s132_1, s132_2, s132_5, s132_6, s132_7, s132_10, s132_13, s132_15, s132_16, s132_17, s132_20, s132_21, s132_22, s132_25, s132_28, s132_29, s132_31, s132_32, s132_35, s132_36, s132_39, K_v, K_0, acI, acA, acJ, acX, List.map_cons, List.map_nil, List.sum_cons, List.sum_nil, true_and, and_true, posT, b2_0, b2_1, bft, true_or, or_true, Nat.zero_le, Nat.reduceAdd, Nat.reduceLeDiff, hI_uI, hL_uI, hR_uI, nx_uI, sl_uI, hI_uL, hL_uL, hR_uL, nx_uL, sl_uL, hI_uR, hL_uR, hR_uR, nx_uR, sl_uR, st_eq, if_true, if_false, eq_self, Nat.reduceEqDiff, Nat.reduceMul, reduceIte, kdT, ixT, w_cl, w_ti, w_s1, w_a, w_m12, w_m8, w_m3, w_m4, c_misPlay hP.u0, e, f2, w6, kd_M, Bool.true_eq_false]
  | some w =>
    obtain ⟨b, c⟩ := w
    obtain ⟨⟨j1, j2⟩, j3, j4, j5⟩ := w4 b c rfl
    obtain ⟨g, g1, g2⟩ := c_mtakes (xs := xs) (d := d - 1) (kf2.ms hM) (kf2.mp (by decide) (by decide) hP) w2 hp12
    have hc3 : MC_ σ2 Hs2 f T2 U2 (uI_ (uI_ h2 33554440 (st_ (hI_ h2 33554440) 19 (Int32.ofNat p))) 38011408 g) := by
      have := w2.um (f := st_ (hI_ h2 33554440) 19 (Int32.ofNat p)) (by simp only [hI_uI, hL_uI, hR_uI, nx_uI, sl_uI, hI_uL, hL_uL, hR_uL, nx_uL, sl_uL, hI_uR, hL_uR, hR_uR, nx_uR, sl_uR, st_eq, if_true, if_false, eq_self, Nat.reduceEqDiff, Nat.reduceMul, reduceIte, kdT, ixT, w_cl, w_ti, w_s1, w_a, w_m12, w_m8, w_m3, w_m4])
      obtain ⟨e1, e2, e3, e4, e5, e6, e7⟩ := this
      exact ⟨by simp only [hI_uI, hL_uI, hR_uI, nx_uI, sl_uI, hI_uL, hL_uL, hR_uL, nx_uL, sl_uL, hI_uR, hL_uR, hR_uR, nx_uR, sl_uR, st_eq, if_true, if_false, eq_self, Nat.reduceEqDiff, Nat.reduceMul, reduceIte, kdT, ixT, w_cl, w_ti, w_s1, w_a, w_m12, w_m8, w_m3, w_m4] at e1 ⊢; exact e1, e2, fun q hq => by have := e3 q hq; simp only [hI_uI, hL_uI, hR_uI, nx_uI, sl_uI, hI_uL, hL_uL, hR_uL, nx_uL, sl_uL, hI_uR, hL_uR, hR_uR, nx_uR, sl_uR, st_eq, if_true, if_false, eq_self, Nat.reduceEqDiff, Nat.reduceMul, reduceIte, kdT, ixT, w_cl, w_ti, w_s1, w_a, w_m12, w_m8, w_m3, w_m4] at this ⊢; exact this, fun q hq => by have := e4 q hq; simp only [hI_uI, hL_uI, hR_uI, nx_uI, sl_uI, hI_uL, hL_uL, hR_uL, nx_uL, sl_uL, hI_uR, hL_uR, hR_uR, nx_uR, sl_uR, st_eq, if_true, if_false, eq_self, Nat.reduceEqDiff, Nat.reduceMul, reduceIte, kdT, ixT, w_cl, w_ti, w_s1, w_a, w_m12, w_m8, w_m3, w_m4] at this ⊢; exact this, e5, e6, e7⟩
    refine ⟨_, T2, U2, σ2, Hs2, f, some (b, c), (kf2.uM (by decide)).uI (Or.inr (Or.inr ⟨by decide, by decide⟩)), hc3, f1, ⟨w3, fun b' c' e => by cases e; exact ⟨j3, j4, j5⟩⟩, by simp only [hI_uI, hL_uI, hR_uI, nx_uI, sl_uI, hI_uL, hL_uL, hR_uL, nx_uL, sl_uL, hI_uR, hL_uR, hR_uR, nx_uR, sl_uR, st_eq, if_true, if_false, eq_self, Nat.reduceEqDiff, Nat.reduceMul, reduceIte, kdT, ixT, w_cl, w_ti, w_s1, w_a, w_m12, w_m8, w_m3, w_m4]; exact z0, fun e => (by cases e), fun b' c' e => ?_⟩
    cases e
    refine ⟨by simp only [hI_uI, hL_uI, hR_uI, nx_uI, sl_uI, hI_uL, hL_uL, hR_uL, nx_uL, sl_uL, hI_uR, hL_uR, hR_uR, nx_uR, sl_uR, st_eq, if_true, if_false, eq_self, Nat.reduceEqDiff, Nat.reduceMul, reduceIte, kdT, ixT, w_cl, w_ti, w_s1, w_a, w_m12, w_m8, w_m3, w_m4], fun r hr => by simp only [hI_uI, hL_uI, hR_uI, nx_uI, sl_uI, hI_uL, hL_uL, hR_uL, nx_uL, sl_uL, hI_uR, hL_uR, hR_uR, nx_uR, sl_uR, st_eq, if_true, if_false, eq_self, Nat.reduceEqDiff, Nat.reduceMul, reduceIte, kdT, ixT, w_cl, w_ti, w_s1, w_a, w_m12, w_m8, w_m3, w_m4]; exact g1 r hr, fun Q => ?_⟩
    have w6 : ∀ Q, V_ xs (d - 1) 129 0 [vA (some 33554440), vI (Int32.ofNat p), vX 0, vX 0] [] (uI_ (uI_ h 33554440 (st_ (hI_ h 33554440) 0 0)) 38273552 f) Q ↔ Q (some (some (vI 1))) h2 := w5
    have n2 : ¬ ((1 : Int32) = 0) := by decide
    unfold Do_ at g2
    simp (disch := first | omega | assumption | decide | (apply bT_; decide)) only [s132_0, s132_1, s132_2, s132_5, s132_6, s132_7, s132_10, s132_13, s132_15, s132_16, s132_17, s132_20, s132_21, s132_22, s132_25, s132_28, s132_29, s132_30, s132_31, s132_32, s132_35, s132_36, s132_39, K_v, K_0, acI, acA, acJ, acX, List.map_cons, List.map_nil, List.sum_cons, List.sum_nil, true_and, and_true, posT, b2_0, b2_1, bft, true_or, or_true, Nat.zero_le, Nat.reduceAdd, Nat.reduceLeDiff, hI_uI, hL_uI, hR_uI, nx_uI, sl_uI, hI_uL, hL_uL, hR_uL, nx_uL, sl_uL, hI_uR, hL_uR, hR_uR, nx_uR, sl_uR, st_eq, if_true, if_false, eq_self, Nat.reduceEqDiff, Nat.reduceMul, reduceIte, kdT, ixT, w_cl, w_ti, w_s1, w_a, w_m12, w_m8, w_m3, w_m4, c_misPlay hP.u0, e, f2, w6, g2, n2, j2, kd_M, Bool.true_eq_false]
theorem m_anew0 (hH : MH_ none Hd h) : Do_ xs d 133 [vA (some 33554440), vX 0] h (some (some (vI (-2)))) (uI_ h 33554440 (st_ (hI_ h 33554440) 0 0)) := by
  intro Q
  have e := hH.1
  rw [oi_n] at e
  simp (disch := first | omega | assumption | decide | (apply bT_; decide)) only [s133_0, s133_1, s133_2, s133_5, s133_6, s133_9, s133_10, s133_13, s133_15, s133_17, s133_18, s133_19, s133_21, s133_24, s133_25, s133_28, s133_29, s133_30, s133_33, s133_34, s133_35, s133_36, s133_39, s133_42, s133_43, s133_44, s133_47, s133_50, s133_53, s133_54, s133_55, s133_56, s133_57, s133_60, s133_63, s133_64, s133_67, K_v, K_0, acI, acA, acJ, acX, List.map_cons, List.map_nil, List.sum_cons, List.sum_nil, true_and, and_true, posT, b2_0, b2_1, bft, true_or, or_true, Nat.zero_le, Nat.reduceAdd, Nat.reduceLeDiff, hI_uI, hL_uI, hR_uI, nx_uI, sl_uI, hI_uL, hL_uL, hR_uL, nx_uL, sl_uL, hI_uR, hL_uR, hR_uR, nx_uR, sl_uR, st_eq, if_true, if_false, eq_self, Nat.reduceEqDiff, Nat.reduceMul, reduceIte, kdT, ixT, w_cl, w_ti, w_s1, w_a, w_m12, w_m8, w_m3, w_m4, e, kd_M]
theorem m_anew (hM : MS_ h) (hA : MA_ na F G h) (hP : MP_ P h) (hc : MC_ σ Hs O T U h) (hD : PD_ P) (hH : MH_ (some p) Hd h) (hd : 9 ≤ d) : ∃ h' T' U' σ' Hs' O' o, KM_ [38535696, 38273552, 38011408] [0, 19, 22, 26, 27] h h' ∧ MC_ σ' Hs' O' T' U' h' ∧ (∀ r, r < 8 → O' r = Hd r) ∧ CR_ F G P p na O' o Hs' ∧ hI_ h' 33554440 0 = 0 ∧
    (o = none → hI_ h' 33554440 19 = hI_ h 33554440 19 ∧ hI_ h' 38011408 = hI_ h 38011408 ∧ Do_ xs d 133 [vA (some 33554440), vX 0] h (some (some (vI (-1)))) h') ∧
    (∀ b c, o = some (b, c) → hI_ h' 33554440 19 = Int32.ofNat p ∧ (∀ r, r < 8 → hI_ h' 38011408 r = if r < qr_ P p then Hs' r else -1) ∧ Do_ xs d 133 [vA (some 33554440), vX 0] h (some (some (vI (Int32.ofNat b)))) h') := by
  obtain ⟨m1, m2, m3⟩ := id hH
  have hp12 : p < 12 := m2 p rfl
  rw [oi_s] at m1
  have nm1 : ¬ (Int32.ofNat p = -1) := fun z => by
    have := congrArg Int32.toInt z
    rw [w_ti (by omega)] at this
    have h1 : ((-1 : Int32)).toInt = -1 := rfl
    omega
  have kf0 : KM_ [38535696, 38273552, 38011408] [0, 19, 22, 26, 27] h (uI_ h 33554440 (st_ (hI_ h 33554440) 0 0)) := KM_.rf.uM (by decide)
  have hM0 := kf0.ms hM
  obtain ⟨f, f1, f2⟩ := loopX_ (P := fun Q t (x : Nat → Int32) => V_ xs d 133 18 [vA (some 33554440), vI (Int32.ofNat t)] [] (uI_ (uI_ h 33554440 (st_ (hI_ h 33554440) 0 0)) 38273552 x) Q) (n := 8) (fun t x => ∀ s, s < t → x s = Hd s) (fun t x ht hI => by
    refine ⟨st_ x t (Hd t), fun s hs => ?_, fun Q => ?_⟩
    · rw [st_eq]
      by_cases q : s = t
      · rw [if_pos q, q]
      · rw [if_neg q]; exact hI s (by omega)
    · have i8 : Int32.ofNat t < 8 := (w_lt (b := 8) (by omega) (by omega)).mpr ht
      have e3 := m3 t ht
      rw [s133_18]
      simp (disch := first | omega | assumption | decide | (apply bT_; decide)) only [s133_0, s133_1, s133_2, s133_5, s133_6, s133_9, s133_10, s133_13, s133_15, s133_16, s133_17, s133_19, s133_21, s133_24, s133_25, s133_28, s133_29, s133_30, s133_33, s133_34, s133_35, s133_36, s133_39, s133_43, s133_44, s133_47, s133_50, s133_53, s133_54, s133_55, s133_56, s133_57, s133_60, s133_63, s133_64, s133_67, K_v, K_0, acI, acA, acJ, acX, List.map_cons, List.map_nil, List.sum_cons, List.sum_nil, true_and, and_true, posT, b2_0, b2_1, bft, true_or, or_true, Nat.zero_le, Nat.reduceAdd, Nat.reduceLeDiff, hI_uI, hL_uI, hR_uI, nx_uI, sl_uI, hI_uL, hL_uL, hR_uL, nx_uL, sl_uL, hI_uR, hL_uR, hR_uR, nx_uR, sl_uR, st_eq, if_true, if_false, eq_self, Nat.reduceEqDiff, Nat.reduceMul, reduceIte, kdT, ixT, w_cl, w_ti, w_s1, w_a, w_m12, w_m8, w_m3, w_m4, hM.r2, hM.r3, hM.r4, hM.r5, hM.r6, hM.r7, hM.r9, hM.r10, hM.r11, hM.r12, hM.r13, hM.r14, hM.r15, hM.r16, hM.r17, hM.r18, hM.r20, hM.r21, hM.r23, hM.r29, hM.r30, hM.r35, hM.r36, hM.r37, hM.r38, hM.r40, hM.r42, hM.r43, hM.r44, hM.r45, hM.r46, hM.r47, e3, i8, uI_uI, kd_M, ln_M, kd_mOld, ln_mOld, kd_mHand, ln_mHand]) 8 0 (hI_ h 38273552) (by omega) (fun s hs => absurd hs (Nat.not_lt_zero _))
  have kf1 : KM_ [38535696, 38273552, 38011408] [0, 19, 22, 26, 27] h (uI_ (uI_ h 33554440 (st_ (hI_ h 33554440) 0 0)) 38273552 f) := kf0.uI (Or.inr (Or.inr ⟨by decide, by decide⟩))
  have hc1 := (hc.um (f := st_ (hI_ h 33554440) 0 0) (by simp only [hI_uI, hL_uI, hR_uI, nx_uI, sl_uI, hI_uL, hL_uL, hR_uL, nx_uL, sl_uL, hI_uR, hL_uR, hR_uR, nx_uR, sl_uR, st_eq, if_true, if_false, eq_self, Nat.reduceEqDiff, Nat.reduceMul, reduceIte, kdT, ixT, w_cl, w_ti, w_s1, w_a, w_m12, w_m8, w_m3, w_m4])).old (f := f)
  obtain ⟨h2, T2, U2, σ2, Hs2, o, w1, w2, w3, w4, w5⟩ := c_mcasts (xs := xs) (d := d - 1) (kf1.ms hM) (kf1.ma (by decide) (by decide) hA) (kf1.mp (by decide) (by decide) hP) hc1 hD hp12 (by omega)
  have kf2 := kf1.tr (w1.wk (by decide) (by decide))
  unfold Do_ at w5
  have z0 : hI_ h2 33554440 0 = 0 := by rw [w1.2.1 0 (by decide)]; simp only [hI_uI, hL_uI, hR_uI, nx_uI, sl_uI, hI_uL, hL_uL, hR_uL, nx_uL, sl_uL, hI_uR, hL_uR, hR_uR, nx_uR, sl_uR, st_eq, if_true, if_false, eq_self, Nat.reduceEqDiff, Nat.reduceMul, reduceIte, kdT, ixT, w_cl, w_ti, w_s1, w_a, w_m12, w_m8, w_m3, w_m4]
  have z19 : hI_ h2 33554440 19 = hI_ h 33554440 19 := by rw [w1.2.1 19 (by decide)]; simp only [hI_uI, hL_uI, hR_uI, nx_uI, sl_uI, hI_uL, hL_uL, hR_uL, nx_uL, sl_uL, hI_uR, hL_uR, hR_uR, nx_uR, sl_uR, st_eq, if_true, if_false, eq_self, Nat.reduceEqDiff, Nat.reduceMul, reduceIte, kdT, ixT, w_cl, w_ti, w_s1, w_a, w_m12, w_m8, w_m3, w_m4]
  have z19' : hI_ h2 33554440 19 = Int32.ofNat p := z19.trans m1
  have es : uI_ (uI_ h 33554440 (st_ (hI_ h 33554440) 0 0)) 38273552 (hI_ h 38273552) = uI_ h 33554440 (st_ (hI_ h 33554440) 0 0) := by
    have : hI_ h 38273552 = hI_ (uI_ h 33554440 (st_ (hI_ h 33554440) 0 0)) 38273552 := by simp only [hI_uI, hL_uI, hR_uI, nx_uI, sl_uI, hI_uL, hL_uL, hR_uL, nx_uL, sl_uL, hI_uR, hL_uR, hR_uR, nx_uR, sl_uR, st_eq, if_true, if_false, eq_self, Nat.reduceEqDiff, Nat.reduceMul, reduceIte, kdT, ixT, w_cl, w_ti, w_s1, w_a, w_m12, w_m8, w_m3, w_m4]
    rw [this, uI_self]
  have start : ∀ Q, V_ xs d 133 0 [vA (some 33554440), vX 0] [] h Q ↔ V_ xs d 133 42 [vA (some 33554440), vI (Int32.ofNat 8)] [] (uI_ (uI_ h 33554440 (st_ (hI_ h 33554440) 0 0)) 38273552 f) Q := by
    intro Q
    have e12 := f2 Q
    rw [es] at e12
    simp (disch := first | omega | assumption | decide | (apply bT_; decide)) only [s133_0, s133_1, s133_2, s133_5, s133_6, s133_9, s133_10, s133_13, s133_15, s133_16, s133_17, s133_19, s133_21, s133_24, s133_25, s133_28, s133_29, s133_30, s133_33, s133_34, s133_35, s133_36, s133_39, s133_43, s133_44, s133_47, s133_50, s133_53, s133_54, s133_55, s133_56, s133_57, s133_60, s133_63, s133_64, s133_67, K_v, K_0, acI, acA, acJ, acX, List.map_cons, List.map_nil, List.sum_cons, List.sum_nil, true_and, and_true, posT, b2_0, b2_1, bft, true_or, or_true, Nat.zero_le, Nat.reduceAdd, Nat.reduceLeDiff, hI_uI, hL_uI, hR_uI, nx_uI, sl_uI, hI_uL, hL_uL, hR_uL, nx_uL, sl_uL, hI_uR, hL_uR, hR_uR, nx_uR, sl_uR, st_eq, if_true, if_false, eq_self, Nat.reduceEqDiff, Nat.reduceMul, reduceIte, kdT, ixT, w_cl, w_ti, w_s1, w_a, w_m12, w_m8, w_m3, w_m4, m1, nm1, kd_M]
    refine (show V_ xs d 133 18 [vA (some 33554440), vI (Int32.ofNat 0)] [] (uI_ h 33554440 (st_ (hI_ h 33554440) 0 0)) Q ↔ _ from e12).trans ?_
    have nl : ¬ (Int32.ofNat 8 < 8) := by decide
    rw [s133_18]
    simp (disch := first | omega | assumption | decide | (apply bT_; decide)) only [s133_0, s133_1, s133_2, s133_5, s133_6, s133_9, s133_10, s133_13, s133_15, s133_16, s133_17, s133_19, s133_21, s133_24, s133_25, s133_28, s133_29, s133_30, s133_33, s133_34, s133_35, s133_36, s133_39, s133_43, s133_44, s133_47, s133_50, s133_53, s133_54, s133_55, s133_56, s133_57, s133_60, s133_63, s133_64, s133_67, K_v, K_0, acI, acA, acJ, acX, List.map_cons, List.map_nil, List.sum_cons, List.sum_nil, true_and, and_true, posT, b2_0, b2_1, bft, true_or, or_true, Nat.zero_le, Nat.reduceAdd, Nat.reduceLeDiff, hI_uI, hL_uI, hR_uI, nx_uI, sl_uI, hI_uL, hL_uL, hR_uL, nx_uL, sl_uL, hI_uR, hL_uR, hR_uR, nx_uR, sl_uR, st_eq, if_true, if_false, eq_self, Nat.reduceEqDiff, Nat.reduceMul, reduceIte, kdT, ixT, w_cl, w_ti, w_s1, w_a, w_m12, w_m8, w_m3, w_m4, nl]
  cases o with
  | none =>
    refine ⟨h2, T2, U2, σ2, Hs2, f, none, kf2, w2, f1, ⟨w3, fun b c e => by cases e⟩, z0, fun _ => ⟨z19, ?_, fun Q => (start Q).trans ?_⟩, fun b c e => by cases e⟩
    · rw [w1.1 38011408 (by decide) (by decide) (by decide) (by decide)]; simp only [hI_uI, hL_uI, hR_uI, nx_uI, sl_uI, hI_uL, hL_uL, hR_uL, nx_uL, sl_uL, hI_uR, hL_uR, hR_uR, nx_uR, sl_uR, st_eq, if_true, if_false, eq_self, Nat.reduceEqDiff, Nat.reduceMul, reduceIte, kdT, ixT, w_cl, w_ti, w_s1, w_a, w_m12, w_m8, w_m3, w_m4]
    · have w6 : ∀ Q, V_ xs (d - 1) 129 0 [vA (some 33554440), vI (Int32.ofNat p), vX 0, vX 0] [] (uI_ (uI_ h 33554440 (st_ (hI_ h 33554440) 0 0)) 38273552 f) Q ↔ Q (some (some (vI 0))) h2 := w5
      rw [s133_42]
      simp (disch := first | omega | assumption | decide | (apply bT_; decide)) only [s133_0, s133_1, s133_2, s133_5, s133_6, s133_9, s133_10, s133_13, s133_15, s133_16, s133_17, s133_18, s133_19, s133_21, s133_24, s133_25, s133_28, s133_29, s133_30, s133_33, s133_34, s133_35, s133_36, s133_39, s133_43, s133_44, s133_47, s133_50, s133_53, s133_54, s133_56, s133_57, s133_60, s133_63, s133_64, s133_67, K_v, K_0, acI, acA, acJ, acX, List.map_cons, List.map_nil, List.sum_cons, List.sum_nil, true_and, and_true, posT, b2_0, b2_1, bft, true_or, or_true, Nat.zero_le, Nat.reduceAdd, Nat.reduceLeDiff, hI_uI, hL_uI, hR_uI, nx_uI, sl_uI, hI_uL, hL_uL, hR_uL, nx_uL, sl_uL, hI_uR, hL_uR, hR_uR, nx_uR, sl_uR, st_eq, if_true, if_false, eq_self, Nat.reduceEqDiff, Nat.reduceMul, reduceIte, kdT, ixT, w_cl, w_ti, w_s1, w_a, w_m12, w_m8, w_m3, w_m4, m1, w6, kd_M, Bool.true_eq_false]
  | some w =>
    obtain ⟨b, c⟩ := w
    obtain ⟨⟨j1, j2⟩, j3, j4, j5⟩ := w4 b c rfl
    obtain ⟨g, g1, g2⟩ := c_mtakes (xs := xs) (d := d - 1) (kf2.ms hM) (kf2.mp (by decide) (by decide) hP) w2 hp12
    have hc3 : MC_ σ2 Hs2 f T2 U2 (uI_ (uI_ h2 33554440 (st_ (hI_ h2 33554440) 19 (Int32.ofNat p))) 38011408 g) := by
      have := w2.um (f := st_ (hI_ h2 33554440) 19 (Int32.ofNat p)) (by simp only [hI_uI, hL_uI, hR_uI, nx_uI, sl_uI, hI_uL, hL_uL, hR_uL, nx_uL, sl_uL, hI_uR, hL_uR, hR_uR, nx_uR, sl_uR, st_eq, if_true, if_false, eq_self, Nat.reduceEqDiff, Nat.reduceMul, reduceIte, kdT, ixT, w_cl, w_ti, w_s1, w_a, w_m12, w_m8, w_m3, w_m4])
      obtain ⟨e1, e2, e3, e4, e5, e6, e7⟩ := this
      exact ⟨by simp only [hI_uI, hL_uI, hR_uI, nx_uI, sl_uI, hI_uL, hL_uL, hR_uL, nx_uL, sl_uL, hI_uR, hL_uR, hR_uR, nx_uR, sl_uR, st_eq, if_true, if_false, eq_self, Nat.reduceEqDiff, Nat.reduceMul, reduceIte, kdT, ixT, w_cl, w_ti, w_s1, w_a, w_m12, w_m8, w_m3, w_m4] at e1 ⊢; exact e1, e2, fun q hq => by have := e3 q hq; simp only [hI_uI, hL_uI, hR_uI, nx_uI, sl_uI, hI_uL, hL_uL, hR_uL, nx_uL, sl_uL, hI_uR, hL_uR, hR_uR, nx_uR, sl_uR, st_eq, if_true, if_false, eq_self, Nat.reduceEqDiff, Nat.reduceMul, reduceIte, kdT, ixT, w_cl, w_ti, w_s1, w_a, w_m12, w_m8, w_m3, w_m4] at this ⊢; exact this, fun q hq => by have := e4 q hq; simp only [hI_uI, hL_uI, hR_uI, nx_uI, sl_uI, hI_uL, hL_uL, hR_uL, nx_uL, sl_uL, hI_uR, hL_uR, hR_uR, nx_uR, sl_uR, st_eq, if_true, if_false, eq_self, Nat.reduceEqDiff, Nat.reduceMul, reduceIte, kdT, ixT, w_cl, w_ti, w_s1, w_a, w_m12, w_m8, w_m3, w_m4] at this ⊢; exact this, e5, e6, e7⟩
    refine ⟨_, T2, U2, σ2, Hs2, f, some (b, c), (kf2.uM (by decide)).uI (Or.inr (Or.inr ⟨by decide, by decide⟩)), hc3, f1, ⟨w3, fun b' c' e => by cases e; exact ⟨j3, j4, j5⟩⟩, by simp only [hI_uI, hL_uI, hR_uI, nx_uI, sl_uI, hI_uL, hL_uL, hR_uL, nx_uL, sl_uL, hI_uR, hL_uR, hR_uR, nx_uR, sl_uR, st_eq, if_true, if_false, eq_self, Nat.reduceEqDiff, Nat.reduceMul, reduceIte, kdT, ixT, w_cl, w_ti, w_s1, w_a, w_m12, w_m8, w_m3, w_m4]; exact z0, fun e => (by cases e), fun b' c' e => ?_⟩
    cases e
    refine ⟨by simp only [hI_uI, hL_uI, hR_uI, nx_uI, sl_uI, hI_uL, hL_uL, hR_uL, nx_uL, sl_uL, hI_uR, hL_uR, hR_uR, nx_uR, sl_uR, st_eq, if_true, if_false, eq_self, Nat.reduceEqDiff, Nat.reduceMul, reduceIte, kdT, ixT, w_cl, w_ti, w_s1, w_a, w_m12, w_m8, w_m3, w_m4], fun r hr => by simp only [hI_uI, hL_uI, hR_uI, nx_uI, sl_uI, hI_uL, hL_uL, hR_uL, nx_uL, sl_uL, hI_uR, hL_uR, hR_uR, nx_uR, sl_uR, st_eq, if_true, if_false, eq_self, Nat.reduceEqDiff, Nat.reduceMul, reduceIte, kdT, ixT, w_cl, w_ti, w_s1, w_a, w_m12, w_m8, w_m3, w_m4]; exact g1 r hr, fun Q => (start Q).trans ?_⟩
    have w6 : ∀ Q, V_ xs (d - 1) 129 0 [vA (some 33554440), vI (Int32.ofNat p), vX 0, vX 0] [] (uI_ (uI_ h 33554440 (st_ (hI_ h 33554440) 0 0)) 38273552 f) Q ↔ Q (some (some (vI 1))) h2 := w5
    have n2 : ¬ ((1 : Int32) = 0) := by decide
    unfold Do_ at g2
    rw [s133_42]
    simp (disch := first | omega | assumption | decide | (apply bT_; decide)) only [s133_0, s133_1, s133_2, s133_5, s133_6, s133_9, s133_10, s133_13, s133_15, s133_16, s133_17, s133_18, s133_19, s133_21, s133_24, s133_25, s133_28, s133_29, s133_30, s133_33, s133_34, s133_35, s133_36, s133_39, s133_43, s133_44, s133_47, s133_50, s133_53, s133_54, s133_55, s133_56, s133_57, s133_60, s133_63, s133_64, s133_67, K_v, K_0, acI, acA, acJ, acX, List.map_cons, List.map_nil, List.sum_cons, List.sum_nil, true_and, and_true, posT, b2_0, b2_1, bft, true_or, or_true, Nat.zero_le, Nat.reduceAdd, Nat.reduceLeDiff, hI_uI, hL_uI, hR_uI, nx_uI, sl_uI, hI_uL, hL_uL, hR_uL, nx_uL, sl_uL, hI_uR, hL_uR, hR_uR, nx_uR, sl_uR, st_eq, if_true, if_false, eq_self, Nat.reduceEqDiff, Nat.reduceMul, reduceIte, kdT, ixT, w_cl, w_ti, w_s1, w_a, w_m12, w_m8, w_m3, w_m4, m1, z19', w6, g2, n2, j1, kd_M, Bool.true_eq_false]
noncomputable def mpb_ (F G : Nat → Nat → Int32) (P : PS) (na p : Nat) : Bool := @decide (∃ x y, EL_ F G P p 0 (fun _ => 0) (fun _ => -1) na (2 ^ qr_ P p) x y) (Classical.propDecidable _)
theorem EL_old {O' : Nat → Int32} {n x y : Nat} (h8 : qr_ P p ≤ 8) (he : ∀ j, j < 8 → O j = O' j) : EL_ F G P p σ Hs O na n x y ↔ EL_ F G P p σ Hs O' na n x y := by
  have e1 : ∀ f, cw_ 8 (gm_ O) f = cw_ 8 (gm_ O') f := by
    intro f
    unfold cw_
    apply sm_congr
    intro r hr
    cases hf : f r with
    | zero => rfl
    | succ b => show (if O r = -1 ∨ O r = Int32.ofNat b then 0 else 1) = (if O' r = -1 ∨ O' r = Int32.ofNat b then 0 else 1); rw [he r hr]
  have e2 : ∀ s, hc_ P p O s (qr_ P p) = hc_ P p O' s (qr_ P p) := by
    intro s
    unfold hc_
    apply sm_congr
    intro r hr
    rw [he r (by omega)]
  unfold EL_ RM_ R_
  simp only [e1, e2]
theorem c_misPlayable (hM : MS_ h) (hA : MA_ na F G h) (hP : MP_ P h) (hc : MC_ σ Hs O T U h) (hD : PD_ P) (hp : p < 12) (hd : 7 ≤ d) : ∃ h' T' U' σ' Hs' O', KM_ [38535696, 38273552, 38011408] [0, 22, 26, 27] h h' ∧ hI_ h' 33554440 0 = hI_ h 33554440 0 ∧ hI_ h' 38011408 = hI_ h 38011408 ∧ MC_ σ' Hs' O' T' U' h' ∧ Do_ xs d 135 [vA (some 33554440), vI (Int32.ofNat p)] h (some (some (vI (b2_ (mpb_ F G P na p))))) h' := by
  have h8 := hP.2.1.2.2.1 p
  obtain ⟨f, f1, f2⟩ := c_mforgets (xs := xs) (d := d - 1) hM
  have kf1 : KM_ [38535696, 38273552, 38011408] [0, 22, 26, 27] h (uI_ (uI_ h 38273552 f) 33554440 (st_ (hI_ (uI_ h 38273552 f) 33554440) 22 (Int32.ofNat 0))) := (KM_.rf.uI (Or.inr (Or.inr ⟨by decide, by decide⟩))).uM (by decide)
  have hc1 := (hc.old (f := f)).set (τ := 0) (by omega)
  obtain ⟨h2, T2, U2, o, w1, w2, w3, w4, w5⟩ := c_mfinds (xs := xs) (d := d - 1) (kf1.ms hM) (kf1.ma (by decide) (by decide) hA) (kf1.mp (by decide) (by decide) hP) hc1 hD hp (by omega)
  have kf2 := kf1.tr (w1.wk (by decide) (by decide))
  unfold Do_ at f2 w5
  have eo : o.isSome = mpb_ F G P na p := by
    have hcg : ∀ x y, EL_ F G P p 0 Hs f na (2 ^ qr_ P p) x y ↔ EL_ F G P p 0 (fun _ => 0) (fun _ => -1) na (2 ^ qr_ P p) x y := fun x y => (EL_congr (fun j hj => absurd hj (Nat.not_lt_zero _))).trans (EL_old h8 f1)
    unfold mpb_
    cases o with
    | none => exact (@decide_eq_false _ (Classical.propDecidable _) (fun ⟨x, y, hv⟩ => w3 x y ((hcg x y).mpr hv))).symm
    | some w => exact (@decide_eq_true _ (Classical.propDecidable _) ⟨w.1, w.2, (hcg _ _).mp w3.1⟩).symm
  refine ⟨h2, T2, U2, 0, Hs, f, kf2, ?_, ?_, w2, fun Q => ?_⟩
  · rw [w1.2.1 0 (by decide)]; simp only [hI_uI, hL_uI, hR_uI, nx_uI, sl_uI, hI_uL, hL_uL, hR_uL, nx_uL, sl_uL, hI_uR, hL_uR, hR_uR, nx_uR, sl_uR, st_eq, if_true, if_false, eq_self, Nat.reduceEqDiff, Nat.reduceMul, reduceIte, kdT, ixT, w_cl, w_ti, w_s1, w_a, w_m12, w_m8, w_m3, w_m4]
  · rw [w1.1 38011408 (by decide) (by decide) (by decide) (by decide)]; simp only [hI_uI, hL_uI, hR_uI, nx_uI, sl_uI, hI_uL, hL_uL, hR_uL, nx_uL, sl_uL, hI_uR, hL_uR, hR_uR, nx_uR, sl_uR, st_eq, if_true, if_false, eq_self, Nat.reduceEqDiff, Nat.reduceMul, reduceIte, kdT, ixT, w_cl, w_ti, w_s1, w_a, w_m12, w_m8, w_m3, w_m4]
  · rw [eo] at w5
    have w6 : ∀ Q, V_ xs (d - 1) 127 0 [vA (some 33554440), vI (Int32.ofNat p), vX 0, vX 0, vX 0, vX 0] [] (uI_ (uI_ h 38273552 f) 33554440 (st_ (hI_ h 33554440) 22 0)) Q ↔ Q (some (some (vI (b2_ (mpb_ F G P na p))))) h2 := fun Q => by have := w5 Q; simp only [hI_uI, hL_uI, hR_uI, nx_uI, sl_uI, hI_uL, hL_uL, hR_uL, nx_uL, sl_uL, hI_uR, hL_uR, hR_uR, nx_uR, sl_uR, st_eq, if_true, if_false, eq_self, Nat.reduceEqDiff, Nat.reduceMul, reduceIte, kdT, ixT, w_cl, w_ti, w_s1, w_a, w_m12, w_m8, w_m3, w_m4] at this; exact this
    simp (disch := first | omega | assumption | decide | (apply bT_; decide)) only [s135_0, s135_1, s135_4, s135_5, s135_6, s135_9, s135_10, s135_11, s135_14, K_v, K_0, acI, acA, acJ, acX, List.map_cons, List.map_nil, List.sum_cons, List.sum_nil, true_and, and_true, posT, b2_0, b2_1, bft, true_or, or_true, Nat.zero_le, Nat.reduceAdd, Nat.reduceLeDiff, hI_uI, hL_uI, hR_uI, nx_uI, sl_uI, hI_uL, hL_uL, hR_uL, nx_uL, sl_uL, hI_uR, hL_uR, hR_uR, nx_uR, sl_uR, st_eq, if_true, if_false, eq_self, Nat.reduceEqDiff, Nat.reduceMul, reduceIte, kdT, ixT, w_cl, w_ti, w_s1, w_a, w_m12, w_m8, w_m3, w_m4, f2, w6, kd_M]
end MFB
