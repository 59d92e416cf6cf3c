/-! the week: the class weighs the changes -/
def CG_ (P : PS) (l : List Nat) (h : AH) : Prop := ∀ i j, i < l.length → j < l.length → hI_ h 27529232 (8 * i + j) = Int32.ofNat (wk_ P (l.getD i 0) (l.getD j 0))
section CWE
variable {xs : Nat → Int32} {d : Nat} {h : AH} {Q : OU_ → AH → Prop} {P : PS} {sp : Nat → Nat} {l : List Nat}
theorem c_weigh (hC : CS_ h) (hP : CP_ P sp h) (hB : PB_ P) (hl : l.length ≤ 8) (hq : ∀ j, j < l.length → l.getD j 0 < qn_ P) (hM : ME_ l h) (hd : 2 ≤ d) : ∃ f, CG_ P l (uI_ h 27529232 f) ∧ Do_ xs d 56 [vA (some 27000838), vA (some 25690901), vX 0, vX 0] h (some none) (uI_ h 27529232 f) := by
  have h12 := hP.2.1.1
  obtain ⟨m1, m2⟩ := id hM
  have hb : kd_ 25690901 = 20 ∨ kd_ 25690901 = 21 ∨ kd_ 25690901 = 22 := Or.inr (Or.inl rfl)
  have w8 : ∀ i, i < 8 → ∀ j, j < 8 → Int32.ofNat i * 8 + Int32.ofNat j = Int32.ofNat (8 * i + j) := by decide +kernel
  have inner : ∀ i, i < l.length → ∀ (f : Nat → Int32) (v3 : AV), (∀ i' j, i' < i → j < l.length → f (8 * i' + j) = Int32.ofNat (wk_ P (l.getD i' 0) (l.getD j 0))) → ∃ f', (∀ i' j, i' < i + 1 → j < l.length → f' (8 * i' + j) = Int32.ofNat (wk_ P (l.getD i' 0) (l.getD j 0))) ∧ ∀ Q, V_ xs d 56 12 [vA (some 27000838), vA (some 25690901), vI (Int32.ofNat i), vI (Int32.ofNat 0)] [] (uI_ h 27529232 f) Q ↔ V_ xs d 56 56 [vA (some 27000838), vA (some 25690901), vI (Int32.ofNat i), vI (Int32.ofNat l.length)] [] (uI_ h 27529232 f') Q := by
    intro i hi f v3 hf
    obtain ⟨f', k1, k2⟩ := loopX_ (P := fun Q j (f : Nat → Int32) => V_ xs d 56 12 [vA (some 27000838), vA (some 25690901), vI (Int32.ofNat i), vI (Int32.ofNat j)] [] (uI_ h 27529232 f) Q) (n := l.length) (fun j f => (∀ i' j, i' < i → j < l.length → f (8 * i' + j) = Int32.ofNat (wk_ P (l.getD i' 0) (l.getD j 0))) ∧ ∀ j', j' < j → f (8 * i + j') = Int32.ofNat (wk_ P (l.getD i 0) (l.getD j' 0))) (fun j f hj hI => by
      obtain ⟨i1, i2⟩ := hI
      refine ⟨st_ f (8 * i + j) (Int32.ofNat (wk_ P (l.getD i 0) (l.getD j 0))), ⟨fun i' j' q1 q2 => ?_, fun j' q1 => ?_⟩, fun Q => ?_⟩
      · rw [st_eq, if_neg (by omega)]; exact i1 i' j' q1 q2
      · rw [st_eq]
        by_cases q : j' = j
        · rw [if_pos (by omega), q]
        · rw [if_neg (by omega)]; exact i2 j' (by omega)
      · have hqi := hq i hi
        have hqj := hq j hj
        have kp : KP_ h (uI_ h 27529232 f) := KP_.rf.uI (by decide)
        have hPx := kp.cp hP
        have e1 := (hP.2.2.1 _ hqi).1
        have e2 := (hP.2.2.1 _ hqj).1
        have e3 := m2 i hi
        have e4 := m2 j hj
        have e5 := w8 i (by omega) j (by omega)
        have hch := fun Q => c_changeBetween (xs := xs) (d := d - 1) (Q := Q) hPx hB hqi hqj (by omega)
        rw [s56_12]
        simp (disch := first | omega | assumption | decide | (apply bT_; decide)) only [s56_0, s56_1, s56_2, s56_3, s56_4, s56_7, s56_10, s56_11, s56_13, s56_14, s56_17, s56_20, s56_21, s56_24, s56_25, s56_27, s56_28, s56_29, s56_30, s56_31, s56_32, s56_35, s56_36, s56_37, s56_38, s56_39, s56_40, s56_43, s56_44, s56_45, s56_46, s56_49, s56_50, s56_53, s56_59, s56_62, K_v, K_0, acI, acA, acJ, acX, List.map_cons, List.map_nil, List.sum_cons, List.sum_nil, true_and, and_true, posT, b2_0, b2_1, bft, true_or, or_true, Nat.zero_le, Nat.reduceAdd, Nat.reduceLeDiff, hI_uI, hL_uI, hR_uI, nx_uI, sl_uI, hI_uL, hL_uL, hR_uL, nx_uL, sl_uL, hI_uR, hL_uR, hR_uR, nx_uR, sl_uR, st_eq, if_true, if_false, eq_self, Nat.reduceEqDiff, Nat.reduceMul, reduceIte, kdT, ixT, w_cl, w_ti, w_s1, w_a, w_m12, w_m8, w_m3, w_m4, hC.x0, hC.x2, hC.x4, hC.x7, hC.x8, hC.x9, hC.x11, hC.f0, hC.f1, hC.f2, hC.p0, hC.p1, hC.p2, hC.p3, hC.l1, hC.l2, hC.l3, hC.l4, hC.d0, hC.d1, hC.d2, hC.g1, hC.g2, hC.g3, hC.g4, hC.k1, hC.k2, hC.k3, hC.k4, m1, hj, e1, e2, e3, e4, e5, hch, w_lt, uI_uI, kd_REP, ln_REP, kd_PL, ln_PL, kd_MEM, ln_MEM, kd_CHG, ln_CHG]) l.length 0 f (by omega) ⟨hf, fun j' hj' => absurd hj' (Nat.not_lt_zero _)⟩
    refine ⟨f', fun i' j q1 q2 => ?_, fun Q => (k2 Q).trans ?_⟩
    · by_cases q : i' = i
      · rw [q]; exact k1.2 j q2
      · exact k1.1 i' j (by omega) q2
    · have nl : ¬ (l.length < l.length) := by omega
      rw [s56_12]
      simp (disch := first | omega | assumption | decide | (apply bT_; decide)) only [s56_0, s56_1, s56_2, s56_3, s56_4, s56_7, s56_10, s56_11, s56_13, s56_14, s56_17, s56_21, s56_24, s56_25, s56_27, s56_28, s56_29, s56_30, s56_31, s56_32, s56_35, s56_36, s56_37, s56_38, s56_39, s56_40, s56_43, s56_44, s56_45, s56_46, s56_49, s56_50, s56_53, s56_59, s56_62, K_v, K_0, acI, acA, acJ, acX, List.map_cons, List.map_nil, List.sum_cons, List.sum_nil, true_and, and_true, posT, b2_0, b2_1, bft, true_or, or_true, Nat.zero_le, Nat.reduceAdd, Nat.reduceLeDiff, hI_uI, hL_uI, hR_uI, nx_uI, sl_uI, hI_uL, hL_uL, hR_uL, nx_uL, sl_uL, hI_uR, hL_uR, hR_uR, nx_uR, sl_uR, st_eq, if_true, if_false, eq_self, Nat.reduceEqDiff, Nat.reduceMul, reduceIte, kdT, ixT, w_cl, w_ti, w_s1, w_a, w_m12, w_m8, w_m3, w_m4, m1, nl, w_lt, kd_PL, ln_PL]
  obtain ⟨⟨f, v3⟩, k1, k2⟩ := loopX_ (P := fun Q i (x : (Nat → Int32) × AV) => V_ xs d 56 2 [vA (some 27000838), vA (some 25690901), vI (Int32.ofNat i), x.2] [] (uI_ h 27529232 x.1) Q) (n := l.length) (fun i x => ∀ i' j, i' < i → j < l.length → x.1 (8 * i' + j) = Int32.ofNat (wk_ P (l.getD i' 0) (l.getD j 0))) (fun i x hi hI => by
    obtain ⟨f, v3⟩ := x
    obtain ⟨f', g1, g2⟩ := inner i hi f v3 hI
    refine ⟨(f', vI (Int32.ofNat l.length)), g1, fun Q => ?_⟩
    dsimp only
    rw [s56_2]
    simp (disch := first | omega | assumption | decide | (apply bT_; decide)) only [s56_0, s56_1, s56_3, s56_4, s56_7, s56_10, s56_11, s56_13, s56_14, s56_17, s56_20, s56_21, s56_24, s56_25, s56_27, s56_28, s56_29, s56_30, s56_31, s56_32, s56_35, s56_36, s56_37, s56_38, s56_39, s56_40, s56_43, s56_44, s56_45, s56_46, s56_49, s56_50, s56_53, s56_56, s56_59, K_v, K_0, acI, acA, acJ, acX, List.map_cons, List.map_nil, List.sum_cons, List.sum_nil, true_and, and_true, posT, b2_0, b2_1, bft, true_or, or_true, Nat.zero_le, Nat.reduceAdd, Nat.reduceLeDiff, hI_uI, hL_uI, hR_uI, nx_uI, sl_uI, hI_uL, hL_uL, hR_uL, nx_uL, sl_uL, hI_uR, hL_uR, hR_uR, nx_uR, sl_uR, st_eq, if_true, if_false, eq_self, Nat.reduceEqDiff, Nat.reduceMul, reduceIte, kdT, ixT, w_cl, w_ti, w_s1, w_a, w_m12, w_m8, w_m3, w_m4, m1, hi, w_lt, kd_PL, ln_PL]
    refine (g2 Q).trans ?_
    rw [s56_56]
    simp (disch := first | omega | assumption | decide | (apply bT_; decide)) only [s56_0, s56_1, s56_3, s56_4, s56_7, s56_10, s56_11, s56_12, s56_13, s56_14, s56_17, s56_20, s56_21, s56_24, s56_25, s56_27, s56_28, s56_29, s56_30, s56_31, s56_32, s56_35, s56_36, s56_37, s56_38, s56_39, s56_40, s56_43, s56_44, s56_45, s56_46, s56_49, s56_50, s56_53, s56_59, s56_62, K_v, K_0, acI, acA, acJ, acX, List.map_cons, List.map_nil, List.sum_cons, List.sum_nil, true_and, and_true, posT, b2_0, b2_1, bft, true_or, or_true, Nat.zero_le, Nat.reduceAdd, Nat.reduceLeDiff, hI_uI, hL_uI, hR_uI, nx_uI, sl_uI, hI_uL, hL_uL, hR_uL, nx_uL, sl_uL, hI_uR, hL_uR, hR_uR, nx_uR, sl_uR, st_eq, if_true, if_false, eq_self, Nat.reduceEqDiff, Nat.reduceMul, reduceIte, kdT, ixT, w_cl, w_ti, w_s1, w_a, w_m12, w_m8, w_m3, w_m4]) l.length 0 (hI_ h 27529232, vX 0) (by omega) (fun i' j q => absurd q (Nat.not_lt_zero _))
  refine ⟨f, fun i j hi hj => by simp only [hI_uI, hL_uI, hR_uI, nx_uI, sl_uI, hI_uL, hL_uL, hR_uL, nx_uL, sl_uL, hI_uR, hL_uR, hR_uR, nx_uR, sl_uR, st_eq, if_true, if_false, eq_self, Nat.reduceEqDiff, Nat.reduceMul, reduceIte, kdT, ixT, w_cl, w_ti, w_s1, w_a, w_m12, w_m8, w_m3, w_m4]; exact k1 i j hi hj, fun Q => ?_⟩
  have e12 := k2 Q
  dsimp only at e12
  rw [uI_self] at e12
  simp (disch := first | omega | assumption | decide | (apply bT_; decide)) only [s56_0, s56_1, s56_3, s56_4, s56_7, s56_10, s56_11, s56_12, s56_13, s56_14, s56_17, s56_20, s56_21, s56_24, s56_25, s56_27, s56_28, s56_29, s56_30, s56_31, s56_32, s56_35, s56_36, s56_37, s56_38, s56_39, s56_40, s56_43, s56_44, s56_45, s56_46, s56_49, s56_50, s56_53, s56_56, s56_59, s56_62, K_v, K_0, acI, acA, acJ, acX, List.map_cons, List.map_nil, List.sum_cons, List.sum_nil, true_and, and_true, posT, b2_0, b2_1, bft, true_or, or_true, Nat.zero_le, Nat.reduceAdd, Nat.reduceLeDiff, hI_uI, hL_uI, hR_uI, nx_uI, sl_uI, hI_uL, hL_uL, hR_uL, nx_uL, sl_uL, hI_uR, hL_uR, hR_uR, nx_uR, sl_uR, st_eq, if_true, if_false, eq_self, Nat.reduceEqDiff, Nat.reduceMul, reduceIte, kdT, ixT, w_cl, w_ti, w_s1, w_a, w_m12, w_m8, w_m3, w_m4]
  refine (show V_ xs d 56 2 [vA (some 27000838), vA (some 25690901), vI (Int32.ofNat 0), vX 0] [] h Q ↔ _ from e12).trans ?_
  have nl : ¬ (l.length < l.length) := by omega
  rw [s56_2]
  simp (disch := first | omega | assumption | decide | (apply bT_; decide)) only [s56_0, s56_1, s56_3, s56_4, s56_7, s56_11, s56_12, s56_13, s56_14, s56_17, s56_20, s56_21, s56_24, s56_25, s56_27, s56_28, s56_29, s56_30, s56_31, s56_32, s56_35, s56_36, s56_37, s56_38, s56_39, s56_40, s56_43, s56_44, s56_45, s56_46, s56_49, s56_50, s56_53, s56_56, s56_59, s56_62, K_v, K_0, acI, acA, acJ, acX, List.map_cons, List.map_nil, List.sum_cons, List.sum_nil, true_and, and_true, posT, b2_0, b2_1, bft, true_or, or_true, Nat.zero_le, Nat.reduceAdd, Nat.reduceLeDiff, hI_uI, hL_uI, hR_uI, nx_uI, sl_uI, hI_uL, hL_uL, hR_uL, nx_uL, sl_uL, hI_uR, hL_uR, hR_uR, nx_uR, sl_uR, st_eq, if_true, if_false, eq_self, Nat.reduceEqDiff, Nat.reduceMul, reduceIte, kdT, ixT, w_cl, w_ti, w_s1, w_a, w_m12, w_m8, w_m3, w_m4, m1, nl, w_lt, kd_PL, ln_PL]
end CWE
