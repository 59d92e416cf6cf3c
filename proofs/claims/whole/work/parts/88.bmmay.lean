/-! the model: may, paid, isKept, broken, about -/
abbrev hoJ_ : List Nat := [0, 49, 50, 51, 52, 53, 54, 55, 56, 57]
section MMY
variable {xs : Nat → Int32} {d : Nat} {h : AH} {na : Nat} {F G : Nat → Nat → Int32} {hp : Option Nat} {Hd : Nat → Int32} {a : Nat} {day : Int32} {L : List Trm_}
theorem m_may {v : Int32} (hB : MB_ na F G hp Hd L h) (hd : 39 ≤ d) : ∃ h', KH_ [] hoJ_ h h' ∧ Do_ xs d 168 [vA (some 33554440), vI v, vI day, vX 0] h (some (some (vI (if 0 ≤ v.toInt ∧ v.toInt < na then (if an_ (mayb_ L (env_ F G hp Hd v.toNatClampNeg day)) L.length 0 = true then 0 else 1) else -1)))) h' := by
  have k0 : KH_ [] hoJ_ h (uI_ h 33554440 (st_ (hI_ h 33554440) 0 0)) := KH_.rf.uM (by decide)
  have hB0 := MB_.kh k0 (by decide) hB
  have hna := hB.2.1.2.1
  have k10 : ¬ ((1 : Int32) = 0) := by decide
  by_cases q : 0 ≤ v.toInt ∧ v.toInt < na
  · obtain ⟨a, rfl, e2, e3⟩ := w_of (x := v) q.1
    have ha : a < na := by omega
    have hcl : (Int32.ofNat a).toNatClampNeg = a := w_cl e3
    rw [if_pos q, hcl]
    have key : ∀ (k i : Nat) (x : AH), i + k = L.length → KH_ [] hoJ_ h x → ∃ x', KH_ [] hoJ_ h x' ∧ ∀ Q, V_ xs d 168 17 [vA (some 33554440), vI (Int32.ofNat a), vI day, vI (Int32.ofNat i)] [] x Q ↔ Q (some (some (vI (if an_ (mayb_ L (env_ F G hp Hd a day)) k i = true then 0 else 1)))) x' := by
      intro k
      induction k with
      | zero =>
        intro i x hi kx
        have hBx := MB_.kh kx (by decide) hB
        obtain ⟨b1, b2, b3, b4, ⟨B, N, c1, c2, c3, c4, c5, c6⟩, b6⟩ := id hBx
        have nl : ¬ (i < L.length) := by omega
        refine ⟨x, kx, fun Q => ?_⟩
        show _ ↔ Q (some (some (vI 1))) x
        rw [s168_17]
        simp (disch := first | omega | assumption | decide | (apply bT_; decide)) only [s168_0, s168_1, s168_2, s168_5, s168_6, s168_7, s168_10, s168_13, s168_14, s168_15, s168_16, s168_18, s168_19, s168_22, s168_26, s168_29, s168_30, s168_31, s168_33, s168_36, s168_37, s168_38, s168_39, s168_40, s168_43, s168_46, s168_47, s168_48, s168_51, s168_54, s168_55, K_v, K_0, acI, acA, acJ, acX, List.map_cons, List.map_nil, List.sum_cons, List.sum_nil, true_and, and_true, posT, b2_0, b2_1, bft, true_or, or_true, Nat.zero_le, Nat.reduceAdd, Nat.reduceLeDiff, hI_uI, hL_uI, hR_uI, nx_uI, sl_uI, hI_uL, hL_uL, hR_uL, nx_uL, sl_uL, hI_uR, hL_uR, hR_uR, nx_uR, sl_uR, st_eq, if_true, if_false, eq_self, Nat.reduceEqDiff, Nat.reduceMul, reduceIte, kdT, ixT, w_cl, w_ti, w_s1, w_a, w_m12, w_m8, w_m3, w_m4, c3, nl, w_lt, kd_M, ln_M]
      | succ k ih =>
        intro i x hk kx
        have hi : i < L.length := by omega
        have hBx := MB_.kh kx (by decide) hB
        obtain ⟨b1, b2, b3, b4, ⟨B, N, c1, c2, c3, c4, c5, c6⟩, b6⟩ := id hBx
        obtain ⟨w1, w2, -⟩ := b6.1 i hi
        have ek := (c5 i hi).1
        have ek' : hI_ x 41157264 i = Int32.ofNat (knd_ L i) := ek
        have teq : Int32.ofNat (knd_ L i) = 10 ↔ knd_ L i = 10 := w_eq (b := 10) (by omega) (by omega)
        have ea : an_ (mayb_ L (env_ F G hp Hd a day)) (k + 1) i = (mayb_ L (env_ F G hp Hd a day) i || an_ (mayb_ L (env_ F G hp Hd a day)) k (i + 1)) := rfl
        by_cases q1 : knd_ L i = 10
        · have t1 := teq.mpr q1
          obtain ⟨y, g1, g2⟩ := m_holds (xs := xs) (d := d - 1) (day := day) hBx hi ha (by omega)
          cases hv : hlv_ L i (env_ F G hp Hd a day)
          · rw [hv] at g2
            have g2' : ∀ Q : OU_ → AH → Prop, V_ xs (d - 1) 167 0 [vA (some 33554440), vI (Int32.ofNat i), vI (Int32.ofNat a), vI day] [] x Q ↔ Q (some (some (vI 0))) y := g2
            refine ⟨y, kx.tr (g1.mono (by decide) (by decide)), fun Q => ?_⟩
            have em : mayb_ L (env_ F G hp Hd a day) i = true := by unfold mayb_; rw [decide_eq_true q1, hv]; rfl
            rw [ea, em, Bool.true_or, if_pos rfl, s168_17]
            simp (disch := first | omega | assumption | decide | (apply bT_; decide)) only [s168_0, s168_1, s168_2, s168_5, s168_6, s168_7, s168_10, s168_13, s168_14, s168_15, s168_16, s168_18, s168_19, s168_22, s168_25, s168_26, s168_29, s168_30, s168_31, s168_33, s168_36, s168_37, s168_38, s168_39, s168_40, s168_43, s168_46, s168_47, s168_51, s168_55, K_v, K_0, acI, acA, acJ, acX, List.map_cons, List.map_nil, List.sum_cons, List.sum_nil, true_and, and_true, posT, b2_0, b2_1, bft, true_or, or_true, Nat.zero_le, Nat.reduceAdd, Nat.reduceLeDiff, hI_uI, hL_uI, hR_uI, nx_uI, sl_uI, hI_uL, hL_uL, hR_uL, nx_uL, sl_uL, hI_uR, hL_uR, hR_uR, nx_uR, sl_uR, st_eq, if_true, if_false, eq_self, Nat.reduceEqDiff, Nat.reduceMul, reduceIte, kdT, ixT, w_cl, w_ti, w_s1, w_a, w_m12, w_m8, w_m3, w_m4, b1.r2, b1.r3, b1.r4, b1.r5, b1.r6, b1.r7, b1.r9, b1.r10, b1.r11, b1.r12, b1.r13, b1.r14, b1.r15, b1.r16, b1.r17, b1.r18, b1.r20, b1.r21, b1.r23, b1.r29, b1.r30, b1.r35, b1.r36, b1.r37, b1.r38, b1.r40, b1.r42, b1.r43, b1.r44, b1.r45, b1.r46, b1.r47, c3, hi, w_lt, ek', if_pos t1, g2', kd_M, ln_M, kd_mKind, ln_mKind]
          · rw [hv] at g2
            have g2' : ∀ Q : OU_ → AH → Prop, V_ xs (d - 1) 167 0 [vA (some 33554440), vI (Int32.ofNat i), vI (Int32.ofNat a), vI day] [] x Q ↔ Q (some (some (vI 1))) y := g2
            obtain ⟨x', f1, f2⟩ := ih (i + 1) y (by omega) (kx.tr (g1.mono (by decide) (by decide)))
            refine ⟨x', f1, fun Q => ?_⟩
            have em : mayb_ L (env_ F G hp Hd a day) i = false := by unfold mayb_; rw [hv]; rw [Bool.not_true, Bool.and_false]
            rw [ea, em, Bool.false_or, ← f2 Q, s168_17]
            simp (disch := first | omega | assumption | decide | (apply bT_; decide)) only [s168_0, s168_1, s168_2, s168_5, s168_6, s168_7, s168_10, s168_13, s168_14, s168_15, s168_16, s168_18, s168_19, s168_22, s168_25, s168_26, s168_29, s168_30, s168_31, s168_33, s168_36, s168_37, s168_38, s168_39, s168_40, s168_43, s168_47, s168_48, s168_51, s168_55, K_v, K_0, acI, acA, acJ, acX, List.map_cons, List.map_nil, List.sum_cons, List.sum_nil, true_and, and_true, posT, b2_0, b2_1, bft, true_or, or_true, Nat.zero_le, Nat.reduceAdd, Nat.reduceLeDiff, hI_uI, hL_uI, hR_uI, nx_uI, sl_uI, hI_uL, hL_uL, hR_uL, nx_uL, sl_uL, hI_uR, hL_uR, hR_uR, nx_uR, sl_uR, st_eq, if_true, if_false, eq_self, Nat.reduceEqDiff, Nat.reduceMul, reduceIte, kdT, ixT, w_cl, w_ti, w_s1, w_a, w_m12, w_m8, w_m3, w_m4, b1.r2, b1.r3, b1.r4, b1.r5, b1.r6, b1.r7, b1.r9, b1.r10, b1.r11, b1.r12, b1.r13, b1.r14, b1.r15, b1.r16, b1.r17, b1.r18, b1.r20, b1.r21, b1.r23, b1.r29, b1.r30, b1.r35, b1.r36, b1.r37, b1.r38, b1.r40, b1.r42, b1.r43, b1.r44, b1.r45, b1.r46, b1.r47, c3, hi, w_lt, ek', if_pos t1, g2', k10, kd_M, ln_M, kd_mKind, ln_mKind]
        · have t1 : ¬ _ := fun z => q1 (teq.mp z)
          obtain ⟨x', f1, f2⟩ := ih (i + 1) x (by omega) kx
          refine ⟨x', f1, fun Q => ?_⟩
          have em : mayb_ L (env_ F G hp Hd a day) i = false := by unfold mayb_; rw [decide_eq_false q1, Bool.false_and]
          rw [ea, em, Bool.false_or, ← f2 Q, s168_17]
          simp (disch := first | omega | assumption | decide | (apply bT_; decide)) only [s168_0, s168_1, s168_2, s168_5, s168_6, s168_7, s168_10, s168_13, s168_14, s168_15, s168_16, s168_18, s168_19, s168_22, s168_25, s168_26, s168_29, s168_30, s168_31, s168_33, s168_37, s168_38, s168_39, s168_40, s168_43, s168_46, s168_47, s168_48, s168_51, s168_55, K_v, K_0, acI, acA, acJ, acX, List.map_cons, List.map_nil, List.sum_cons, List.sum_nil, true_and, and_true, posT, b2_0, b2_1, bft, true_or, or_true, Nat.zero_le, Nat.reduceAdd, Nat.reduceLeDiff, hI_uI, hL_uI, hR_uI, nx_uI, sl_uI, hI_uL, hL_uL, hR_uL, nx_uL, sl_uL, hI_uR, hL_uR, hR_uR, nx_uR, sl_uR, st_eq, if_true, if_false, eq_self, Nat.reduceEqDiff, Nat.reduceMul, reduceIte, kdT, ixT, w_cl, w_ti, w_s1, w_a, w_m12, w_m8, w_m3, w_m4, b1.r2, b1.r3, b1.r4, b1.r5, b1.r6, b1.r7, b1.r9, b1.r10, b1.r11, b1.r12, b1.r13, b1.r14, b1.r15, b1.r16, b1.r17, b1.r18, b1.r20, b1.r21, b1.r23, b1.r29, b1.r30, b1.r35, b1.r36, b1.r37, b1.r38, b1.r40, b1.r42, b1.r43, b1.r44, b1.r45, b1.r46, b1.r47, c3, hi, w_lt, ek', if_neg t1, kd_M, ln_M, kd_mKind, ln_mKind]
    obtain ⟨x', f1, f2⟩ := key L.length 0 _ (by omega) k0
    refine ⟨x', f1, fun Q => ?_⟩
    have hact := fun Q => c_misActor (xs := xs) (d := d - 1) (Q := Q) (a := Int32.ofNat a) hB0.2.1
    rw [decide_eq_true q] at hact
    have hact' : ∀ Q : OU_ → AH → Prop, V_ xs (d - 1) 110 0 [vA (some 33554440), vI (Int32.ofNat a)] [] (uI_ h 33554440 (st_ (hI_ h 33554440) 0 0)) Q ↔ Q (some (some (vI 1))) (uI_ h 33554440 (st_ (hI_ h 33554440) 0 0)) := hact
    simp (disch := first | omega | assumption | decide | (apply bT_; decide)) only [s168_0, s168_1, s168_2, s168_5, s168_6, s168_7, s168_10, s168_14, s168_15, s168_16, s168_18, s168_19, s168_22, s168_25, s168_26, s168_29, s168_30, s168_31, s168_33, s168_36, s168_37, s168_38, s168_39, s168_40, s168_43, s168_46, s168_47, s168_48, s168_51, s168_54, s168_55, K_v, K_0, acI, acA, acJ, acX, List.map_cons, List.map_nil, List.sum_cons, List.sum_nil, true_and, and_true, posT, b2_0, b2_1, bft, true_or, or_true, Nat.zero_le, Nat.reduceAdd, Nat.reduceLeDiff, hI_uI, hL_uI, hR_uI, nx_uI, sl_uI, hI_uL, hL_uL, hR_uL, nx_uL, sl_uL, hI_uR, hL_uR, hR_uR, nx_uR, sl_uR, st_eq, if_true, if_false, eq_self, Nat.reduceEqDiff, Nat.reduceMul, reduceIte, kdT, ixT, w_cl, w_ti, w_s1, w_a, w_m12, w_m8, w_m3, w_m4, hact', k10, kd_M, ln_M]
    exact f2 Q
  · refine ⟨_, k0, fun Q => ?_⟩
    have hact := fun Q => c_misActor (xs := xs) (d := d - 1) (Q := Q) (a := v) hB0.2.1
    rw [decide_eq_false q] at hact
    have hact' : ∀ Q : OU_ → AH → Prop, V_ xs (d - 1) 110 0 [vA (some 33554440), vI v] [] (uI_ h 33554440 (st_ (hI_ h 33554440) 0 0)) Q ↔ Q (some (some (vI 0))) (uI_ h 33554440 (st_ (hI_ h 33554440) 0 0)) := hact
    rw [if_neg q]
    simp (disch := first | omega | assumption | decide | (apply bT_; decide)) only [s168_0, s168_1, s168_2, s168_5, s168_6, s168_7, s168_10, s168_13, s168_14, s168_16, s168_18, s168_19, s168_22, s168_25, s168_26, s168_29, s168_30, s168_31, s168_33, s168_36, s168_37, s168_38, s168_39, s168_40, s168_43, s168_46, s168_47, s168_48, s168_51, s168_54, s168_55, K_v, K_0, acI, acA, acJ, acX, List.map_cons, List.map_nil, List.sum_cons, List.sum_nil, true_and, and_true, posT, b2_0, b2_1, bft, true_or, or_true, Nat.zero_le, Nat.reduceAdd, Nat.reduceLeDiff, hI_uI, hL_uI, hR_uI, nx_uI, sl_uI, hI_uL, hL_uL, hR_uL, nx_uL, sl_uL, hI_uR, hL_uR, hR_uR, nx_uR, sl_uR, st_eq, if_true, if_false, eq_self, Nat.reduceEqDiff, Nat.reduceMul, reduceIte, kdT, ixT, w_cl, w_ti, w_s1, w_a, w_m12, w_m8, w_m3, w_m4, hact', kd_M, ln_M]
theorem m_paid (hB : MB_ na F G hp Hd L h) (ha : a < na) (hd : 39 ≤ d) : ∃ h', KH_ [] hoj_ h h' ∧ Do_ xs d 171 [vA (some 33554440), vI (Int32.ofNat a), vI day, vX 0, vX 0] h (some (some (vI (pys_ L (env_ F G hp Hd a day) L.length)))) h' := by
  have k10 : ¬ ((1 : Int32) = 0) := by decide
  have key : ∀ (k i : Nat) (x : AH), i + k = L.length → KH_ [] hoj_ h x → ∃ x', KH_ [] hoj_ h x' ∧ ∀ Q, V_ xs d 171 5 [vA (some 33554440), vI (Int32.ofNat a), vI day, vI (pys_ L (env_ F G hp Hd a day) i), vI (Int32.ofNat i)] [] x Q ↔ Q (some (some (vI (pys_ L (env_ F G hp Hd a day) L.length)))) x' := by
    intro k
    induction k with
    | zero =>
      intro i x hi kx
      have hBx := MB_.kh kx (by decide) hB
      obtain ⟨b1, b2, b3, b4, ⟨B, N, c1, c2, c3, c4, c5, c6⟩, b6⟩ := id hBx
      have e : i = L.length := by omega
      have nl : ¬ (L.length < L.length) := by omega
      refine ⟨x, kx, fun Q => ?_⟩
      rw [e, s171_5]
      simp (disch := first | omega | assumption | decide | (apply bT_; decide)) only [s171_0, s171_1, s171_2, s171_3, s171_7, s171_8, s171_11, s171_15, s171_18, s171_20, s171_21, s171_23, s171_26, s171_27, s171_29, s171_30, s171_31, s171_34, s171_37, s171_38, s171_39, s171_42, s171_44, s171_45, s171_46, s171_47, s171_50, s171_53, s171_54, K_v, K_0, acI, acA, acJ, acX, List.map_cons, List.map_nil, List.sum_cons, List.sum_nil, true_and, and_true, posT, b2_0, b2_1, bft, true_or, or_true, Nat.zero_le, Nat.reduceAdd, Nat.reduceLeDiff, hI_uI, hL_uI, hR_uI, nx_uI, sl_uI, hI_uL, hL_uL, hR_uL, nx_uL, sl_uL, hI_uR, hL_uR, hR_uR, nx_uR, sl_uR, st_eq, if_true, if_false, eq_self, Nat.reduceEqDiff, Nat.reduceMul, reduceIte, kdT, ixT, w_cl, w_ti, w_s1, w_a, w_m12, w_m8, w_m3, w_m4, c3, nl, w_lt, kd_M, ln_M]
    | succ k ih =>
      intro i x hk kx
      have hi : i < L.length := by omega
      have hBx := MB_.kh kx (by decide) hB
      obtain ⟨b1, b2, b3, b4, ⟨B, N, c1, c2, c3, c4, c5, c6⟩, b6⟩ := id hBx
      obtain ⟨w1, w2, -⟩ := b6.1 i hi
      have ek' : hI_ x 41157264 i = Int32.ofNat (knd_ L i) := (c5 i hi).1
      have en := (c5 i hi).2.1
      have teq : Int32.ofNat (knd_ L i) = 13 ↔ knd_ L i = 13 := w_eq (b := 13) (by omega) (by omega)
      have es : pys_ L (env_ F G hp Hd a day) (i + 1) = if knd_ L i = 13 ∧ hlv_ L i (env_ F G hp Hd a day) = true then pys_ L (env_ F G hp Hd a day) i + amt_ L i else pys_ L (env_ F G hp Hd a day) i := rfl
      by_cases q1 : knd_ L i = 13
      · have t1 := teq.mpr q1
        obtain ⟨y, g1, g2⟩ := m_holds (xs := xs) (d := d - 1) (day := day) hBx hi ha (by omega)
        have ky := kx.tr g1
        obtain ⟨x', f1, f2⟩ := ih (i + 1) y (by omega) ky
        refine ⟨x', f1, fun Q => ?_⟩
        cases hv : hlv_ L i (env_ F G hp Hd a day)
        · rw [hv] at g2
          have g2' : ∀ Q : OU_ → AH → Prop, V_ xs (d - 1) 167 0 [vA (some 33554440), vI (Int32.ofNat i), vI (Int32.ofNat a), vI day] [] x Q ↔ Q (some (some (vI 0))) y := g2
          rw [← f2 Q, es, hv, if_neg (fun z => by cases z.2), s171_5]
          simp (disch := first | omega | assumption | decide | (apply bT_; decide)) only [s171_0, s171_1, s171_2, s171_3, s171_7, s171_8, s171_11, s171_14, s171_15, s171_18, s171_20, s171_21, s171_23, s171_26, s171_27, s171_29, s171_30, s171_31, s171_34, s171_38, s171_39, s171_42, s171_44, s171_45, s171_46, s171_47, s171_50, s171_54, K_v, K_0, acI, acA, acJ, acX, List.map_cons, List.map_nil, List.sum_cons, List.sum_nil, true_and, and_true, posT, b2_0, b2_1, bft, true_or, or_true, Nat.zero_le, Nat.reduceAdd, Nat.reduceLeDiff, hI_uI, hL_uI, hR_uI, nx_uI, sl_uI, hI_uL, hL_uL, hR_uL, nx_uL, sl_uL, hI_uR, hL_uR, hR_uR, nx_uR, sl_uR, st_eq, if_true, if_false, eq_self, Nat.reduceEqDiff, Nat.reduceMul, reduceIte, kdT, ixT, w_cl, w_ti, w_s1, w_a, w_m12, w_m8, w_m3, w_m4, b1.r2, b1.r3, b1.r4, b1.r5, b1.r6, b1.r7, b1.r9, b1.r10, b1.r11, b1.r12, b1.r13, b1.r14, b1.r15, b1.r16, b1.r17, b1.r18, b1.r20, b1.r21, b1.r23, b1.r29, b1.r30, b1.r35, b1.r36, b1.r37, b1.r38, b1.r40, b1.r42, b1.r43, b1.r44, b1.r45, b1.r46, b1.r47, c3, hi, w_lt, ek', if_pos t1, g2', kd_M, ln_M, kd_mKind, ln_mKind]
        · rw [hv] at g2
          have g2' : ∀ Q : OU_ → AH → Prop, V_ xs (d - 1) 167 0 [vA (some 33554440), vI (Int32.ofNat i), vI (Int32.ofNat a), vI day] [] x Q ↔ Q (some (some (vI 1))) y := g2
          have hMy := ky.ms hB.1
          have en' : hI_ y 41419408 i = amt_ L i := by rw [g1.1 _ (by decide) (by decide)]; exact en
          rw [← f2 Q, es, hv, if_pos ⟨q1, rfl⟩, s171_5]
          simp (disch := first | omega | assumption | decide | (apply bT_; decide)) only [s171_0, s171_1, s171_2, s171_3, s171_7, s171_8, s171_11, s171_14, s171_15, s171_18, s171_20, s171_21, s171_23, s171_26, s171_27, s171_29, s171_30, s171_31, s171_34, s171_37, s171_38, s171_39, s171_42, s171_44, s171_45, s171_46, s171_47, s171_50, s171_54, K_v, K_0, acI, acA, acJ, acX, List.map_cons, List.map_nil, List.sum_cons, List.sum_nil, true_and, and_true, posT, b2_0, b2_1, bft, true_or, or_true, Nat.zero_le, Nat.reduceAdd, Nat.reduceLeDiff, hI_uI, hL_uI, hR_uI, nx_uI, sl_uI, hI_uL, hL_uL, hR_uL, nx_uL, sl_uL, hI_uR, hL_uR, hR_uR, nx_uR, sl_uR, st_eq, if_true, if_false, eq_self, Nat.reduceEqDiff, Nat.reduceMul, reduceIte, kdT, ixT, w_cl, w_ti, w_s1, w_a, w_m12, w_m8, w_m3, w_m4, b1.r2, b1.r3, b1.r4, b1.r5, b1.r6, b1.r7, b1.r9, b1.r10, b1.r11, b1.r12, b1.r13, b1.r14, b1.r15, b1.r16, b1.r17, b1.r18, b1.r20, b1.r21, b1.r23, b1.r29, b1.r30, b1.r35, b1.r36, b1.r37, b1.r38, b1.r40, b1.r42, b1.r43, b1.r44, b1.r45, b1.r46, b1.r47, hMy.r2, hMy.r3, hMy.r4, hMy.r5, hMy.r6, hMy.r7, hMy.r9, hMy.r10, hMy.r11, hMy.r12, hMy.r13, hMy.r14, hMy.r15, hMy.r16, hMy.r17, hMy.r18, hMy.r20, hMy.r21, hMy.r23, hMy.r29, hMy.r30, hMy.r35, hMy.r36, hMy.r37, hMy.r38, hMy.r40, hMy.r42, hMy.r43, hMy.r44, hMy.r45, hMy.r46, hMy.r47, c3, hi, w_lt, ek', en', if_pos t1, g2', k10, kd_M, ln_M, kd_mKind, ln_mKind, kd_mAmount, ln_mAmount]
      · have t1 : ¬ _ := fun z => q1 (teq.mp z)
        obtain ⟨x', f1, f2⟩ := ih (i + 1) x (by omega) kx
        refine ⟨x', f1, fun Q => ?_⟩
        rw [← f2 Q, es, if_neg (fun z => q1 z.1), s171_5]
        simp (disch := first | omega | assumption | decide | (apply bT_; decide)) only [s171_0, s171_1, s171_2, s171_3, s171_7, s171_8, s171_11, s171_14, s171_15, s171_18, s171_20, s171_21, s171_23, s171_27, s171_29, s171_30, s171_31, s171_34, s171_37, s171_38, s171_39, s171_42, s171_44, s171_45, s171_46, s171_47, s171_50, s171_54, K_v, K_0, acI, acA, acJ, acX, List.map_cons, List.map_nil, List.sum_cons, List.sum_nil, true_and, and_true, posT, b2_0, b2_1, bft, true_or, or_true, Nat.zero_le, Nat.reduceAdd, Nat.reduceLeDiff, hI_uI, hL_uI, hR_uI, nx_uI, sl_uI, hI_uL, hL_uL, hR_uL, nx_uL, sl_uL, hI_uR, hL_uR, hR_uR, nx_uR, sl_uR, st_eq, if_true, if_false, eq_self, Nat.reduceEqDiff, Nat.reduceMul, reduceIte, kdT, ixT, w_cl, w_ti, w_s1, w_a, w_m12, w_m8, w_m3, w_m4, b1.r2, b1.r3, b1.r4, b1.r5, b1.r6, b1.r7, b1.r9, b1.r10, b1.r11, b1.r12, b1.r13, b1.r14, b1.r15, b1.r16, b1.r17, b1.r18, b1.r20, b1.r21, b1.r23, b1.r29, b1.r30, b1.r35, b1.r36, b1.r37, b1.r38, b1.r40, b1.r42, b1.r43, b1.r44, b1.r45, b1.r46, b1.r47, c3, hi, w_lt, ek', if_neg t1, kd_M, ln_M, kd_mKind, ln_mKind]
  obtain ⟨x', f1, f2⟩ := key L.length 0 h (by omega) KH_.rf
  refine ⟨x', f1, fun Q => ?_⟩
  simp (disch := first | omega | assumption | decide | (apply bT_; decide)) only [s171_0, s171_1, s171_2, s171_3, s171_7, s171_8, s171_11, s171_14, s171_15, s171_18, s171_20, s171_21, s171_23, s171_26, s171_27, s171_29, s171_30, s171_31, s171_34, s171_37, s171_38, s171_39, s171_42, s171_44, s171_45, s171_46, s171_47, s171_50, s171_53, s171_54, K_v, K_0, acI, acA, acJ, acX, List.map_cons, List.map_nil, List.sum_cons, List.sum_nil, true_and, and_true, posT, b2_0, b2_1, bft, true_or, or_true, Nat.zero_le, Nat.reduceAdd, Nat.reduceLeDiff, hI_uI, hL_uI, hR_uI, nx_uI, sl_uI, hI_uL, hL_uL, hR_uL, nx_uL, sl_uL, hI_uR, hL_uR, hR_uR, nx_uR, sl_uR, st_eq, if_true, if_false, eq_self, Nat.reduceEqDiff, Nat.reduceMul, reduceIte, kdT, ixT, w_cl, w_ti, w_s1, w_a, w_m12, w_m8, w_m3, w_m4]
  exact f2 Q
theorem m_isKept {t : Nat} (hB : MB_ na F G hp Hd L h) (ht : t < L.length) (hd : 39 ≤ d) : ∃ h', KH_ [] hoj_ h h' ∧ Do_ xs d 169 [vA (some 33554440), vI (Int32.ofNat t), vI day, vX 0, vX 0, vX 0] h (some (some (vI (b2_ (kps_ L t (fun a => env_ F G hp Hd a day) (fun a => had_ hp Hd (Int32.ofNat a)) na))))) h' := by
  have k10 : ¬ ((1 : Int32) = 0) := by decide
  obtain ⟨b1, b2, b3, b4, ⟨B, N, c1, c2, c3, c4, c5, c6⟩, b6⟩ := id hB
  have hna := b2.2.1
  obtain ⟨w1, w2, -⟩ := b6.1 t ht
  have ek' : hI_ h 41157264 t = Int32.ofNat (knd_ L t) := (c5 t ht).1
  have teq : ∀ n, n < 25 → (Int32.ofNat (knd_ L t) = Int32.ofNat n ↔ knd_ L t = n) := fun n hn => w_eq (by omega) (by omega)
  have hal := kal_le (hd := fun a => had_ hp Hd (Int32.ofNat a)) (n := na)
  have hol := kho_le (L := L) (t := t) (m := fun a => env_ F G hp Hd a day) (hd := fun a => had_ hp Hd (Int32.ofNat a)) (n := na)
  unfold kps_
  by_cases q13 : knd_ L t = 13
  · have t13 : Int32.ofNat (knd_ L t) = 13 := (teq 13 (by omega)).mpr q13
    refine ⟨h, KH_.rf, fun Q => ?_⟩
    rw [if_pos q13]
    simp (disch := first | omega | assumption | decide | (apply bT_; decide)) only [s169_0, s169_1, s169_4, s169_5, s169_6, s169_8, s169_11, s169_12, s169_14, s169_15, s169_16, s169_18, s169_19, s169_23, s169_24, s169_27, s169_30, s169_31, s169_33, s169_36, s169_39, s169_42, s169_45, s169_46, s169_47, s169_49, s169_50, s169_53, s169_56, s169_59, s169_62, s169_65, s169_66, s169_69, s169_70, s169_71, s169_73, s169_76, s169_78, s169_79, s169_82, s169_83, s169_86, s169_87, s169_90, s169_91, s169_94, s169_95, s169_96, s169_98, s169_101, s169_103, s169_104, s169_107, s169_108, s169_109, s169_112, s169_113, s169_116, s169_117, s169_120, s169_122, s169_123, s169_126, s169_127, s169_128, s169_131, s169_132, s169_135, s169_136, K_v, K_0, acI, acA, acJ, acX, List.map_cons, List.map_nil, List.sum_cons, List.sum_nil, true_and, and_true, posT, b2_0, b2_1, bft, true_or, or_true, Nat.zero_le, Nat.reduceAdd, Nat.reduceLeDiff, hI_uI, hL_uI, hR_uI, nx_uI, sl_uI, hI_uL, hL_uL, hR_uL, nx_uL, sl_uL, hI_uR, hL_uR, hR_uR, nx_uR, sl_uR, st_eq, if_true, if_false, eq_self, Nat.reduceEqDiff, Nat.reduceMul, reduceIte, kdT, ixT, w_cl, w_ti, w_s1, w_a, w_m12, w_m8, w_m3, w_m4, b1.r2, b1.r3, b1.r4, b1.r5, b1.r6, b1.r7, b1.r9, b1.r10, b1.r11, b1.r12, b1.r13, b1.r14, b1.r15, b1.r16, b1.r17, b1.r18, b1.r20, b1.r21, b1.r23, b1.r29, b1.r30, b1.r35, b1.r36, b1.r37, b1.r38, b1.r40, b1.r42, b1.r43, b1.r44, b1.r45, b1.r46, b1.r47, ek', if_pos t13, kd_M, ln_M, kd_mKind, ln_mKind]
    exact Iff.rfl
  · have t13 : ¬ (Int32.ofNat (knd_ L t) = 13) := fun z => q13 ((teq 13 (by omega)).mp z)
    rw [if_neg q13]
    have key : ∀ (k i : Nat) (x : AH), i + k = na → KH_ [] hoj_ h x → ∃ x', KH_ [] hoj_ h x' ∧ ∀ Q, V_ xs d 169 21 [vA (some 33554440), vI (Int32.ofNat t), vI day, vI (Int32.ofNat (kal_ (fun a => had_ hp Hd (Int32.ofNat a)) i)), vI (Int32.ofNat (kho_ L t (fun a => env_ F G hp Hd a day) (fun a => had_ hp Hd (Int32.ofNat a)) i)), vI (Int32.ofNat i)] [] x Q ↔ V_ xs d 169 65 [vA (some 33554440), vI (Int32.ofNat t), vI day, vI (Int32.ofNat (kal_ (fun a => had_ hp Hd (Int32.ofNat a)) na)), vI (Int32.ofNat (kho_ L t (fun a => env_ F G hp Hd a day) (fun a => had_ hp Hd (Int32.ofNat a)) na)), vI (Int32.ofNat na)] [] x' Q := by
      intro k
      induction k with
      | zero =>
        intro i x hi kx
        have hBx := MB_.kh kx (by decide) hB
        have a1 := hBx.2.1.1
        have e : i = na := by omega
        have nl : ¬ (na < na) := by omega
        refine ⟨x, kx, fun Q => ?_⟩
        rw [e, s169_21]
        simp (disch := first | omega | assumption | decide | (apply bT_; decide)) only [s169_0, s169_1, s169_4, s169_5, s169_6, s169_8, s169_11, s169_12, s169_13, s169_14, s169_15, s169_16, s169_18, s169_19, s169_23, s169_24, s169_27, s169_31, s169_33, s169_36, s169_39, s169_42, s169_45, s169_46, s169_47, s169_49, s169_50, s169_53, s169_56, s169_59, s169_62, s169_66, s169_69, s169_70, s169_71, s169_73, s169_76, s169_78, s169_79, s169_82, s169_83, s169_86, s169_87, s169_90, s169_91, s169_94, s169_95, s169_96, s169_98, s169_101, s169_103, s169_104, s169_107, s169_108, s169_109, s169_112, s169_113, s169_116, s169_117, s169_120, s169_122, s169_123, s169_126, s169_127, s169_128, s169_131, s169_132, s169_135, s169_136, K_v, K_0, acI, acA, acJ, acX, List.map_cons, List.map_nil, List.sum_cons, List.sum_nil, true_and, and_true, posT, b2_0, b2_1, bft, true_or, or_true, Nat.zero_le, Nat.reduceAdd, Nat.reduceLeDiff, hI_uI, hL_uI, hR_uI, nx_uI, sl_uI, hI_uL, hL_uL, hR_uL, nx_uL, sl_uL, hI_uR, hL_uR, hR_uR, nx_uR, sl_uR, st_eq, if_true, if_false, eq_self, Nat.reduceEqDiff, Nat.reduceMul, reduceIte, kdT, ixT, w_cl, w_ti, w_s1, w_a, w_m12, w_m8, w_m3, w_m4, a1, nl, w_lt, kd_M, ln_M]
      | succ k ih =>
        intro i x hk kx
        have hi : i < na := by omega
        have hBx := MB_.kh kx (by decide) hB
        have a1 := hBx.2.1.1
        have hha := fun Q => c_mhad (xs := xs) (d := d - 1) (Q := Q) (a := Int32.ofNat i) hBx.1 hBx.2.2.1
        have h8 := had_le (hp := hp) (Hd := Hd) (a := Int32.ofNat i)
        have e1 : kal_ (fun a => had_ hp Hd (Int32.ofNat a)) (i + 1) = if 0 < had_ hp Hd (Int32.ofNat i) then kal_ (fun a => had_ hp Hd (Int32.ofNat a)) i + 1 else kal_ (fun a => had_ hp Hd (Int32.ofNat a)) i := rfl
        have e2 : kho_ L t (fun a => env_ F G hp Hd a day) (fun a => had_ hp Hd (Int32.ofNat a)) (i + 1) = if 0 < had_ hp Hd (Int32.ofNat i) ∧ hlv_ L t (env_ F G hp Hd i day) = true then kho_ L t (fun a => env_ F G hp Hd a day) (fun a => had_ hp Hd (Int32.ofNat a)) i + 1 else kho_ L t (fun a => env_ F G hp Hd a day) (fun a => had_ hp Hd (Int32.ofNat a)) i := rfl
        by_cases q0 : 0 < had_ hp Hd (Int32.ofNat i)
        · have n0 : ¬ (Int32.ofNat (had_ hp Hd (Int32.ofNat i)) = 0) := fun z => by
            have := (w_eq (b := 0) (by omega) (by omega)).mp z
            omega
          obtain ⟨y, g1, g2⟩ := m_holds (xs := xs) (d := d - 1) (day := day) hBx ht hi (by omega)
          obtain ⟨x', f1, f2⟩ := ih (i + 1) y (by omega) (kx.tr g1)
          refine ⟨x', f1, fun Q => ?_⟩
          cases hv : hlv_ L t (env_ F G hp Hd i day)
          · rw [hv] at g2
            have g2' : ∀ Q : OU_ → AH → Prop, V_ xs (d - 1) 167 0 [vA (some 33554440), vI (Int32.ofNat t), vI (Int32.ofNat i), vI day] [] x Q ↔ Q (some (some (vI 0))) y := g2
            rw [← f2 Q, e1, e2, hv, if_pos q0, if_neg (fun z => by cases z.2), s169_21]
            simp (disch := first | omega | assumption | decide | (apply bT_; decide)) only [s169_0, s169_1, s169_4, s169_5, s169_6, s169_8, s169_11, s169_12, s169_13, s169_14, s169_15, s169_16, s169_18, s169_19, s169_23, s169_24, s169_27, s169_30, s169_31, s169_33, s169_36, s169_42, s169_45, s169_46, s169_47, s169_49, s169_50, s169_53, s169_59, s169_62, s169_66, s169_69, s169_70, s169_71, s169_73, s169_76, s169_78, s169_79, s169_82, s169_83, s169_86, s169_87, s169_90, s169_91, s169_94, s169_95, s169_96, s169_98, s169_101, s169_103, s169_104, s169_107, s169_108, s169_109, s169_112, s169_113, s169_116, s169_117, s169_120, s169_122, s169_123, s169_126, s169_127, s169_128, s169_131, s169_132, s169_135, s169_136, K_v, K_0, acI, acA, acJ, acX, List.map_cons, List.map_nil, List.sum_cons, List.sum_nil, true_and, and_true, posT, b2_0, b2_1, bft, true_or, or_true, Nat.zero_le, Nat.reduceAdd, Nat.reduceLeDiff, hI_uI, hL_uI, hR_uI, nx_uI, sl_uI, hI_uL, hL_uL, hR_uL, nx_uL, sl_uL, hI_uR, hL_uR, hR_uR, nx_uR, sl_uR, st_eq, if_true, if_false, eq_self, Nat.reduceEqDiff, Nat.reduceMul, reduceIte, kdT, ixT, w_cl, w_ti, w_s1, w_a, w_m12, w_m8, w_m3, w_m4, a1, hi, w_lt, hha, if_neg n0, g2', kd_M, ln_M]
          · rw [hv] at g2
            have g2' : ∀ Q : OU_ → AH → Prop, V_ xs (d - 1) 167 0 [vA (some 33554440), vI (Int32.ofNat t), vI (Int32.ofNat i), vI day] [] x Q ↔ Q (some (some (vI 1))) y := g2
            rw [← f2 Q, e1, e2, hv, if_pos q0, if_pos ⟨q0, rfl⟩, s169_21]
            simp (disch := first | omega | assumption | decide | (apply bT_; decide)) only [s169_0, s169_1, s169_4, s169_5, s169_6, s169_8, s169_11, s169_12, s169_13, s169_14, s169_15, s169_16, s169_18, s169_19, s169_23, s169_24, s169_27, s169_30, s169_31, s169_33, s169_36, s169_42, s169_45, s169_46, s169_47, s169_49, s169_50, s169_53, s169_56, s169_59, s169_62, s169_66, s169_69, s169_70, s169_71, s169_73, s169_76, s169_78, s169_79, s169_82, s169_83, s169_86, s169_87, s169_90, s169_91, s169_94, s169_95, s169_96, s169_98, s169_101, s169_103, s169_104, s169_107, s169_108, s169_109, s169_112, s169_113, s169_116, s169_117, s169_120, s169_122, s169_123, s169_126, s169_127, s169_128, s169_131, s169_132, s169_135, s169_136, K_v, K_0, acI, acA, acJ, acX, List.map_cons, List.map_nil, List.sum_cons, List.sum_nil, true_and, and_true, posT, b2_0, b2_1, bft, true_or, or_true, Nat.zero_le, Nat.reduceAdd, Nat.reduceLeDiff, hI_uI, hL_uI, hR_uI, nx_uI, sl_uI, hI_uL, hL_uL, hR_uL, nx_uL, sl_uL, hI_uR, hL_uR, hR_uR, nx_uR, sl_uR, st_eq, if_true, if_false, eq_self, Nat.reduceEqDiff, Nat.reduceMul, reduceIte, kdT, ixT, w_cl, w_ti, w_s1, w_a, w_m12, w_m8, w_m3, w_m4, a1, hi, w_lt, hha, if_neg n0, g2', k10, kd_M, ln_M]
        · have n0 : Int32.ofNat (had_ hp Hd (Int32.ofNat i)) = 0 := by rw [show had_ hp Hd (Int32.ofNat i) = 0 by omega]; rfl
          obtain ⟨x', f1, f2⟩ := ih (i + 1) x (by omega) kx
          refine ⟨x', f1, fun Q => ?_⟩
          rw [← f2 Q, e1, e2, if_neg q0, if_neg (fun z => q0 z.1), s169_21]
          simp (disch := first | omega | assumption | decide | (apply bT_; decide)) only [s169_0, s169_1, s169_4, s169_5, s169_6, s169_8, s169_11, s169_12, s169_13, s169_14, s169_15, s169_16, s169_18, s169_19, s169_23, s169_24, s169_27, s169_30, s169_31, s169_33, s169_36, s169_39, s169_45, s169_46, s169_47, s169_49, s169_50, s169_53, s169_56, s169_59, s169_62, s169_66, s169_69, s169_70, s169_71, s169_73, s169_76, s169_78, s169_79, s169_82, s169_83, s169_86, s169_87, s169_90, s169_91, s169_94, s169_95, s169_96, s169_98, s169_101, s169_103, s169_104, s169_107, s169_108, s169_109, s169_112, s169_113, s169_116, s169_117, s169_120, s169_122, s169_123, s169_126, s169_127, s169_128, s169_131, s169_132, s169_135, s169_136, K_v, K_0, acI, acA, acJ, acX, List.map_cons, List.map_nil, List.sum_cons, List.sum_nil, true_and, and_true, posT, b2_0, b2_1, bft, true_or, or_true, Nat.zero_le, Nat.reduceAdd, Nat.reduceLeDiff, hI_uI, hL_uI, hR_uI, nx_uI, sl_uI, hI_uL, hL_uL, hR_uL, nx_uL, sl_uL, hI_uR, hL_uR, hR_uR, nx_uR, sl_uR, st_eq, if_true, if_false, eq_self, Nat.reduceEqDiff, Nat.reduceMul, reduceIte, kdT, ixT, w_cl, w_ti, w_s1, w_a, w_m12, w_m8, w_m3, w_m4, a1, hi, w_lt, hha, if_pos n0, kd_M, ln_M]
    obtain ⟨x', f1, f2⟩ := key na 0 h (by omega) KH_.rf
    have hBx := MB_.kh f1 (by decide) hB
    obtain ⟨b1x, b2x, b3x, b4x, ⟨Bx, Nx, c1x, c2x, c3x, c4x, c5x, c6x⟩, b6x⟩ := id hBx
    have ekx : hI_ x' 41157264 t = Int32.ofNat (knd_ L t) := (c5x t ht).1
    have enx : hI_ x' 41419408 t = amt_ L t := (c5x t ht).2.1
    refine ⟨x', f1, fun Q => ?_⟩
    simp (disch := first | omega | assumption | decide | (apply bT_; decide)) only [s169_0, s169_1, s169_4, s169_5, s169_6, s169_8, s169_12, s169_13, s169_14, s169_15, s169_16, s169_18, s169_19, s169_23, s169_24, s169_27, s169_30, s169_31, s169_33, s169_36, s169_39, s169_42, s169_45, s169_46, s169_47, s169_49, s169_50, s169_53, s169_56, s169_59, s169_62, s169_65, s169_66, s169_69, s169_70, s169_71, s169_73, s169_76, s169_78, s169_79, s169_82, s169_83, s169_86, s169_87, s169_90, s169_91, s169_94, s169_95, s169_96, s169_98, s169_101, s169_103, s169_104, s169_107, s169_108, s169_109, s169_112, s169_113, s169_116, s169_117, s169_120, s169_122, s169_123, s169_126, s169_127, s169_128, s169_131, s169_132, s169_135, s169_136, K_v, K_0, acI, acA, acJ, acX, List.map_cons, List.map_nil, List.sum_cons, List.sum_nil, true_and, and_true, posT, b2_0, b2_1, bft, true_or, or_true, Nat.zero_le, Nat.reduceAdd, Nat.reduceLeDiff, hI_uI, hL_uI, hR_uI, nx_uI, sl_uI, hI_uL, hL_uL, hR_uL, nx_uL, sl_uL, hI_uR, hL_uR, hR_uR, nx_uR, sl_uR, st_eq, if_true, if_false, eq_self, Nat.reduceEqDiff, Nat.reduceMul, reduceIte, kdT, ixT, w_cl, w_ti, w_s1, w_a, w_m12, w_m8, w_m3, w_m4, b1.r2, b1.r3, b1.r4, b1.r5, b1.r6, b1.r7, b1.r9, b1.r10, b1.r11, b1.r12, b1.r13, b1.r14, b1.r15, b1.r16, b1.r17, b1.r18, b1.r20, b1.r21, b1.r23, b1.r29, b1.r30, b1.r35, b1.r36, b1.r37, b1.r38, b1.r40, b1.r42, b1.r43, b1.r44, b1.r45, b1.r46, b1.r47, ek', if_neg t13, kd_M, ln_M, kd_mKind, ln_mKind]
    refine Iff.trans (show V_ xs d 169 21 _ _ _ _ ↔ _ from f2 Q) ?_
    rw [s169_65]
    by_cases q10 : knd_ L t = 10
    · have t10 : Int32.ofNat (knd_ L t) = 10 := (teq 10 (by omega)).mpr q10
      rw [if_pos q10]
      by_cases qe : kho_ L t (fun a => env_ F G hp Hd a day) (fun a => had_ hp Hd (Int32.ofNat a)) na = kal_ (fun a => had_ hp Hd (Int32.ofNat a)) na
      · have ne : Int32.ofNat (kho_ L t (fun a => env_ F G hp Hd a day) (fun a => had_ hp Hd (Int32.ofNat a)) na) = Int32.ofNat (kal_ (fun a => had_ hp Hd (Int32.ofNat a)) na) := by rw [qe]
        rw [decide_eq_true qe]
        simp (disch := first | omega | assumption | decide | (apply bT_; decide)) only [s169_0, s169_1, s169_4, s169_5, s169_6, s169_8, s169_11, s169_12, s169_13, s169_14, s169_15, s169_16, s169_18, s169_19, s169_21, s169_23, s169_24, s169_27, s169_30, s169_31, s169_33, s169_36, s169_39, s169_42, s169_45, s169_46, s169_47, s169_49, s169_50, s169_53, s169_56, s169_59, s169_62, s169_66, s169_69, s169_70, s169_71, s169_73, s169_76, s169_78, s169_79, s169_82, s169_83, s169_87, s169_91, s169_94, s169_95, s169_96, s169_98, s169_101, s169_103, s169_104, s169_107, s169_108, s169_109, s169_112, s169_113, s169_116, s169_117, s169_120, s169_122, s169_123, s169_126, s169_127, s169_128, s169_131, s169_132, s169_135, s169_136, K_v, K_0, acI, acA, acJ, acX, List.map_cons, List.map_nil, List.sum_cons, List.sum_nil, true_and, and_true, posT, b2_0, b2_1, bft, true_or, or_true, Nat.zero_le, Nat.reduceAdd, Nat.reduceLeDiff, hI_uI, hL_uI, hR_uI, nx_uI, sl_uI, hI_uL, hL_uL, hR_uL, nx_uL, sl_uL, hI_uR, hL_uR, hR_uR, nx_uR, sl_uR, st_eq, if_true, if_false, eq_self, Nat.reduceEqDiff, Nat.reduceMul, reduceIte, kdT, ixT, w_cl, w_ti, w_s1, w_a, w_m12, w_m8, w_m3, w_m4, b1x.r2, b1x.r3, b1x.r4, b1x.r5, b1x.r6, b1x.r7, b1x.r9, b1x.r10, b1x.r11, b1x.r12, b1x.r13, b1x.r14, b1x.r15, b1x.r16, b1x.r17, b1x.r18, b1x.r20, b1x.r21, b1x.r23, b1x.r29, b1x.r30, b1x.r35, b1x.r36, b1x.r37, b1x.r38, b1x.r40, b1x.r42, b1x.r43, b1x.r44, b1x.r45, b1x.r46, b1x.r47, ekx, if_pos t10, if_pos ne, kd_M, ln_M, kd_mKind, ln_mKind]
        exact Iff.rfl
      · have ne : ¬ (Int32.ofNat (kho_ L t (fun a => env_ F G hp Hd a day) (fun a => had_ hp Hd (Int32.ofNat a)) na) = Int32.ofNat (kal_ (fun a => had_ hp Hd (Int32.ofNat a)) na)) := fun z => qe ((w_eq (by omega) (by omega)).mp z)
        rw [decide_eq_false qe]
        simp (disch := first | omega | assumption | decide | (apply bT_; decide)) only [s169_0, s169_1, s169_4, s169_5, s169_6, s169_8, s169_11, s169_12, s169_13, s169_14, s169_15, s169_16, s169_18, s169_19, s169_21, s169_23, s169_24, s169_27, s169_30, s169_31, s169_33, s169_36, s169_39, s169_42, s169_45, s169_46, s169_47, s169_49, s169_50, s169_53, s169_56, s169_59, s169_62, s169_66, s169_69, s169_70, s169_71, s169_73, s169_76, s169_78, s169_79, s169_83, s169_86, s169_87, s169_91, s169_94, s169_95, s169_96, s169_98, s169_101, s169_103, s169_104, s169_107, s169_108, s169_109, s169_112, s169_113, s169_116, s169_117, s169_120, s169_122, s169_123, s169_126, s169_127, s169_128, s169_131, s169_132, s169_135, s169_136, K_v, K_0, acI, acA, acJ, acX, List.map_cons, List.map_nil, List.sum_cons, List.sum_nil, true_and, and_true, posT, b2_0, b2_1, bft, true_or, or_true, Nat.zero_le, Nat.reduceAdd, Nat.reduceLeDiff, hI_uI, hL_uI, hR_uI, nx_uI, sl_uI, hI_uL, hL_uL, hR_uL, nx_uL, sl_uL, hI_uR, hL_uR, hR_uR, nx_uR, sl_uR, st_eq, if_true, if_false, eq_self, Nat.reduceEqDiff, Nat.reduceMul, reduceIte, kdT, ixT, w_cl, w_ti, w_s1, w_a, w_m12, w_m8, w_m3, w_m4, b1x.r2, b1x.r3, b1x.r4, b1x.r5, b1x.r6, b1x.r7, b1x.r9, b1x.r10, b1x.r11, b1x.r12, b1x.r13, b1x.r14, b1x.r15, b1x.r16, b1x.r17, b1x.r18, b1x.r20, b1x.r21, b1x.r23, b1x.r29, b1x.r30, b1x.r35, b1x.r36, b1x.r37, b1x.r38, b1x.r40, b1x.r42, b1x.r43, b1x.r44, b1x.r45, b1x.r46, b1x.r47, ekx, if_pos t10, if_neg ne, kd_M, ln_M, kd_mKind, ln_mKind]
        exact Iff.rfl
    · have t10 : ¬ (Int32.ofNat (knd_ L t) = 10) := fun z => q10 ((teq 10 (by omega)).mp z)
      rw [if_neg q10]
      by_cases q11 : knd_ L t = 11
      · have t11 : Int32.ofNat (knd_ L t) = 11 := (teq 11 (by omega)).mpr q11
        rw [if_pos q11]
        by_cases qe : amt_ L t < Int32.ofNat (kho_ L t (fun a => env_ F G hp Hd a day) (fun a => had_ hp Hd (Int32.ofNat a)) na)
        · rw [decide_eq_false (fun z => z qe)]
          simp (disch := first | omega | assumption | decide | (apply bT_; decide)) only [s169_0, s169_1, s169_4, s169_5, s169_6, s169_8, s169_11, s169_12, s169_13, s169_14, s169_15, s169_16, s169_18, s169_19, s169_21, s169_23, s169_24, s169_27, s169_30, s169_31, s169_33, s169_36, s169_39, s169_42, s169_45, s169_46, s169_47, s169_49, s169_50, s169_53, s169_56, s169_59, s169_62, s169_66, s169_69, s169_70, s169_71, s169_73, s169_78, s169_79, s169_82, s169_83, s169_86, s169_87, s169_90, s169_91, s169_94, s169_95, s169_96, s169_98, s169_101, s169_103, s169_104, s169_107, s169_108, s169_109, s169_113, s169_116, s169_117, s169_122, s169_123, s169_126, s169_127, s169_128, s169_131, s169_132, s169_135, s169_136, K_v, K_0, acI, acA, acJ, acX, List.map_cons, List.map_nil, List.sum_cons, List.sum_nil, true_and, and_true, posT, b2_0, b2_1, bft, true_or, or_true, Nat.zero_le, Nat.reduceAdd, Nat.reduceLeDiff, hI_uI, hL_uI, hR_uI, nx_uI, sl_uI, hI_uL, hL_uL, hR_uL, nx_uL, sl_uL, hI_uR, hL_uR, hR_uR, nx_uR, sl_uR, st_eq, if_true, if_false, eq_self, Nat.reduceEqDiff, Nat.reduceMul, reduceIte, kdT, ixT, w_cl, w_ti, w_s1, w_a, w_m12, w_m8, w_m3, w_m4, b1x.r2, b1x.r3, b1x.r4, b1x.r5, b1x.r6, b1x.r7, b1x.r9, b1x.r10, b1x.r11, b1x.r12, b1x.r13, b1x.r14, b1x.r15, b1x.r16, b1x.r17, b1x.r18, b1x.r20, b1x.r21, b1x.r23, b1x.r29, b1x.r30, b1x.r35, b1x.r36, b1x.r37, b1x.r38, b1x.r40, b1x.r42, b1x.r43, b1x.r44, b1x.r45, b1x.r46, b1x.r47, ekx, enx, if_neg t10, if_pos t11, if_pos qe, kd_M, ln_M, kd_mKind, ln_mKind, kd_mAmount, ln_mAmount]
          exact Iff.rfl
        · rw [decide_eq_true qe]
          simp (disch := first | omega | assumption | decide | (apply bT_; decide)) only [s169_0, s169_1, s169_4, s169_5, s169_6, s169_8, s169_11, s169_12, s169_13, s169_14, s169_15, s169_16, s169_18, s169_19, s169_21, s169_23, s169_24, s169_27, s169_30, s169_31, s169_33, s169_36, s169_39, s169_42, s169_45, s169_46, s169_47, s169_49, s169_50, s169_53, s169_56, s169_59, s169_62, s169_66, s169_69, s169_70, s169_71, s169_73, s169_78, s169_79, s169_82, s169_83, s169_86, s169_87, s169_90, s169_91, s169_94, s169_95, s169_96, s169_98, s169_101, s169_103, s169_104, s169_107, s169_108, s169_109, s169_112, s169_113, s169_117, s169_122, s169_123, s169_126, s169_127, s169_128, s169_131, s169_132, s169_135, s169_136, K_v, K_0, acI, acA, acJ, acX, List.map_cons, List.map_nil, List.sum_cons, List.sum_nil, true_and, and_true, posT, b2_0, b2_1, bft, true_or, or_true, Nat.zero_le, Nat.reduceAdd, Nat.reduceLeDiff, hI_uI, hL_uI, hR_uI, nx_uI, sl_uI, hI_uL, hL_uL, hR_uL, nx_uL, sl_uL, hI_uR, hL_uR, hR_uR, nx_uR, sl_uR, st_eq, if_true, if_false, eq_self, Nat.reduceEqDiff, Nat.reduceMul, reduceIte, kdT, ixT, w_cl, w_ti, w_s1, w_a, w_m12, w_m8, w_m3, w_m4, b1x.r2, b1x.r3, b1x.r4, b1x.r5, b1x.r6, b1x.r7, b1x.r9, b1x.r10, b1x.r11, b1x.r12, b1x.r13, b1x.r14, b1x.r15, b1x.r16, b1x.r17, b1x.r18, b1x.r20, b1x.r21, b1x.r23, b1x.r29, b1x.r30, b1x.r35, b1x.r36, b1x.r37, b1x.r38, b1x.r40, b1x.r42, b1x.r43, b1x.r44, b1x.r45, b1x.r46, b1x.r47, ekx, enx, if_neg t10, if_pos t11, if_neg qe, kd_M, ln_M, kd_mKind, ln_mKind, kd_mAmount, ln_mAmount]
          exact Iff.rfl
      · have t11 : ¬ (Int32.ofNat (knd_ L t) = 11) := fun z => q11 ((teq 11 (by omega)).mp z)
        rw [if_neg q11]
        by_cases qe : Int32.ofNat (kho_ L t (fun a => env_ F G hp Hd a day) (fun a => had_ hp Hd (Int32.ofNat a)) na) < amt_ L t
        · rw [decide_eq_false (fun z => z qe)]
          simp (disch := first | omega | assumption | decide | (apply bT_; decide)) only [s169_0, s169_1, s169_4, s169_5, s169_6, s169_8, s169_11, s169_12, s169_13, s169_14, s169_15, s169_16, s169_18, s169_19, s169_21, s169_23, s169_24, s169_27, s169_30, s169_31, s169_33, s169_36, s169_39, s169_42, s169_45, s169_46, s169_47, s169_49, s169_50, s169_53, s169_56, s169_59, s169_62, s169_66, s169_69, s169_70, s169_71, s169_73, s169_78, s169_79, s169_82, s169_83, s169_86, s169_87, s169_90, s169_91, s169_94, s169_95, s169_96, s169_98, s169_103, s169_104, s169_107, s169_108, s169_109, s169_112, s169_113, s169_116, s169_117, s169_120, s169_122, s169_123, s169_126, s169_127, s169_128, s169_132, s169_135, s169_136, K_v, K_0, acI, acA, acJ, acX, List.map_cons, List.map_nil, List.sum_cons, List.sum_nil, true_and, and_true, posT, b2_0, b2_1, bft, true_or, or_true, Nat.zero_le, Nat.reduceAdd, Nat.reduceLeDiff, hI_uI, hL_uI, hR_uI, nx_uI, sl_uI, hI_uL, hL_uL, hR_uL, nx_uL, sl_uL, hI_uR, hL_uR, hR_uR, nx_uR, sl_uR, st_eq, if_true, if_false, eq_self, Nat.reduceEqDiff, Nat.reduceMul, reduceIte, kdT, ixT, w_cl, w_ti, w_s1, w_a, w_m12, w_m8, w_m3, w_m4, b1x.r2, b1x.r3, b1x.r4, b1x.r5, b1x.r6, b1x.r7, b1x.r9, b1x.r10, b1x.r11, b1x.r12, b1x.r13, b1x.r14, b1x.r15, b1x.r16, b1x.r17, b1x.r18, b1x.r20, b1x.r21, b1x.r23, b1x.r29, b1x.r30, b1x.r35, b1x.r36, b1x.r37, b1x.r38, b1x.r40, b1x.r42, b1x.r43, b1x.r44, b1x.r45, b1x.r46, b1x.r47, ekx, enx, if_neg t10, if_neg t11, if_pos qe, kd_M, ln_M, kd_mKind, ln_mKind, kd_mAmount, ln_mAmount]
          exact Iff.rfl
        · rw [decide_eq_true qe]
          simp (disch := first | omega | assumption | decide | (apply bT_; decide)) only [s169_0, s169_1, s169_4, s169_5, s169_6, s169_8, s169_11, s169_12, s169_13, s169_14, s169_15, s169_16, s169_18, s169_19, s169_21, s169_23, s169_24, s169_27, s169_30, s169_31, s169_33, s169_36, s169_39, s169_42, s169_45, s169_46, s169_47, s169_49, s169_50, s169_53, s169_56, s169_59, s169_62, s169_66, s169_69, s169_70, s169_71, s169_73, s169_78, s169_79, s169_82, s169_83, s169_86, s169_87, s169_90, s169_91, s169_94, s169_95, s169_96, s169_98, s169_103, s169_104, s169_107, s169_108, s169_109, s169_112, s169_113, s169_116, s169_117, s169_120, s169_122, s169_123, s169_126, s169_127, s169_128, s169_131, s169_132, s169_136, K_v, K_0, acI, acA, acJ, acX, List.map_cons, List.map_nil, List.sum_cons, List.sum_nil, true_and, and_true, posT, b2_0, b2_1, bft, true_or, or_true, Nat.zero_le, Nat.reduceAdd, Nat.reduceLeDiff, hI_uI, hL_uI, hR_uI, nx_uI, sl_uI, hI_uL, hL_uL, hR_uL, nx_uL, sl_uL, hI_uR, hL_uR, hR_uR, nx_uR, sl_uR, st_eq, if_true, if_false, eq_self, Nat.reduceEqDiff, Nat.reduceMul, reduceIte, kdT, ixT, w_cl, w_ti, w_s1, w_a, w_m12, w_m8, w_m3, w_m4, b1x.r2, b1x.r3, b1x.r4, b1x.r5, b1x.r6, b1x.r7, b1x.r9, b1x.r10, b1x.r11, b1x.r12, b1x.r13, b1x.r14, b1x.r15, b1x.r16, b1x.r17, b1x.r18, b1x.r20, b1x.r21, b1x.r23, b1x.r29, b1x.r30, b1x.r35, b1x.r36, b1x.r37, b1x.r38, b1x.r40, b1x.r42, b1x.r43, b1x.r44, b1x.r45, b1x.r46, b1x.r47, ekx, enx, if_neg t10, if_neg t11, if_neg qe, kd_M, ln_M, kd_mKind, ln_mKind, kd_mAmount, ln_mAmount]
          exact Iff.rfl
end MMY
