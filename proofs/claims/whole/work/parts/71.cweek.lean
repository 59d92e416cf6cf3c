/-! the week: the class's plan -/
theorem xor_dn : ∀ first, first < 8 → ∀ left, left < 256 → left.testBit first = true → left ^^^ 2 ^ first < left := by decide +kernel
section CPN
variable {xs : Nat → Int32} {d : Nat} {h : AH} {P : PS} {sp : Nat → Nat} {l : List Nat}
theorem c_fill0 (hC : CS_ h) (hB : PB_ P) (hM : ME_ l h) (hG : CG_ P l h) (hl : l.length ≤ 8) (hq : ∀ j, j < l.length → l.getD j 0 < qn_ P) (hinj : ∀ x y, x < l.length → y < l.length → l.getD x 0 = l.getD y 0 → x = y) (hd : 3 ≤ d) {set : Int32} : ∃ g v5, BH_ P l (uI_ h 27918352 g) ∧ ∀ Q, V_ xs d 54 23 [vA (some 27000838), vA (some 25690901), vI set, vI (Int32.ofNat (2 ^ l.length - 1)), vI (Int32.ofNat 1), vX 0] [] h Q ↔ V_ xs d 54 85 [vA (some 27000838), vA (some 25690901), vI set, vI (Int32.ofNat (2 ^ l.length - 1)), vI (Int32.ofNat (2 ^ l.length)), v5] [] (uI_ h 27918352 g) Q := by
  obtain ⟨m1, m2⟩ := id hM
  have h256 := p256 hl
  have hpos : 0 < 2 ^ l.length := Nat.two_pow_pos _
  have inner : ∀ left, left < 2 ^ l.length → ∀ (g : Nat → Int32), (∀ left' x, left' < left → x < l.length → left'.testBit x = true → g (8 * left' + x) = Int32.ofNat (bhd_ P l left' x)) → ∃ g', (∀ left' x, left' < left + 1 → x < l.length → left'.testBit x = true → g' (8 * left' + x) = Int32.ofNat (bhd_ P l left' x)) ∧ ∀ Q, V_ xs d 54 32 [vA (some 27000838), vA (some 25690901), vI set, vI (Int32.ofNat (2 ^ l.length - 1)), vI (Int32.ofNat left), vI (Int32.ofNat 0)] [] (uI_ h 27918352 g) Q ↔ V_ xs d 54 79 [vA (some 27000838), vA (some 25690901), vI set, vI (Int32.ofNat (2 ^ l.length - 1)), vI (Int32.ofNat left), vI (Int32.ofNat l.length)] [] (uI_ h 27918352 g') Q := by
    intro left hlt g hg
    obtain ⟨g', k1, k2⟩ := loopX_ (P := fun Q i (g : Nat → Int32) => V_ xs d 54 32 [vA (some 27000838), vA (some 25690901), vI set, vI (Int32.ofNat (2 ^ l.length - 1)), vI (Int32.ofNat left), vI (Int32.ofNat i)] [] (uI_ h 27918352 g) Q) (n := l.length) (fun i g => (∀ left' x, left' < left → x < l.length → left'.testBit x = true → g (8 * left' + x) = Int32.ofNat (bhd_ P l left' x)) ∧ ∀ x, x < i → left.testBit x = true → g (8 * left + x) = Int32.ofNat (bhd_ P l left x)) (fun i g hi hI => by
      obtain ⟨i1, i2⟩ := hI
      have hbit := w_bit (M := left) (m := i) (by omega) (by omega)
      have k1 : ¬ ((0 : Int32) = 1) := by decide
      cases hbt : left.testBit i
      · refine ⟨g, ⟨i1, fun x q1 q2 => ?_⟩, fun Q => ?_⟩
        · have : x ≠ i := fun e => by rw [e, hbt] at q2; cases q2
          exact i2 x (by omega) q2
        · rw [hbt] at hbit
          rw [s54_32]
          simp (disch := first | omega | assumption | decide | (apply bT_; decide)) only [s54_0, s54_1, s54_2, s54_3, s54_6, s54_7, s54_8, s54_11, s54_12, s54_13, s54_16, s54_17, s54_18, s54_19, s54_20, s54_21, s54_23, s54_25, s54_26, s54_29, s54_30, s54_34, s54_35, s54_38, s54_41, s54_43, s54_45, s54_46, s54_47, s54_48, s54_49, s54_53, s54_56, s54_58, s54_60, s54_61, s54_63, s54_64, s54_65, s54_67, s54_69, s54_72, s54_73, s54_76, s54_82, s54_85, s54_86, s54_87, s54_88, s54_91, K_v, K_0, acI, acA, acJ, acX, List.map_cons, List.map_nil, List.sum_cons, List.sum_nil, true_and, and_true, posT, b2_0, b2_1, bft, true_or, or_true, Nat.zero_le, Nat.reduceAdd, Nat.reduceLeDiff, hI_uI, hL_uI, hR_uI, nx_uI, sl_uI, hI_uL, hL_uL, hR_uL, nx_uL, sl_uL, hI_uR, hL_uR, hR_uR, nx_uR, sl_uR, st_eq, if_true, if_false, eq_self, Nat.reduceEqDiff, Nat.reduceMul, reduceIte, kdT, ixT, w_cl, w_ti, w_s1, w_a, w_m12, w_m8, w_m3, w_m4, m1, hi, w_lt, hbit, k1, kd_PL, Bool.false_eq_true]
      · rw [hbt] at hbit
        refine ⟨st_ g (8 * left + i) (Int32.ofNat (bhd_ P l left i)), ⟨fun left' x q1 q2 q3 => ?_, fun x q1 q2 => ?_⟩, fun Q => ?_⟩
        · rw [st_eq, if_neg (by omega)]; exact i1 left' x q1 q2 q3
        · rw [st_eq]
          by_cases q : x = i
          · rw [if_pos (by omega), q]
          · rw [if_neg (by omega)]; exact i2 x (by omega) q2
        · have hCx : CS_ (uI_ h 27918352 g) := (KP_.rf.uI (by decide)).cs hC
          have hMx : ME_ l (uI_ h 27918352 g) := ⟨by simp only [hI_uI, hL_uI, hR_uI, nx_uI, sl_uI, hI_uL, hL_uL, hR_uL, nx_uL, sl_uL, hI_uR, hL_uR, hR_uR, nx_uR, sl_uR, st_eq, if_true, if_false, eq_self, Nat.reduceEqDiff, Nat.reduceMul, reduceIte, kdT, ixT, w_cl, w_ti, w_s1, w_a, w_m12, w_m8, w_m3, w_m4]; exact m1, fun j hj => by simp only [hI_uI, hL_uI, hR_uI, nx_uI, sl_uI, hI_uL, hL_uL, hR_uL, nx_uL, sl_uL, hI_uR, hL_uR, hR_uR, nx_uR, sl_uR, st_eq, if_true, if_false, eq_self, Nat.reduceEqDiff, Nat.reduceMul, reduceIte, kdT, ixT, w_cl, w_ti, w_s1, w_a, w_m12, w_m8, w_m3, w_m4]; exact m2 j hj⟩
          have hGx : CG_ P l (uI_ h 27918352 g) := fun a b ha hb => by simp only [hI_uI, hL_uI, hR_uI, nx_uI, sl_uI, hI_uL, hL_uL, hR_uL, nx_uL, sl_uL, hI_uR, hL_uR, hR_uR, nx_uR, sl_uR, st_eq, if_true, if_false, eq_self, Nat.reduceEqDiff, Nat.reduceMul, reduceIte, kdT, ixT, w_cl, w_ti, w_s1, w_a, w_m12, w_m8, w_m3, w_m4]; exact hG a b ha hb
          have hdn := xor_dn i (by omega) left (by omega) hbt
          have hlb := fun Q => c_leastBehind (xs := xs) (d := d - 1) (Q := Q) (P := P) (b := bhd_ P l) (rest := left ^^^ 2 ^ i) (first := i) (left := left) hCx hGx hMx hl hi (by omega) rfl (by omega) (fun y hy hyb => ⟨by simp only [hI_uI, hL_uI, hR_uI, nx_uI, sl_uI, hI_uL, hL_uL, hR_uL, nx_uL, sl_uL, hI_uR, hL_uR, hR_uR, nx_uR, sl_uR, st_eq, if_true, if_false, eq_self, Nat.reduceEqDiff, Nat.reduceMul, reduceIte, kdT, ixT, w_cl, w_ti, w_s1, w_a, w_m12, w_m8, w_m3, w_m4]; exact i1 _ y hdn hy hyb, by have := bhd_le hB hl hq hy hyb; omega⟩) (fun y hy => wk_le hB (hq i hi) (hq y hy)) (by omega)
          rw [bhd_eq hB hl hq hinj hlt hi hbt] at hlb
          have e4 := w8i left (by omega) i (by omega)
          rw [s54_32]
          simp (disch := first | omega | assumption | decide | (apply bT_; decide)) only [s54_0, s54_1, s54_2, s54_3, s54_6, s54_7, s54_8, s54_11, s54_12, s54_13, s54_16, s54_17, s54_18, s54_19, s54_20, s54_21, s54_23, s54_25, s54_26, s54_29, s54_30, s54_34, s54_35, s54_38, s54_41, s54_43, s54_45, s54_46, s54_47, s54_48, s54_49, s54_52, s54_53, s54_56, s54_58, s54_60, s54_61, s54_63, s54_64, s54_65, s54_67, s54_69, s54_72, s54_73, s54_76, s54_82, s54_85, s54_86, s54_87, s54_88, s54_91, K_v, K_0, acI, acA, acJ, acX, List.map_cons, List.map_nil, List.sum_cons, List.sum_nil, true_and, and_true, posT, b2_0, b2_1, bft, true_or, or_true, Nat.zero_le, Nat.reduceAdd, Nat.reduceLeDiff, hI_uI, hL_uI, hR_uI, nx_uI, sl_uI, hI_uL, hL_uL, hR_uL, nx_uL, sl_uL, hI_uR, hL_uR, hR_uR, nx_uR, sl_uR, st_eq, if_true, if_false, eq_self, Nat.reduceEqDiff, Nat.reduceMul, reduceIte, kdT, ixT, w_cl, w_ti, w_s1, w_a, w_m12, w_m8, w_m3, w_m4, hC.x0, hC.x2, hC.x4, hC.x7, hC.x8, hC.x9, hC.x11, hC.f0, hC.f1, hC.f2, hC.p0, hC.p1, hC.p2, hC.p3, hC.l1, hC.l2, hC.l3, hC.l4, hC.d0, hC.d1, hC.d2, hC.g1, hC.g2, hC.g3, hC.g4, hC.k1, hC.k2, hC.k3, hC.k4, m1, hi, w_lt, hbit, hlb, e4, uI_uI, kd_PL, ln_PL, kd_BEH, ln_BEH, Bool.true_eq_false]) l.length 0 g (by omega) ⟨hg, fun x hx => absurd hx (Nat.not_lt_zero _)⟩
    refine ⟨g', fun left' x q1 q2 q3 => ?_, fun Q => (k2 Q).trans ?_⟩
    · by_cases q : left' = left
      · rw [q] at q3 ⊢; exact k1.2 x q2 q3
      · exact k1.1 left' x (by omega) q2 q3
    · have nl : ¬ (l.length < l.length) := by omega
      rw [s54_32]
      simp (disch := first | omega | assumption | decide | (apply bT_; decide)) only [s54_0, s54_1, s54_2, s54_3, s54_6, s54_7, s54_8, s54_11, s54_12, s54_13, s54_16, s54_17, s54_18, s54_19, s54_20, s54_21, s54_23, s54_25, s54_26, s54_29, s54_30, s54_34, s54_35, s54_38, s54_43, s54_45, s54_46, s54_47, s54_48, s54_49, s54_52, s54_53, s54_56, s54_58, s54_60, s54_61, s54_63, s54_64, s54_65, s54_67, s54_69, s54_72, s54_73, s54_76, s54_82, s54_85, s54_86, s54_87, s54_88, s54_91, K_v, K_0, acI, acA, acJ, acX, List.map_cons, List.map_nil, List.sum_cons, List.sum_nil, true_and, and_true, posT, b2_0, b2_1, bft, true_or, or_true, Nat.zero_le, Nat.reduceAdd, Nat.reduceLeDiff, hI_uI, hL_uI, hR_uI, nx_uI, sl_uI, hI_uL, hL_uL, hR_uL, nx_uL, sl_uL, hI_uR, hL_uR, hR_uR, nx_uR, sl_uR, st_eq, if_true, if_false, eq_self, Nat.reduceEqDiff, Nat.reduceMul, reduceIte, kdT, ixT, w_cl, w_ti, w_s1, w_a, w_m12, w_m8, w_m3, w_m4, m1, nl, w_lt, kd_PL, ln_PL]
  obtain ⟨⟨g, v5⟩, k1, k2⟩ := loopX_ (P := fun Q left (x : (Nat → Int32) × AV) => V_ xs d 54 23 [vA (some 27000838), vA (some 25690901), vI set, vI (Int32.ofNat (2 ^ l.length - 1)), vI (Int32.ofNat left), x.2] [] (uI_ h 27918352 x.1) Q) (n := 2 ^ l.length) (fun left x => ∀ left' y, left' < left → y < l.length → left'.testBit y = true → x.1 (8 * left' + y) = Int32.ofNat (bhd_ P l left' y)) (fun left x hlt hI => by
    obtain ⟨g, v5⟩ := x
    obtain ⟨g', g1, g2⟩ := inner left hlt g hI
    refine ⟨(g', vI (Int32.ofNat l.length)), g1, fun Q => ?_⟩
    have ng : ¬ (2 ^ l.length - 1 < left) := by omega
    dsimp only
    rw [s54_23]
    simp (disch := first | omega | assumption | decide | (apply bT_; decide)) only [s54_0, s54_1, s54_2, s54_3, s54_6, s54_7, s54_8, s54_11, s54_12, s54_13, s54_16, s54_17, s54_18, s54_19, s54_20, s54_21, s54_25, s54_26, s54_29, s54_30, s54_34, s54_35, s54_38, s54_41, s54_43, s54_45, s54_46, s54_47, s54_48, s54_49, s54_52, s54_53, s54_56, s54_58, s54_60, s54_61, s54_63, s54_64, s54_65, s54_67, s54_69, s54_72, s54_73, s54_76, s54_79, s54_82, s54_86, s54_87, s54_88, s54_91, K_v, K_0, acI, acA, acJ, acX, List.map_cons, List.map_nil, List.sum_cons, List.sum_nil, true_and, and_true, posT, b2_0, b2_1, bft, true_or, or_true, Nat.zero_le, Nat.reduceAdd, Nat.reduceLeDiff, hI_uI, hL_uI, hR_uI, nx_uI, sl_uI, hI_uL, hL_uL, hR_uL, nx_uL, sl_uL, hI_uR, hL_uR, hR_uR, nx_uR, sl_uR, st_eq, if_true, if_false, eq_self, Nat.reduceEqDiff, Nat.reduceMul, reduceIte, kdT, ixT, w_cl, w_ti, w_s1, w_a, w_m12, w_m8, w_m3, w_m4, ng, w_lt, kd_PL, ln_PL]
    refine (g2 Q).trans ?_
    rw [s54_79]
    simp (disch := first | omega | assumption | decide | (apply bT_; decide)) only [s54_0, s54_1, s54_2, s54_3, s54_6, s54_7, s54_8, s54_11, s54_12, s54_13, s54_16, s54_17, s54_18, s54_19, s54_20, s54_21, s54_25, s54_26, s54_29, s54_30, s54_32, s54_34, s54_35, s54_38, s54_41, s54_43, s54_45, s54_46, s54_47, s54_48, s54_49, s54_52, s54_53, s54_56, s54_58, s54_60, s54_61, s54_63, s54_64, s54_65, s54_67, s54_69, s54_72, s54_73, s54_76, s54_82, s54_85, s54_86, s54_87, s54_88, s54_91, K_v, K_0, acI, acA, acJ, acX, List.map_cons, List.map_nil, List.sum_cons, List.sum_nil, true_and, and_true, posT, b2_0, b2_1, bft, true_or, or_true, Nat.zero_le, Nat.reduceAdd, Nat.reduceLeDiff, hI_uI, hL_uI, hR_uI, nx_uI, sl_uI, hI_uL, hL_uL, hR_uL, nx_uL, sl_uL, hI_uR, hL_uR, hR_uR, nx_uR, sl_uR, st_eq, if_true, if_false, eq_self, Nat.reduceEqDiff, Nat.reduceMul, reduceIte, kdT, ixT, w_cl, w_ti, w_s1, w_a, w_m12, w_m8, w_m3, w_m4]) (2 ^ l.length - 1) 1 (hI_ h 27918352, vX 0) (by omega) (fun left' y q1 q2 q3 => by
      have : left' = 0 := by omega
      rw [this, Nat.zero_testBit] at q3
      cases q3)
  refine ⟨g, v5, fun left x q1 q2 q3 => by simp only [hI_uI, hL_uI, hR_uI, nx_uI, sl_uI, hI_uL, hL_uL, hR_uL, nx_uL, sl_uL, hI_uR, hL_uR, hR_uR, nx_uR, sl_uR, st_eq, if_true, if_false, eq_self, Nat.reduceEqDiff, Nat.reduceMul, reduceIte, kdT, ixT, w_cl, w_ti, w_s1, w_a, w_m12, w_m8, w_m3, w_m4]; exact k1 left x q1 q2 q3, fun Q => ?_⟩
  have e12 := k2 Q
  dsimp only at e12
  rw [uI_self] at e12
  refine e12.trans ?_
  have gt : 2 ^ l.length - 1 < 2 ^ l.length := by omega
  rw [s54_23]
  simp (disch := first | omega | assumption | decide | (apply bT_; decide)) only [s54_0, s54_1, s54_2, s54_3, s54_6, s54_7, s54_8, s54_11, s54_12, s54_13, s54_16, s54_17, s54_18, s54_19, s54_20, s54_21, s54_25, s54_26, s54_30, s54_32, s54_34, s54_35, s54_38, s54_41, s54_43, s54_45, s54_46, s54_47, s54_48, s54_49, s54_52, s54_53, s54_56, s54_58, s54_60, s54_61, s54_63, s54_64, s54_65, s54_67, s54_69, s54_72, s54_73, s54_76, s54_79, s54_82, s54_86, s54_87, s54_88, s54_91, K_v, K_0, acI, acA, acJ, acX, List.map_cons, List.map_nil, List.sum_cons, List.sum_nil, true_and, and_true, posT, b2_0, b2_1, bft, true_or, or_true, Nat.zero_le, Nat.reduceAdd, Nat.reduceLeDiff, hI_uI, hL_uI, hR_uI, nx_uI, sl_uI, hI_uL, hL_uL, hR_uL, nx_uL, sl_uL, hI_uR, hL_uR, hR_uR, nx_uR, sl_uR, st_eq, if_true, if_false, eq_self, Nat.reduceEqDiff, Nat.reduceMul, reduceIte, kdT, ixT, w_cl, w_ti, w_s1, w_a, w_m12, w_m8, w_m3, w_m4, gt, w_lt, kd_PL, ln_PL]
theorem c_plan {set : Nat} (hC : CS_ h) (hP : CP_ P sp h) (hB : PB_ P) (hs : set < 2 ^ qn_ P) (h0 : set ≠ 0) (hn : (mem_ set 12).length ≤ 8) (hd : 4 ≤ d) : ∃ h', KP_ h h' ∧ CW_ (mem_ set 12).length (fun j => Int32.ofNat ((gdy_ (wk_ P) (mem_ set 12).length (wf_ P) (mem_ set 12)).2.getD j 0)) h' ∧ Do_ xs d 54 [vA (some 27000838), vA (some 25690901), vI (Int32.ofNat set), vX 0, vX 0, vX 0] h (some (some (vI (Int32.ofNat (gdy_ (wk_ P) (mem_ set 12).length (wf_ P) (mem_ set 12)).1)))) h' := by
  have h12 := hP.2.1.1
  have hs12 : set < 2 ^ 12 := Nat.lt_of_lt_of_le hs (Nat.pow_le_pow_right (by omega) h12)
  have hl0 : 0 < (mem_ set 12).length := by
    rcases Nat.eq_zero_or_pos (mem_ set 12).length with z | z
    · exact absurd ((mem_zero hs12).mp (List.eq_nil_of_length_eq_zero z)) h0
    · exact z
  have hinj := mem_inj (s := set) (n := 12)
  have hq : ∀ j, j < (mem_ set 12).length → (mem_ set 12).getD j 0 < qn_ P := by
    intro j hj
    have hm : (mem_ set 12).getD j 0 ∈ mem_ set 12 := by rw [gd_e hj]; exact List.getElem_mem _
    have hb := (mem_mem.mp hm).2
    rcases Nat.lt_or_ge ((mem_ set 12).getD j 0) (qn_ P) with z | z
    · exact z
    · rw [Nat.testBit_lt_two_pow (Nat.lt_of_lt_of_le hs (Nat.pow_le_pow_right (by omega) z))] at hb; cases hb
  obtain ⟨h1, f1, f2, f3⟩ := c_gather (xs := xs) (d := d - 1) hC hP hs hn
  obtain ⟨f, f4, f5⟩ := c_weigh (xs := xs) (d := d - 1) (f1.cs hC) (f1.cp hP) hB hn hq f2 (by omega)
  have kp2 : KP_ h (uI_ h1 27529232 f) := f1.uI (by decide)
  obtain ⟨m1, m2⟩ := f2
  have f2 : ME_ (mem_ set 12) (uI_ h1 27529232 f) := ⟨by simp only [hI_uI, hL_uI, hR_uI, nx_uI, sl_uI, hI_uL, hL_uL, hR_uL, nx_uL, sl_uL, hI_uR, hL_uR, hR_uR, nx_uR, sl_uR, st_eq, if_true, if_false, eq_self, Nat.reduceEqDiff, Nat.reduceMul, reduceIte, kdT, ixT, w_cl, w_ti, w_s1, w_a, w_m12, w_m8, w_m3, w_m4]; exact m1, fun j hj => by simp only [hI_uI, hL_uI, hR_uI, nx_uI, sl_uI, hI_uL, hL_uL, hR_uL, nx_uL, sl_uL, hI_uR, hL_uR, hR_uR, nx_uR, sl_uR, st_eq, if_true, if_false, eq_self, Nat.reduceEqDiff, Nat.reduceMul, reduceIte, kdT, ixT, w_cl, w_ti, w_s1, w_a, w_m12, w_m8, w_m3, w_m4]; exact m2 j hj⟩
  obtain ⟨g, v5, g1, g2⟩ := c_fill0 (xs := xs) (d := d) (set := Int32.ofNat set) (kp2.cs hC) hB f2 f4 hn hq hinj (by omega)
  have kp3 : KP_ h (uI_ (uI_ h1 27529232 f) 27918352 g) := kp2.uI (by decide)
  have m3 : ME_ (mem_ set 12) (uI_ (uI_ h1 27529232 f) 27918352 g) := ⟨by simp only [hI_uI, hL_uI, hR_uI, nx_uI, sl_uI, hI_uL, hL_uL, hR_uL, nx_uL, sl_uL, hI_uR, hL_uR, hR_uR, nx_uR, sl_uR, st_eq, if_true, if_false, eq_self, Nat.reduceEqDiff, Nat.reduceMul, reduceIte, kdT, ixT, w_cl, w_ti, w_s1, w_a, w_m12, w_m8, w_m3, w_m4]; exact m1, fun j hj => by simp only [hI_uI, hL_uI, hR_uI, nx_uI, sl_uI, hI_uL, hL_uL, hR_uL, nx_uL, sl_uL, hI_uR, hL_uR, hR_uR, nx_uR, sl_uR, st_eq, if_true, if_false, eq_self, Nat.reduceEqDiff, Nat.reduceMul, reduceIte, kdT, ixT, w_cl, w_ti, w_s1, w_a, w_m12, w_m8, w_m3, w_m4]; exact m2 j hj⟩
  have c3 : CG_ P (mem_ set 12) (uI_ (uI_ h1 27529232 f) 27918352 g) := fun a b ha hb => by have := f4 a b ha hb; simp only [hI_uI, hL_uI, hR_uI, nx_uI, sl_uI, hI_uL, hL_uL, hR_uL, nx_uL, sl_uL, hI_uR, hL_uR, hR_uR, nx_uR, sl_uR, st_eq, if_true, if_false, eq_self, Nat.reduceEqDiff, Nat.reduceMul, reduceIte, kdT, ixT, w_cl, w_ti, w_s1, w_a, w_m12, w_m8, w_m3, w_m4] at this ⊢; exact this
  obtain ⟨r, r1, r2⟩ := c_follow (xs := xs) (d := d - 1) (kp3.cs hC) (kp3.cp hP) hB m3 c3 g1 hn hl0 hq hinj (by omega)
  refine ⟨_, kp3.uI (b := 28049936) (r := r) (by decide), ⟨by simp only [hI_uI, hL_uI, hR_uI, nx_uI, sl_uI, hI_uL, hL_uL, hR_uL, nx_uL, sl_uL, hI_uR, hL_uR, hR_uR, nx_uR, sl_uR, st_eq, if_true, if_false, eq_self, Nat.reduceEqDiff, Nat.reduceMul, reduceIte, kdT, ixT, w_cl, w_ti, w_s1, w_a, w_m12, w_m8, w_m3, w_m4]; exact m1, hn, fun i hi => by simp only [hI_uI, hL_uI, hR_uI, nx_uI, sl_uI, hI_uL, hL_uL, hR_uL, nx_uL, sl_uL, hI_uR, hL_uR, hR_uR, nx_uR, sl_uR, st_eq, if_true, if_false, eq_self, Nat.reduceEqDiff, Nat.reduceMul, reduceIte, kdT, ixT, w_cl, w_ti, w_s1, w_a, w_m12, w_m8, w_m3, w_m4]; exact r1 i hi⟩, fun Q => ?_⟩
  have m1' : hI_ (uI_ h1 27529232 f) 27000838 4 = Int32.ofNat (mem_ set 12).length := f2.1
  have hsh := w_shl (mem_ set 12).length (by omega)
  have hp1 := w_p1 (a := 2 ^ (mem_ set 12).length) (Nat.two_pow_pos _)
  simp (disch := first | omega | assumption | decide | (apply bT_; decide)) only [s54_0, s54_1, s54_2, s54_3, s54_6, s54_7, s54_8, s54_11, s54_12, s54_13, s54_16, s54_17, s54_18, s54_19, s54_20, s54_21, s54_25, s54_26, s54_29, s54_30, s54_32, s54_34, s54_35, s54_38, s54_41, s54_43, s54_45, s54_46, s54_47, s54_48, s54_49, s54_52, s54_53, s54_56, s54_58, s54_60, s54_61, s54_63, s54_64, s54_65, s54_67, s54_69, s54_72, s54_73, s54_76, s54_79, s54_82, s54_85, s54_86, s54_87, s54_88, s54_91, K_v, K_0, acI, acA, acJ, acX, List.map_cons, List.map_nil, List.sum_cons, List.sum_nil, true_and, and_true, posT, b2_0, b2_1, bft, true_or, or_true, Nat.zero_le, Nat.reduceAdd, Nat.reduceLeDiff, f3, f5, m1', hsh, hp1, kd_PL, ln_PL]
  refine Iff.trans (show V_ xs d 54 23 _ _ _ _ ↔ _ from g2 Q) ?_
  simp (disch := first | omega | assumption | decide | (apply bT_; decide)) only [s54_0, s54_1, s54_2, s54_3, s54_6, s54_7, s54_8, s54_11, s54_12, s54_13, s54_16, s54_17, s54_18, s54_19, s54_20, s54_21, s54_25, s54_26, s54_29, s54_30, s54_32, s54_34, s54_35, s54_38, s54_41, s54_43, s54_45, s54_46, s54_47, s54_48, s54_49, s54_52, s54_53, s54_56, s54_58, s54_60, s54_61, s54_63, s54_64, s54_65, s54_67, s54_69, s54_72, s54_73, s54_76, s54_79, s54_82, s54_85, s54_86, s54_87, s54_88, s54_91, K_v, K_0, acI, acA, acJ, acX, List.map_cons, List.map_nil, List.sum_cons, List.sum_nil, true_and, and_true, posT, b2_0, b2_1, bft, true_or, or_true, Nat.zero_le, Nat.reduceAdd, Nat.reduceLeDiff, r2, kd_PL, ln_PL]
end CPN
/-! the week: which sets -/
theorem ush_0 {v : Int32} {n : Nat} (hn : n ≤ 12) : (v.toUInt32 >>> ((Int32.ofNat n).toUInt32 &&& Int32.toUInt32 31)).toInt32 = 0 ↔ 0 ≤ v.toInt ∧ v.toInt < (2 ^ n : Nat) := by
  have e1 : ∀ n, n < 13 → (((Int32.ofNat n).toUInt32 &&& Int32.toUInt32 31)).toNat % 32 = n := by decide +kernel
  have e2 := e1 n (by omega)
  have e3 : (v.toUInt32 >>> ((Int32.ofNat n).toUInt32 &&& Int32.toUInt32 31)).toNat = v.toUInt32.toNat / 2 ^ n := by
    rw [UInt32.toNat_shiftRight, e2, Nat.shiftRight_eq_div_pow]
  have hp : 0 < 2 ^ n := Nat.two_pow_pos _
  have hp2 : 2 ^ n ≤ 2 ^ 12 := Nat.pow_le_pow_right (by omega) hn
  have e4 : v.toInt = if 2 * v.toUInt32.toNat < 2 ^ 32 then (v.toUInt32.toNat : Int) else (v.toUInt32.toNat : Int) - (2 ^ 32 : Nat) := BitVec.toInt_eq_toNat_cond v.toBitVec
  have e5 : (v.toUInt32 >>> ((Int32.ofNat n).toUInt32 &&& Int32.toUInt32 31)).toInt32 = 0 ↔ v.toUInt32.toNat / 2 ^ n = 0 := by
    rw [← e3]
    constructor
    · intro z
      have := congrArg Int32.toUInt32 z
      rw [UInt32.toUInt32_toInt32] at this
      rw [this]
      rfl
    · intro z
      have : v.toUInt32 >>> ((Int32.ofNat n).toUInt32 &&& Int32.toUInt32 31) = 0 := UInt32.toNat_inj.mp z
      rw [this]
      rfl
  rw [e5, Nat.div_eq_zero_iff, e4]
  have hlt : v.toUInt32.toNat < 2 ^ 32 := v.toUInt32.toNat_lt
  split <;> omega
theorem bc_64 : ∀ a, a < 64 → ∀ b, b < 64 → bc5_ (bc4_ (bc3_ (bc2_ (bc1_ (Int32.ofNat (64 * a + b)))))) = Int32.ofNat (mem_ (64 * a + b) 12).length := by decide +kernel
theorem bc_12 (s : Nat) (hs : s < 4096) : bc5_ (bc4_ (bc3_ (bc2_ (bc1_ (Int32.ofNat s))))) = Int32.ofNat (mem_ s 12).length := by
  have := bc_64 (s / 64) (by omega) (s % 64) (by omega)
  rw [Nat.div_add_mod] at this
  exact this
section CWK
variable {xs : Nat → Int32} {d : Nat} {h : AH} {P : PS} {sp : Nat → Nat}
theorem c_bitCountA {v : Int32} {Q : OU_ → AH → Prop} : V_ xs d 181 0 [vI v] [] h Q ↔ Q (some (some (vI (bc5_ (bc4_ (bc3_ (bc2_ (bc1_ v)))))))) h := by
  simp (disch := first | omega | assumption | decide | (apply bT_; decide)) only [s181_0, s181_1, s181_2, s181_3, s181_4, s181_7, s181_8, s181_9, s181_10, s181_11, s181_14, s181_15, s181_16, s181_17, s181_18, s181_21, s181_22, s181_23, s181_24, s181_25, s181_26, s181_27, s181_28, s181_29, s181_32, s181_33, s181_34, s181_35, s181_36, s181_38, s181_39, s181_40, s181_41, s181_42, s181_43, s181_45, s181_46, s181_47, s181_48, s181_49, s181_51, s181_52, K_v, K_0, acI, acA, acJ, acX, List.map_cons, List.map_nil, List.sum_cons, List.sum_nil, true_and, and_true, posT, b2_0, b2_1, bft, true_or, or_true, Nat.zero_le, Nat.reduceAdd, Nat.reduceLeDiff]
  rfl
def okWk_ (P : PS) (v : Int32) : Bool := decide (0 < v.toInt) && decide (v.toInt < (2 ^ qn_ P : Nat)) && decide ((mem_ v.toNatClampNeg 12).length ≤ 8)
def wkn_ (v : Int32) : Nat := (mem_ v.toNatClampNeg 12).length
def wkv_ (P : PS) (v : Int32) : Nat × List Nat := gdy_ (wk_ P) (wkn_ v) (wf_ P) (mem_ v.toNatClampNeg 12)
theorem x_week {v : Int32} (hC : CS_ h) (hP : CP_ P sp h) (hB : PB_ P) (hd : 5 ≤ d) : ∃ h', KP_ h h' ∧ (if okWk_ P v = true then Do_ xs d 75 [vA (some 25165831), vI v] h (some (some (vI (Int32.ofNat (wkv_ P v).1)))) h' ∧ CW_ (wkn_ v) (fun j => Int32.ofNat ((wkv_ P v).2.getD j 0)) h' else h' = h ∧ Do_ xs d 75 [vA (some 25165831), vI v] h (some (some (vI (-1)))) h) := by
  have h12 := hP.2.1.1
  have u3 := hP.1
  have hsh := ush_0 (v := v) (n := qn_ P) h12
  have hp2 : 2 ^ qn_ P ≤ 2 ^ 12 := Nat.pow_le_pow_right (by omega) h12
  by_cases q : 0 ≤ v.toInt ∧ v.toInt < (2 ^ qn_ P : Nat)
  · obtain ⟨s, rfl, e2, e3⟩ := w_of q.1
    have hs : s < 2 ^ qn_ P := by omega
    have hcl : (Int32.ofNat s).toNatClampNeg = s := w_cl e3
    have hz := hsh.mpr q
    have hbc := bc_12 s (by omega)
    have hle := mem_le (s := s) (n := 12)
    by_cases q2 : 0 < s ∧ (mem_ s 12).length ≤ 8
    · have ok : okWk_ P (Int32.ofNat s) = true := by
        unfold okWk_
        rw [hcl, decide_eq_true (by omega), decide_eq_true (by omega), decide_eq_true q2.2]
        rfl
      obtain ⟨h', g1, g2, g3⟩ := c_plan (xs := xs) (d := d - 1) hC hP hB hs (by omega) q2.2 (by omega)
      refine ⟨h', g1, ?_⟩
      rw [if_pos ok]
      unfold wkv_ wkn_
      rw [hcl]
      refine ⟨fun Q => ?_, g2⟩
      have hl0 : 0 < (mem_ s 12).length := by
        rcases Nat.eq_zero_or_pos (mem_ s 12).length with z | z
        · have := (mem_zero (s := s) (n := 12) (by omega)).mp (List.eq_nil_of_length_eq_zero z); omega
        · exact z
      have hwi : b2_ (wi_ (Int32.ofNat (mem_ s 12).length) 1 8) = 1 := by
        have : ∀ n, n < 13 → 0 < n → n ≤ 8 → b2_ (wi_ (Int32.ofNat n) 1 8) = 1 := by decide +kernel
        exact this _ (by omega) hl0 q2.2
      have k10 : ¬ ((1 : Int32) = 0) := by decide
      simp (disch := first | omega | assumption | decide | (apply bT_; decide)) only [s75_0, s75_1, s75_2, s75_5, s75_6, s75_9, s75_10, s75_13, s75_14, s75_16, s75_19, s75_23, s75_24, s75_25, s75_28, s75_29, s75_32, s75_33, s75_36, K_v, K_0, acI, acA, acJ, acX, List.map_cons, List.map_nil, List.sum_cons, List.sum_nil, true_and, and_true, posT, b2_0, b2_1, bft, true_or, or_true, Nat.zero_le, Nat.reduceAdd, Nat.reduceLeDiff, hI_uI, hL_uI, hR_uI, nx_uI, sl_uI, hI_uL, hL_uL, hR_uL, nx_uL, sl_uL, hI_uR, hL_uR, hR_uR, nx_uR, sl_uR, st_eq, if_true, if_false, eq_self, Nat.reduceEqDiff, Nat.reduceMul, reduceIte, kdT, ixT, w_cl, w_ti, w_s1, w_a, w_m12, w_m8, w_m3, w_m4, hC.x0, hC.x2, hC.x4, hC.x7, hC.x8, hC.x9, hC.x11, hC.f0, hC.f1, hC.f2, hC.p0, hC.p1, hC.p2, hC.p3, hC.l1, hC.l2, hC.l3, hC.l4, hC.d0, hC.d1, hC.d2, hC.g1, hC.g2, hC.g3, hC.g4, hC.k1, hC.k2, hC.k3, hC.k4, u3, hz, c_bitCountA, hbc, c_within, hwi, k10, g3, kd_X, ln_X]
    · have ok : ¬ (okWk_ P (Int32.ofNat s) = true) := by
        unfold okWk_
        rw [hcl]
        intro z
        rw [Bool.and_eq_true, Bool.and_eq_true, decide_eq_true_eq, decide_eq_true_eq, decide_eq_true_eq] at z
        exact q2 ⟨by omega, z.2⟩
      refine ⟨h, KP_.rf, ?_⟩
      rw [if_neg ok]
      refine ⟨rfl, fun Q => ?_⟩
      have hwi : b2_ (wi_ (Int32.ofNat (mem_ s 12).length) 1 8) = 0 := by
        have : ∀ n, n < 13 → ¬ (0 < n ∧ n ≤ 8) → b2_ (wi_ (Int32.ofNat n) 1 8) = 0 := by decide +kernel
        refine this _ (by omega) (fun z => q2 ⟨?_, z.2⟩)
        rcases Nat.eq_zero_or_pos s with y | y
        · rw [y] at z; exact absurd z.1 (by decide)
        · exact y
      simp (disch := first | omega | assumption | decide | (apply bT_; decide)) only [s75_0, s75_1, s75_2, s75_5, s75_6, s75_9, s75_10, s75_13, s75_14, s75_16, s75_19, s75_22, s75_23, s75_25, s75_28, s75_29, s75_32, s75_33, s75_36, K_v, K_0, acI, acA, acJ, acX, List.map_cons, List.map_nil, List.sum_cons, List.sum_nil, true_and, and_true, posT, b2_0, b2_1, bft, true_or, or_true, Nat.zero_le, Nat.reduceAdd, Nat.reduceLeDiff, hI_uI, hL_uI, hR_uI, nx_uI, sl_uI, hI_uL, hL_uL, hR_uL, nx_uL, sl_uL, hI_uR, hL_uR, hR_uR, nx_uR, sl_uR, st_eq, if_true, if_false, eq_self, Nat.reduceEqDiff, Nat.reduceMul, reduceIte, kdT, ixT, w_cl, w_ti, w_s1, w_a, w_m12, w_m8, w_m3, w_m4, hC.x0, hC.x2, hC.x4, hC.x7, hC.x8, hC.x9, hC.x11, hC.f0, hC.f1, hC.f2, hC.p0, hC.p1, hC.p2, hC.p3, hC.l1, hC.l2, hC.l3, hC.l4, hC.d0, hC.d1, hC.d2, hC.g1, hC.g2, hC.g3, hC.g4, hC.k1, hC.k2, hC.k3, hC.k4, u3, hz, c_bitCountA, hbc, c_within, hwi, kd_X, ln_X]
  · have ok : ¬ (okWk_ P v = true) := by
      unfold okWk_
      intro z
      rw [Bool.and_eq_true, Bool.and_eq_true, decide_eq_true_eq, decide_eq_true_eq] at z
      exact q ⟨by omega, z.1.2⟩
    have hz : ¬ _ := fun z => q (hsh.mp z)
    refine ⟨h, KP_.rf, ?_⟩
    rw [if_neg ok]
    refine ⟨rfl, fun Q => ?_⟩
    simp (disch := first | omega | assumption | decide | (apply bT_; decide)) only [s75_0, s75_1, s75_2, s75_5, s75_6, s75_10, s75_13, s75_14, s75_16, s75_19, s75_22, s75_23, s75_24, s75_25, s75_28, s75_29, s75_32, s75_33, s75_36, K_v, K_0, acI, acA, acJ, acX, List.map_cons, List.map_nil, List.sum_cons, List.sum_nil, true_and, and_true, posT, b2_0, b2_1, bft, true_or, or_true, Nat.zero_le, Nat.reduceAdd, Nat.reduceLeDiff, hI_uI, hL_uI, hR_uI, nx_uI, sl_uI, hI_uL, hL_uL, hR_uL, nx_uL, sl_uL, hI_uR, hL_uR, hR_uR, nx_uR, sl_uR, st_eq, if_true, if_false, eq_self, Nat.reduceEqDiff, Nat.reduceMul, reduceIte, kdT, ixT, w_cl, w_ti, w_s1, w_a, w_m12, w_m8, w_m3, w_m4, hC.x0, hC.x2, hC.x4, hC.x7, hC.x8, hC.x9, hC.x11, hC.f0, hC.f1, hC.f2, hC.p0, hC.p1, hC.p2, hC.p3, hC.l1, hC.l2, hC.l3, hC.l4, hC.d0, hC.d1, hC.d2, hC.g1, hC.g2, hC.g3, hC.g4, hC.k1, hC.k2, hC.k3, hC.k4, u3, hz, kd_X, ln_X]
end CWK
