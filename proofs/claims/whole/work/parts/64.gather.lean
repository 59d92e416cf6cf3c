/-! the week: the class gathers the plays -/
def KP_ (h h' : AH) : Prop := (∀ a, a ≠ 27000838 → a ≠ 27263504 → a ≠ 27529232 → a ≠ 27918352 → a ≠ 28049936 → hI_ h' a = hI_ h a) ∧ hL_ h' = hL_ h ∧ hR_ h' = hR_ h ∧ nx_ h' = nx_ h ∧ sl_ h' = sl_ h
section KPS
variable {h h1 h2 : AH} {P : PS} {sp sa : Nat → Nat} {na : Nat} {F G : Nat → Nat → Int32}
theorem KP_.rf : KP_ h h := ⟨fun _ _ _ _ _ _ => rfl, rfl, rfl, rfl, rfl⟩
theorem KP_.tr (f : KP_ h h1) (g : KP_ h1 h2) : KP_ h h2 := by
  obtain ⟨f1, f2, f3, f4, f5⟩ := f
  obtain ⟨g1, g2, g3, g4, g5⟩ := g
  exact ⟨fun a q1 q2 q3 q4 q5 => (g1 a q1 q2 q3 q4 q5).trans (f1 a q1 q2 q3 q4 q5), g2.trans f2, g3.trans f3, g4.trans f4, g5.trans f5⟩
theorem KP_.uI {b : Nat} {r : Nat → Int32} (f : KP_ h h1) (hb : b = 27000838 ∨ b = 27263504 ∨ b = 27529232 ∨ b = 27918352 ∨ b = 28049936) : KP_ h (uI_ h1 b r) := by
  obtain ⟨f1, f2, f3, f4, f5⟩ := f
  refine ⟨fun a q1 q2 q3 q4 q5 => ?_, f2, f3, f4, f5⟩
  rw [hI_uI, if_neg (by omega)]
  exact f1 a q1 q2 q3 q4 q5
theorem KP_.cs (f : KP_ h h1) (H : CS_ h) : CS_ h1 := by
  obtain ⟨-, -, f3, -⟩ := f
  unfold CS_ at H ⊢
  rw [f3]
  exact H
theorem KP_.ser (f : KP_ h h1) {s k n : Nat} (hs : 164 ≤ s) (hk : k < 64) (hn : n < 4096) : hI_ h1 (mk_ s k n) = hI_ h (mk_ s k n) ∧ hR_ h1 (mk_ s k n) = hR_ h (mk_ s k n) := by
  obtain ⟨f1, -, f3, -⟩ := f
  have hm : mk_ s k n = (s * 4096 + n) * 64 + k := rfl
  exact ⟨f1 _ (by omega) (by omega) (by omega) (by omega) (by omega), by rw [f3]⟩
theorem KP_.cp (f : KP_ h h1) (H : CP_ P sp h) : CP_ P sp h1 := by
  refine H.fr ?_ ?_ (fun s hs _ => ⟨(f.ser hs (by omega) (by omega)).1, (f.ser hs (by omega) (by omega)).2, (f.ser hs (by omega) (by omega)).1, (f.ser hs (by omega) (by omega)).1⟩) (by rw [f.2.2.2.1]; exact Nat.le_refl _)
  · rw [f.1 25165831 (by decide) (by decide) (by decide) (by decide) (by decide)]
  · rw [f.2.2.1]
theorem KP_.ca (f : KP_ h h1) (H : CA_ na sa F G h) : CA_ na sa F G h1 := by
  refine H.fr ?_ ?_ (fun s hs _ => ⟨(f.ser hs (by omega) (by omega)).1, (f.ser hs (by omega) (by omega)).2, (f.ser hs (by omega) (by omega)).1⟩) (by rw [f.2.2.2.1]; exact Nat.le_refl _)
  · rw [f.1 25165831 (by decide) (by decide) (by decide) (by decide) (by decide)]
  · rw [f.2.2.1]
end KPS
/-- the planner's members -/
def ME_ (l : List Nat) (h : AH) : Prop := hI_ h 27000838 4 = Int32.ofNat l.length ∧ ∀ j, j < l.length → hI_ h 27263504 j = Int32.ofNat (l.getD j 0)
section CGA
variable {xs : Nat → Int32} {d : Nat} {h : AH} {Q : OU_ → AH → Prop} {P : PS} {sp : Nat → Nat} {set : Nat}
theorem mem_mono : ∀ {k i : Nat}, (mem_ set i).length ≤ (mem_ set (i + k)).length := by
  intro k
  induction k with
  | zero => intro i; exact Nat.le_refl _
  | succ k ih =>
    intro i
    refine Nat.le_trans (ih (i := i)) ?_
    show _ ≤ (if set.testBit (i + k) = true then mem_ set (i + k) ++ [i + k] else mem_ set (i + k)).length
    split
    · rw [List.length_append]; omega
    · exact Nat.le_refl _
theorem mem_same : ∀ {k i : Nat}, (mem_ set (i + k)).length ≤ (mem_ set i).length → mem_ set (i + k) = mem_ set i := by
  intro k
  induction k with
  | zero => intro i _; rfl
  | succ k ih =>
    intro i hle
    have e : mem_ set (i + (k + 1)) = if set.testBit (i + k) = true then mem_ set (i + k) ++ [i + k] else mem_ set (i + k) := rfl
    rw [e] at hle ⊢
    have hm := mem_mono (set := set) (k := k) (i := i)
    by_cases q : set.testBit (i + k) = true
    · rw [if_pos q, List.length_append] at hle
      have : [i + k].length = 1 := rfl
      omega
    · rw [if_neg q] at hle ⊢
      exact ih hle
theorem c_gather (hC : CS_ h) (hP : CP_ P sp h) (hs : set < 2 ^ qn_ P) (hn : (mem_ set 12).length ≤ 8) : ∃ h', KP_ h h' ∧ ME_ (mem_ set 12) h' ∧ Do_ xs d 55 [vA (some 27000838), vA (some 25690901), vI (Int32.ofNat set), vX 0] h (some none) h' := by
  have h12 := hP.2.1.1
  have hs2 : 2 ^ qn_ P ≤ 2 ^ 12 := Nat.pow_le_pow_right (by omega) h12
  have hak : 16 ≤ kd_ 25690901 ∧ kd_ 25690901 ≤ 22 ∨ 34 ≤ kd_ 25690901 ∧ kd_ 25690901 ≤ 36 := by decide
  have hb : kd_ 25690901 = 20 ∨ kd_ 25690901 = 21 ∨ kd_ 25690901 = 22 := Or.inr (Or.inl rfl)
  have key : ∀ (k i : Nat) (x : AH), i + k = 12 → KP_ h x → ME_ (mem_ set i) x → ∃ x', KP_ h x' ∧ ME_ (mem_ set 12) x' ∧ ∀ Q, V_ xs d 55 7 [vA (some 27000838), vA (some 25690901), vI (Int32.ofNat set), vI (Int32.ofNat i)] [] x Q ↔ Q (some none) x' := by
    intro k
    induction k with
    | zero =>
      intro i x hik i1 i2
      have e : i = 12 := by omega
      subst e
      refine ⟨x, i1, i2, fun Q => ?_⟩
      have nl : ¬ (Int32.ofNat 12 < Int32.ofNat 12) := by decide
      rw [s55_7]
      simp (disch := first | omega | assumption | decide | (apply bT_; decide)) only [s55_0, s55_1, s55_2, s55_5, s55_6, s55_8, s55_9, s55_10, s55_14, s55_17, s55_19, s55_22, s55_23, s55_24, s55_25, s55_26, s55_27, s55_28, s55_31, s55_32, s55_33, s55_34, s55_37, s55_38, s55_41, s55_42, s55_45, s55_46, s55_47, s55_48, s55_48i, s55_49, s55_52, s55_53, s55_54, s55_57, s55_60, s55_63, K_v, K_0, acI, acA, acJ, acX, List.map_cons, List.map_nil, List.sum_cons, List.sum_nil, true_and, and_true, posT, b2_0, b2_1, bft, true_or, or_true, Nat.zero_le, Nat.reduceAdd, Nat.reduceLeDiff, hI_uI, hL_uI, hR_uI, nx_uI, sl_uI, hI_uL, hL_uL, hR_uL, nx_uL, sl_uL, hI_uR, hL_uR, hR_uR, nx_uR, sl_uR, st_eq, if_true, if_false, eq_self, Nat.reduceEqDiff, Nat.reduceMul, reduceIte, kdT, ixT, w_cl, w_ti, w_s1, w_a, w_m12, w_m8, w_m3, w_m4, nl, kd_REP, ln_REP]
    | succ k ih =>
      intro i x hik i1 i2
      have hCx := i1.cs hC
      have hPx := i1.cp hP
      obtain ⟨j1, j2⟩ := id i2
      have i12 : Int32.ofNat i < Int32.ofNat 12 := (w_lt (b := 12) (by omega) (by omega)).mpr (by omega)
      have hle : (mem_ set i).length ≤ (mem_ set 12).length := by have := mem_mono (set := set) (k := k + 1) (i := i); rw [hik] at this; exact this
      have hbit := w_bit (M := set) (m := i) (by omega) (by omega)
      by_cases q8 : (mem_ set i).length < 8
      · have n8 : Int32.ofNat (mem_ set i).length < 8 := (w_lt (b := 8) (by omega) (by omega)).mpr q8
        cases hbt : set.testBit i
        · rw [hbt] at hbit
          have em : mem_ set (i + 1) = mem_ set i := by show (if set.testBit i = true then _ else _) = _; rw [hbt]; rfl
          obtain ⟨x', g1, g2, g3⟩ := ih (i + 1) x (by omega) i1 (by rw [em]; exact i2)
          refine ⟨x', g1, g2, fun Q => Iff.trans ?_ (g3 Q)⟩
          have k1 : ¬ ((0 : Int32) = 1) := by decide
          rw [s55_7]
          simp (disch := first | omega | assumption | decide | (apply bT_; decide)) only [s55_0, s55_1, s55_2, s55_5, s55_6, s55_8, s55_9, s55_10, s55_13, s55_14, s55_17, s55_19, s55_22, s55_23, s55_24, s55_25, s55_26, s55_27, s55_28, s55_32, s55_33, s55_34, s55_37, s55_38, s55_41, s55_42, s55_45, s55_46, s55_47, s55_48, s55_48i, s55_49, s55_52, s55_53, s55_54, s55_57, s55_60, K_v, K_0, acI, acA, acJ, acX, List.map_cons, List.map_nil, List.sum_cons, List.sum_nil, true_and, and_true, posT, b2_0, b2_1, bft, true_or, or_true, Nat.zero_le, Nat.reduceAdd, Nat.reduceLeDiff, hI_uI, hL_uI, hR_uI, nx_uI, sl_uI, hI_uL, hL_uL, hR_uL, nx_uL, sl_uL, hI_uR, hL_uR, hR_uR, nx_uR, sl_uR, st_eq, if_true, if_false, eq_self, Nat.reduceEqDiff, Nat.reduceMul, reduceIte, kdT, ixT, w_cl, w_ti, w_s1, w_a, w_m12, w_m8, w_m3, w_m4, j1, i12, n8, hbit, k1, kd_REP, ln_REP, kd_PL, ln_PL, Bool.false_eq_true]
        · rw [hbt] at hbit
          have hi : i < qn_ P := by
            rcases Nat.lt_or_ge i (qn_ P) with z | z
            · exact z
            · rw [Nat.testBit_lt_two_pow (Nat.lt_of_lt_of_le hs (Nat.pow_le_pow_right (by omega) z))] at hbt; cases hbt
          have em : mem_ set (i + 1) = mem_ set i ++ [i] := by show (if set.testBit i = true then _ else _) = _; rw [hbt]; rfl
          have e1 := (hPx.2.2.1 i hi).1
          obtain ⟨x', g1, g2, g3⟩ := ih (i + 1) (uI_ (uI_ x 27263504 (st_ (hI_ x 27263504) (mem_ set i).length (Int32.ofNat i))) 27000838 (st_ (hI_ x 27000838) 4 (Int32.ofNat ((mem_ set i).length + 1)))) (by omega) ((i1.uI (by decide)).uI (by decide)) (by
            rw [em]
            refine ⟨by simp only [hI_uI, hL_uI, hR_uI, nx_uI, sl_uI, hI_uL, hL_uL, hR_uL, nx_uL, sl_uL, hI_uR, hL_uR, hR_uR, nx_uR, sl_uR, st_eq, if_true, if_false, eq_self, Nat.reduceEqDiff, Nat.reduceMul, reduceIte, kdT, ixT, w_cl, w_ti, w_s1, w_a, w_m12, w_m8, w_m3, w_m4]; rw [List.length_append]; rfl, fun j hj => ?_⟩
            rw [List.length_append] at hj
            have hj' : j < (mem_ set i).length + 1 := hj
            simp only [hI_uI, hL_uI, hR_uI, nx_uI, sl_uI, hI_uL, hL_uL, hR_uL, nx_uL, sl_uL, hI_uR, hL_uR, hR_uR, nx_uR, sl_uR, st_eq, if_true, if_false, eq_self, Nat.reduceEqDiff, Nat.reduceMul, reduceIte, kdT, ixT, w_cl, w_ti, w_s1, w_a, w_m12, w_m8, w_m3, w_m4]
            by_cases q : j = (mem_ set i).length
            · rw [if_pos q, q, gd_r]
            · rw [if_neg q, gd_l (by omega)]; exact j2 j (by omega))
          refine ⟨x', g1, g2, fun Q => Iff.trans ?_ (g3 Q)⟩
          rw [s55_7]
          simp (disch := first | omega | assumption | decide | (apply bT_; decide)) only [s55_0, s55_1, s55_2, s55_5, s55_6, s55_8, s55_9, s55_10, s55_13, s55_14, s55_17, s55_19, s55_22, s55_23, s55_24, s55_25, s55_26, s55_27, s55_28, s55_31, s55_32, s55_33, s55_34, s55_37, s55_38, s55_41, s55_42, s55_45, s55_46, s55_47, s55_48, s55_48i, s55_49, s55_52, s55_53, s55_54, s55_57, s55_60, K_v, K_0, acI, acA, acJ, acX, List.map_cons, List.map_nil, List.sum_cons, List.sum_nil, true_and, and_true, posT, b2_0, b2_1, bft, true_or, or_true, Nat.zero_le, Nat.reduceAdd, Nat.reduceLeDiff, hI_uI, hL_uI, hR_uI, nx_uI, sl_uI, hI_uL, hL_uL, hR_uL, nx_uL, sl_uL, hI_uR, hL_uR, hR_uR, nx_uR, sl_uR, st_eq, if_true, if_false, eq_self, Nat.reduceEqDiff, Nat.reduceMul, reduceIte, kdT, ixT, w_cl, w_ti, w_s1, w_a, w_m12, w_m8, w_m3, w_m4, hCx.x0, hCx.x2, hCx.x4, hCx.x7, hCx.x8, hCx.x9, hCx.x11, hCx.f0, hCx.f1, hCx.f2, hCx.p0, hCx.p1, hCx.p2, hCx.p3, hCx.l1, hCx.l2, hCx.l3, hCx.l4, hCx.d0, hCx.d1, hCx.d2, hCx.g1, hCx.g2, hCx.g3, hCx.g4, hCx.k1, hCx.k2, hCx.k3, hCx.k4, j1, e1, i12, n8, hbit, kd_REP, ln_REP, kd_PL, ln_PL, kd_MEM, ln_MEM, reduceCtorEq, Bool.true_eq_false]
      · have em : mem_ set 12 = mem_ set i := by
          have := mem_same (set := set) (k := k + 1) (i := i) (by rw [hik]; omega)
          rw [hik] at this; exact this
        refine ⟨x, i1, by rw [em]; exact i2, fun Q => ?_⟩
        have n8 : ¬ (Int32.ofNat (mem_ set i).length < 8) := fun z => q8 ((w_lt (b := 8) (by omega) (by omega)).mp z)
        rw [s55_7]
        simp (disch := first | omega | assumption | decide | (apply bT_; decide)) only [s55_0, s55_1, s55_2, s55_5, s55_6, s55_8, s55_9, s55_10, s55_13, s55_14, s55_17, s55_19, s55_23, s55_24, s55_25, s55_26, s55_27, s55_28, s55_31, s55_32, s55_33, s55_34, s55_37, s55_38, s55_41, s55_42, s55_45, s55_46, s55_47, s55_48, s55_48i, s55_49, s55_52, s55_53, s55_54, s55_57, s55_60, s55_63, K_v, K_0, acI, acA, acJ, acX, List.map_cons, List.map_nil, List.sum_cons, List.sum_nil, true_and, and_true, posT, b2_0, b2_1, bft, true_or, or_true, Nat.zero_le, Nat.reduceAdd, Nat.reduceLeDiff, hI_uI, hL_uI, hR_uI, nx_uI, sl_uI, hI_uL, hL_uL, hR_uL, nx_uL, sl_uL, hI_uR, hL_uR, hR_uR, nx_uR, sl_uR, st_eq, if_true, if_false, eq_self, Nat.reduceEqDiff, Nat.reduceMul, reduceIte, kdT, ixT, w_cl, w_ti, w_s1, w_a, w_m12, w_m8, w_m3, w_m4, j1, i12, n8, kd_REP, ln_REP, kd_PL, ln_PL]
  obtain ⟨x', g1, g2, g3⟩ := key 12 0 (uI_ h 27000838 (st_ (hI_ h 27000838) 4 0)) (by omega) (KP_.rf.uI (by decide)) ⟨by simp only [hI_uI, hL_uI, hR_uI, nx_uI, sl_uI, hI_uL, hL_uL, hR_uL, nx_uL, sl_uL, hI_uR, hL_uR, hR_uR, nx_uR, sl_uR, st_eq, if_true, if_false, eq_self, Nat.reduceEqDiff, Nat.reduceMul, reduceIte, kdT, ixT, w_cl, w_ti, w_s1, w_a, w_m12, w_m8, w_m3, w_m4]; rfl, fun j hj => absurd hj (Nat.not_lt_zero _)⟩
  refine ⟨x', g1, g2, fun Q => ?_⟩
  simp (disch := first | omega | assumption | decide | (apply bT_; decide)) only [s55_0, s55_1, s55_2, s55_5, s55_6, s55_8, s55_9, s55_10, s55_13, s55_14, s55_17, s55_19, s55_22, s55_23, s55_24, s55_25, s55_26, s55_27, s55_28, s55_31, s55_32, s55_33, s55_34, s55_37, s55_38, s55_41, s55_42, s55_45, s55_46, s55_47, s55_48, s55_48i, s55_49, s55_52, s55_53, s55_54, s55_57, s55_60, s55_63, K_v, K_0, acI, acA, acJ, acX, List.map_cons, List.map_nil, List.sum_cons, List.sum_nil, true_and, and_true, posT, b2_0, b2_1, bft, true_or, or_true, Nat.zero_le, Nat.reduceAdd, Nat.reduceLeDiff, hI_uI, hL_uI, hR_uI, nx_uI, sl_uI, hI_uL, hL_uL, hR_uL, nx_uL, sl_uL, hI_uR, hL_uR, hR_uR, nx_uR, sl_uR, st_eq, if_true, if_false, eq_self, Nat.reduceEqDiff, Nat.reduceMul, reduceIte, kdT, ixT, w_cl, w_ti, w_s1, w_a, w_m12, w_m8, w_m3, w_m4, kd_PL]
  exact g3 Q
end CGA
