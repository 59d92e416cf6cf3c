/-! the week: the work of a change -/
def nf_ (P : PS) (p j : Nat) : Nat := (qf_ P p j).toNatClampNeg
/-- the bounds of the plays' numbers -/
def PB_ (P : PS) : Prop := ∀ p, p < qn_ P → (∀ j, j < 4 → qf_ P p j = Int32.ofNat (nf_ P p j)) ∧ 1 ≤ nf_ P p 0 ∧ nf_ P p 0 ≤ 240 ∧ nf_ P p 1 ≤ 1000 ∧ nf_ P p 2 ≤ 11 ∧ nf_ P p 3 ≤ 30
def way_ (s t : Nat) : Nat := 2 * min (if s < t then t - s else s - t) (12 - (if s < t then t - s else s - t))
def wk_ (P : PS) (a b : Nat) : Nat := way_ (nf_ P a 2) (nf_ P b 2) + nf_ P a 3 * nf_ P b 3 / 10
def ab_ (x : Int32) : Int32 := if x < 0 then -x else x
theorem way_dec : ∀ s, s < 12 → ∀ t, t < 12 → 2 * (if 12 - ab_ (Int32.ofNat s - Int32.ofNat t) < ab_ (Int32.ofNat s - Int32.ofNat t) then 12 - ab_ (Int32.ofNat s - Int32.ofNat t) else ab_ (Int32.ofNat s - Int32.ofNat t)) = Int32.ofNat (way_ s t) := by decide +kernel
theorem ten_dec : ∀ s, s < 31 → ∀ t, t < 31 → Int32.ofNat s * Int32.ofNat t / 10 = Int32.ofNat (s * t / 10) := by decide +kernel
section WRK
variable {xs : Nat → Int32} {d : Nat} {h : AH} {Q : OU_ → AH → Prop} {P : PS} {a b : Nat} {sp : Nat → Nat}
theorem wk_le (hB : PB_ P) (ha : a < qn_ P) (hb : b < qn_ P) : wk_ P a b ≤ 102 := by
  obtain ⟨-, -, -, -, a2, a3⟩ := hB a ha
  obtain ⟨-, -, -, -, b2, b3⟩ := hB b hb
  have h1 : nf_ P a 3 * nf_ P b 3 ≤ 30 * 30 := Nat.mul_le_mul a3 b3
  unfold wk_ way_
  split <;> omega
theorem c_mwork (hM : MS_ h) (hP : MP_ P h) (hB : PB_ P) (ha : a < qn_ P) (hb : b < qn_ P) (hd : 1 ≤ d) : V_ xs d 137 0 [vA (some 33554440), vI (Int32.ofNat a), vI (Int32.ofNat b), vX 0] [] h Q ↔ Q (some (some (vI (Int32.ofNat (wk_ P a b))))) h := by
  have h12 := hP.2.1.1
  obtain ⟨a0, -, -, -, a2, a3⟩ := hB a ha
  obtain ⟨b0, -, -, -, b2, b3⟩ := hB b hb
  obtain ⟨-, -, u1, u2⟩ := hP.2.2.1 a ha
  obtain ⟨-, -, v1, v2⟩ := hP.2.2.1 b hb
  rw [a0 2 (by omega)] at u1
  rw [a0 3 (by omega)] at u2
  rw [b0 2 (by omega)] at v1
  rw [b0 3 (by omega)] at v2
  have e1 := way_dec (nf_ P a 2) (by omega) (nf_ P b 2) (by omega)
  have e2 := ten_dec (nf_ P a 3) (by omega) (nf_ P b 3) (by omega)
  unfold ab_ at e1
  have n10 : ¬ ((10 : Int32) = 0) := by decide
  simp (disch := first | omega | assumption | decide | (apply bT_; decide)) only [s137_0, s137_1, s137_4, s137_5, s137_6, s137_7, s137_10, s137_11, s137_12, s137_13, s137_16, s137_17, s137_18, s137_19, s137_21, s137_22, s137_23, s137_26, s137_27, s137_28, s137_31, s137_32, s137_33, s137_34, s137_37, s137_38, s137_39, s137_40, s137_42, s137_43, s137_44, K_v, K_0, acI, acA, acJ, acX, List.map_cons, List.map_nil, List.sum_cons, List.sum_nil, true_and, and_true, posT, b2_0, b2_1, bft, true_or, or_true, Nat.zero_le, Nat.reduceAdd, Nat.reduceLeDiff, hI_uI, hL_uI, hR_uI, nx_uI, sl_uI, hI_uL, hL_uL, hR_uL, nx_uL, sl_uL, hI_uR, hL_uR, hR_uR, nx_uR, sl_uR, st_eq, if_true, if_false, eq_self, Nat.reduceEqDiff, Nat.reduceMul, reduceIte, kdT, ixT, w_cl, w_ti, w_s1, w_a, w_m12, w_m8, w_m3, w_m4, hM.r2, hM.r3, hM.r4, hM.r5, hM.r6, hM.r7, hM.r9, hM.r10, hM.r11, hM.r12, hM.r13, hM.r14, hM.r15, hM.r16, hM.r17, hM.r18, hM.r20, hM.r21, hM.r23, hM.r29, hM.r30, hM.r35, hM.r36, hM.r37, hM.r38, hM.r40, hM.r42, hM.r43, hM.r44, hM.r45, hM.r46, hM.r47, u1, u2, v1, v2, c_abs, c_min, e1, e2, n10, kd_M, ln_M, kd_mSto, ln_mSto, kd_mWei, ln_mWei]
  rfl
theorem c_changeBetween (hP : CP_ P sp h) (hB : PB_ P) (ha : a < qn_ P) (hb : b < qn_ P) (hd : 1 ≤ d) : V_ xs d 57 0 [vA (some (mk_ (sp a) 4 0)), vA (some (mk_ (sp b) 4 0)), vX 0] [] h Q ↔ Q (some (some (vI (Int32.ofNat (wk_ P a b))))) h := by
  obtain ⟨a0, -, -, -, a2, a3⟩ := hB a ha
  obtain ⟨b0, -, -, -, b2, b3⟩ := hB b hb
  have hka : kd_ (mk_ (sp a) 4 0) = 4 := kd_mk (by omega)
  have hkb : kd_ (mk_ (sp b) 4 0) = 4 := kd_mk (by omega)
  have u1 := hP.2.2.2.2.1 a 2 ha (by omega)
  have u2 := hP.2.2.2.2.1 a 3 ha (by omega)
  have v1 := hP.2.2.2.2.1 b 2 hb (by omega)
  have v2 := hP.2.2.2.2.1 b 3 hb (by omega)
  rw [a0 2 (by omega)] at u1
  rw [a0 3 (by omega)] at u2
  rw [b0 2 (by omega)] at v1
  rw [b0 3 (by omega)] at v2
  have e1 := way_dec (nf_ P a 2) (by omega) (nf_ P b 2) (by omega)
  have e2 := ten_dec (nf_ P a 3) (by omega) (nf_ P b 3) (by omega)
  unfold ab_ at e1
  have n10 : ¬ ((10 : Int32) = 0) := by decide
  simp (disch := first | omega | assumption | decide | (apply bT_; decide)) only [s57_0, s57_1, s57_4, s57_5, s57_8, s57_9, s57_10, s57_11, s57_14, s57_15, s57_18, s57_19, s57_22, s57_23, s57_24, s57_25, s57_27, s57_28, s57_29, s57_32, s57_33, s57_34, s57_37, s57_38, s57_41, s57_42, s57_44, s57_45, s57_46, K_v, K_0, acI, acA, acJ, acX, List.map_cons, List.map_nil, List.sum_cons, List.sum_nil, true_and, and_true, posT, b2_0, b2_1, bft, true_or, or_true, Nat.zero_le, Nat.reduceAdd, Nat.reduceLeDiff, hI_uI, hL_uI, hR_uI, nx_uI, sl_uI, hI_uL, hL_uL, hR_uL, nx_uL, sl_uL, hI_uR, hL_uR, hR_uR, nx_uR, sl_uR, st_eq, if_true, if_false, eq_self, Nat.reduceEqDiff, Nat.reduceMul, reduceIte, kdT, ixT, w_cl, w_ti, w_s1, w_a, w_m12, w_m8, w_m3, w_m4, u1, u2, v1, v2, c_abs, c_min, e1, e2, n10, hka, hkb, reduceCtorEq]
  rfl
/-- the plays of a set, from play i on, k of them looked at, in their order -/
def mem_ (set : Nat) : Nat → List Nat
  | 0 => []
  | n + 1 => if set.testBit n = true then mem_ set n ++ [n] else mem_ set n
end WRK
