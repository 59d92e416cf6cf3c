/-! bits -/
theorem w_or {a b : Nat} : Int32.ofNat a ||| Int32.ofNat b = Int32.ofNat (a ||| b) := by
  apply Int32.toBitVec_inj.mp
  apply BitVec.eq_of_toNat_eq
  show ((BitVec.ofNat 32 a) ||| (BitVec.ofNat 32 b)).toNat = (BitVec.ofNat 32 (a ||| b)).toNat
  rw [BitVec.toNat_or, BitVec.toNat_ofNat, BitVec.toNat_ofNat, BitVec.toNat_ofNat, Nat.or_mod_two_pow]
theorem w_and {a b : Nat} : Int32.ofNat a &&& Int32.ofNat b = Int32.ofNat (a &&& b) := by
  apply Int32.toBitVec_inj.mp
  apply BitVec.eq_of_toNat_eq
  show ((BitVec.ofNat 32 a) &&& (BitVec.ofNat 32 b)).toNat = (BitVec.ofNat 32 (a &&& b)).toNat
  rw [BitVec.toNat_and, BitVec.toNat_ofNat, BitVec.toNat_ofNat, BitVec.toNat_ofNat, Nat.and_mod_two_pow]
theorem w_shl : ∀ k, k < 31 → (1 : Int32) <<< (Int32.ofNat k &&& 31) = Int32.ofNat (2 ^ k) := by decide +kernel
def msk_ (f : Nat → Bool) : Nat → Nat
  | 0 => 0
  | n + 1 => msk_ f n + (if f n = true then 2 ^ n else 0)
theorem msk_lt {f : Nat → Bool} : ∀ {n : Nat}, msk_ f n < 2 ^ n := by
  intro n
  induction n with
  | zero => exact Nat.one_pos
  | succ n ih =>
    show msk_ f n + _ < 2 ^ (n + 1)
    rw [Nat.pow_succ]
    split <;> omega
theorem or_pow {a k : Nat} (h : a < 2 ^ k) : a ||| 2 ^ k = a + 2 ^ k := by
  have := Nat.two_pow_add_eq_or_of_lt h 1
  rw [Nat.mul_one] at this
  rw [Nat.or_comm, ← this, Nat.add_comm]
theorem msk_bit {f : Nat → Bool} : ∀ {n i : Nat}, (msk_ f n).testBit i = (decide (i < n) && f i) := by
  intro n
  induction n with
  | zero => intro i; show Nat.testBit 0 i = _; rw [Nat.zero_testBit, decide_eq_false (by omega), Bool.false_and]
  | succ n ih =>
    intro i
    show (msk_ f n + (if f n = true then 2 ^ n else 0)).testBit i = _
    cases hf : f n
    · rw [if_neg (by decide), Nat.add_zero, ih]
      by_cases q : i = n
      · subst q; rw [decide_eq_false (by omega), hf, Bool.false_and, Bool.and_false]
      · by_cases q2 : i < n
        · rw [decide_eq_true q2, decide_eq_true (by omega)]
        · rw [decide_eq_false q2, decide_eq_false (by omega)]
    · rw [if_pos rfl, ← or_pow msk_lt, Nat.testBit_or, ih, Nat.testBit_two_pow]
      by_cases q : n = i
      · subst q; rw [decide_eq_true rfl, Bool.or_true, decide_eq_true (by omega), hf, Bool.true_and]
      · rw [decide_eq_false q, Bool.or_false]
        by_cases q2 : i < n
        · rw [decide_eq_true q2, decide_eq_true (by omega)]
        · rw [decide_eq_false q2, decide_eq_false (by omega)]
theorem msk_congr {f g : Nat → Bool} : ∀ {n : Nat}, (∀ i, i < n → f i = g i) → msk_ f n = msk_ g n := by
  intro n
  induction n with
  | zero => intro _; rfl
  | succ n ih =>
    intro h
    show msk_ f n + _ = msk_ g n + _
    rw [ih (fun i hi => h i (by omega)), h n (by omega)]
/-! the plays, as the class has them -/
def CP_ (P : PS) (sp : Nat → Nat) (h : AH) : Prop := hI_ h 25165831 3 = Int32.ofNat (qn_ P) ∧ PV_ P ∧
  (∀ p, p < qn_ P → hR_ h 25690901 p = some (mk_ (sp p) 4 0) ∧ 164 ≤ sp p ∧ sp p + 3 < nx_ h ∧ hR_ h (mk_ (sp p) 4 0) 6 = some (mk_ (sp p + 1) 16 8) ∧ hR_ h (mk_ (sp p) 4 0) 7 = some (mk_ (sp p + 2) 16 8) ∧ hR_ h (mk_ (sp p) 4 0) 9 = some (mk_ (sp p + 3) 16 3)) ∧
  (∀ p, qn_ P ≤ p → p < 12 → hR_ h 25690901 p = none) ∧ (∀ p j, p < qn_ P → j < 4 → hI_ h (mk_ (sp p) 4 0) j = qf_ P p j) ∧
  (∀ p, p < qn_ P → hI_ h (mk_ (sp p) 4 0) 4 = Int32.ofNat (qr_ P p) ∧ hI_ h (mk_ (sp p) 4 0) 5 = Int32.ofNat (msk_ (qd_ P p) (qr_ P p)) ∧ hI_ h (mk_ (sp p) 4 0) 8 = Int32.ofNat (qb_ P p)) ∧
  (∀ p r, p < qn_ P → r < qr_ P p → hI_ h (mk_ (sp p + 1) 16 8) r = qk_ P p r ∧ hI_ h (mk_ (sp p + 2) 16 8) r = ql_ P p r) ∧ (∀ p i, p < qn_ P → i < qb_ P p → hI_ h (mk_ (sp p + 3) 16 3) i = qt_ P p i) ∧ (∀ p q, p < q → q < qn_ P → sp p + 4 ≤ sp q)
theorem CP_.fr {P : PS} {sp : Nat → Nat} {h h1 : AH} (H : CP_ P sp h) (e1 : hI_ h1 25165831 3 = hI_ h 25165831 3) (e2 : hR_ h1 25690901 = hR_ h 25690901) (e3 : ∀ s, 164 ≤ s → s < nx_ h → hI_ h1 (mk_ s 4 0) = hI_ h (mk_ s 4 0) ∧ hR_ h1 (mk_ s 4 0) = hR_ h (mk_ s 4 0) ∧ hI_ h1 (mk_ s 16 8) = hI_ h (mk_ s 16 8) ∧ hI_ h1 (mk_ s 16 3) = hI_ h (mk_ s 16 3)) (e4 : nx_ h ≤ nx_ h1) : CP_ P sp h1 := by
  obtain ⟨g1, g2, g3, g4, g5, g6, g7, g8, g9⟩ := H
  refine ⟨e1.trans g1, g2, fun i hi => ?_, fun i h1 h2 => by rw [e2]; exact g4 i h1 h2, fun i j hi hj => ?_, fun i hi => ?_, fun i k hi hk => ?_, fun i k hi hk => ?_, g9⟩
  · obtain ⟨u1, u2, u3, u4, u5, u6⟩ := g3 i hi
    rw [e2, (e3 (sp i) u2 (by omega)).2.1]
    exact ⟨u1, u2, by omega, u4, u5, u6⟩
  · obtain ⟨u1, u2, u3, -⟩ := g3 i hi
    rw [(e3 (sp i) u2 (by omega)).1]
    exact g5 i j hi hj
  · obtain ⟨u1, u2, u3, -⟩ := g3 i hi
    rw [(e3 (sp i) u2 (by omega)).1]
    exact g6 i hi
  · obtain ⟨u1, u2, u3, -⟩ := g3 i hi
    rw [(e3 (sp i + 1) (by omega) (by omega)).2.2.1, (e3 (sp i + 2) (by omega) (by omega)).2.2.1]
    exact g7 i k hi hk
  · obtain ⟨u1, u2, u3, -⟩ := g3 i hi
    rw [(e3 (sp i + 3) (by omega) (by omega)).2.2.2]
    exact g8 i k hi hk
section CPL
variable {xs : Nat → Int32} {d : Nat} {h : AH} {P : PS} {sp : Nat → Nat} {na : Nat} {sa : Nat → Nat} {F G : Nat → Nat → Int32} {Q : OU_ → AH → Prop}
/-- a play's object, or null -/
def pat_ (P : PS) (sp : Nat → Nat) (a : Int32) : Option Nat := if 0 ≤ a.toInt ∧ a.toInt < qn_ P then some (mk_ (sp a.toNatClampNeg) 4 0) else none
theorem c_playAt {a : Int32} (hC : CS_ h) (hP : CP_ P sp h) (hd : 1 ≤ d) : V_ xs d 92 0 [vA (some 25165831), vI a] [] h Q ↔ Q (some (some (vA (pat_ P sp a)))) h := by
  obtain ⟨g1, ⟨g2, -⟩, g3, g4, -⟩ := id hP
  have z : (0 : Int32).toInt = 0 := rfl
  have z1 := w_m1t (show qn_ P ≤ 1000 by omega)
  have hb : kd_ 25690901 = 20 ∨ kd_ 25690901 = 21 ∨ kd_ 25690901 = 22 := Or.inr (Or.inl rfl)
  unfold pat_
  by_cases c : 0 ≤ a.toInt ∧ a.toInt < qn_ P
  · obtain ⟨i, rfl, hi1, hi2⟩ := w_of c.1
    have hi : i < qn_ P := by omega
    have e1 := (g3 i hi).1
    have cw : wi_ (Int32.ofNat i) 0 (Int32.ofNat (qn_ P) - 1) = true := wi_t.mpr (by omega)
    rw [if_pos c, w_cl hi2]
    simp (disch := first | omega | assumption | decide | (apply bT_; decide)) only [s92_0, s92_1, s92_2, s92_3, s92_6, s92_7, s92_8, s92_11, s92_14, s92_15, s92_18, s92_19, s92_20, s92_23, s92_24, K_v, K_0, acI, acA, acJ, acX, List.map_cons, List.map_nil, List.sum_cons, List.sum_nil, true_and, and_true, posT, b2_0, b2_1, bft, true_or, or_true, Nat.zero_le, Nat.reduceAdd, Nat.reduceLeDiff, hI_uI, hL_uI, hR_uI, nx_uI, sl_uI, hI_uL, hL_uL, hR_uL, nx_uL, sl_uL, hI_uR, hL_uR, hR_uR, nx_uR, sl_uR, st_eq, if_true, if_false, eq_self, Nat.reduceEqDiff, Nat.reduceMul, reduceIte, kdT, ixT, w_cl, w_ti, w_s1, w_a, w_m12, w_m8, w_m3, w_m4, hC.x0, hC.x2, hC.x4, hC.x7, hC.x8, hC.x9, hC.x11, hC.f0, hC.f1, hC.f2, hC.p0, hC.p1, hC.p2, hC.p3, hC.l1, hC.l2, hC.l3, hC.l4, hC.d0, hC.d1, hC.d2, hC.g1, hC.g2, hC.g3, hC.g4, hC.k1, hC.k2, hC.k3, hC.k4, g1, e1, c_within, cw, kd_REP, ln_REP, Bool.true_eq_false]
  · have cw : wi_ a 0 (Int32.ofNat (qn_ P) - 1) = false := wi_f.mpr (by omega)
    rw [if_neg c]
    simp (disch := first | omega | assumption | decide | (apply bT_; decide)) only [s92_0, s92_1, s92_2, s92_3, s92_6, s92_7, s92_8, s92_11, s92_15, s92_18, s92_19, s92_20, s92_23, s92_24, K_v, K_0, acI, acA, acJ, acX, List.map_cons, List.map_nil, List.sum_cons, List.sum_nil, true_and, and_true, posT, b2_0, b2_1, bft, true_or, or_true, Nat.zero_le, Nat.reduceAdd, Nat.reduceLeDiff, hI_uI, hL_uI, hR_uI, nx_uI, sl_uI, hI_uL, hL_uL, hR_uL, nx_uL, sl_uL, hI_uR, hL_uR, hR_uR, nx_uR, sl_uR, st_eq, if_true, if_false, eq_self, Nat.reduceEqDiff, Nat.reduceMul, reduceIte, kdT, ixT, w_cl, w_ti, w_s1, w_a, w_m12, w_m8, w_m3, w_m4, g1, c_within, cw]
theorem c_init4 {a : Nat} {mi ta st we : Int32} (hk : kd_ a = 4) (hd : 1 ≤ d) : V_ xs d 30 0 [vA (some a), vI mi, vI ta, vI st, vI we] [] h Q ↔ Q (some none) (uR_ (nw_ (uR_ (nw_ (uR_ (nw_ (uI_ h a (st_ (st_ (st_ (st_ (hI_ h a) 0 mi) 1 ta) 2 st) 3 we)) 16 8 8) a (st_ (hR_ h a) 6 (some (mk_ (nx_ h) 16 8)))) 16 8 8) a (st_ (st_ (hR_ h a) 6 (some (mk_ (nx_ h) 16 8))) 7 (some (mk_ (nx_ h + 1) 16 8)))) 16 3 3) a (st_ (st_ (st_ (hR_ h a) 6 (some (mk_ (nx_ h) 16 8))) 7 (some (mk_ (nx_ h + 1) 16 8))) 9 (some (mk_ (nx_ h + 2) 16 3)))) := by
  have n1 : ∀ s, ¬ (a = mk_ s 16 8) := fun s e => by rw [e, kd_mk (by omega)] at hk; omega
  have n2 : ∀ s, ¬ (a = mk_ s 16 3) := fun s e => by rw [e, kd_mk (by omega)] at hk; omega
  have i1 := fun (h : AH) (ls st : List AV) => s30_28 (xs := xs) (d := d) (ls := ls) (st := st) (h := h) (Q := Q) (n := 8) (N := 8) rfl (by decide)
  have i2 := fun (h : AH) (ls st : List AV) => s30_36 (xs := xs) (d := d) (ls := ls) (st := st) (h := h) (Q := Q) (n := 8) (N := 8) rfl (by decide)
  have i3 := fun (h : AH) (ls st : List AV) => s30_43 (xs := xs) (d := d) (ls := ls) (st := st) (h := h) (Q := Q) (n := 3) (N := 3) rfl (by decide)
  simp (disch := first | omega | assumption | decide | (apply bT_; decide)) only [s30_0, s30_1, s30_4, s30_5, s30_6, s30_9, s30_10, s30_11, s30_14, s30_15, s30_16, s30_19, s30_20, s30_22, s30_25, s30_26, s30_30, s30_33, s30_34, s30_38, s30_41, s30_42, s30_45, s30_48, K_v, K_0, acI, acA, acJ, acX, List.map_cons, List.map_nil, List.sum_cons, List.sum_nil, true_and, and_true, posT, b2_0, b2_1, bft, true_or, or_true, Nat.zero_le, Nat.reduceAdd, Nat.reduceLeDiff, hI_uI, hL_uI, hR_uI, nx_uI, sl_uI, hI_uL, hL_uL, hR_uL, nx_uL, sl_uL, hI_uR, hL_uR, hR_uR, nx_uR, sl_uR, st_eq, if_true, if_false, eq_self, Nat.reduceEqDiff, Nat.reduceMul, reduceIte, kdT, ixT, w_cl, w_ti, w_s1, w_a, w_m12, w_m8, w_m3, w_m4, hk, uI_uI, hR_nw, nx_nw, n1, n2, i1, i2, i3]
end CPL
