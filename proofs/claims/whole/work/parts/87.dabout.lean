/-! the class: broken, about -/
def bk1_ (c : Nat → Bool) : Nat → Nat → Int32
  | 0, _ => -1
  | k + 1, i => if c i = true then Int32.ofNat i else bk1_ c k (i + 1)
def brk_ (L : List Trm_) (F G : Nat → Nat → Int32) (hp : Option Nat) (Hd : Nat → Int32) (na : Nat) (day : Int32) : Int32 := match hp with
  | none => -2
  | some _ => bk1_ (fun t => !(kps_ L t (fun a => env_ F G hp Hd a day) (fun a => had_ hp Hd (Int32.ofNat a)) na)) L.length 0
def abv_ (L : List Trm_) (F G : Nat → Nat → Int32) (hp : Option Nat) (Hd : Nat → Int32) (a : Nat) (day : Int32) (w : Nat) : Int32 := if w = 7 then pys_ L (env_ F G hp Hd a day) L.length else mea_ F G hp Hd a day w
def okAb_ (na : Nat) (v w : Int32) : Bool := decide (0 ≤ v.toInt ∧ v.toInt < na) && wi_ w 0 7
section CAB
variable {xs : Nat → Int32} {d : Nat} {h : AH} {Q : OU_ → AH → Prop} {na : Nat} {sa : Nat → Nat} {F G : Nat → Nat → Int32} {hp : Option Nat} {Hd : Nat → Int32} {c a : Nat} {day : Int32} {L : List Trm_}
theorem x_broken (hB : CB_ na sa F G hp Hd c L h) (hp12 : ∀ p, hp = some p → p < 12) (hd : 7 ≤ d) : Do_ xs d 85 [vA (some 25165831), vI day, vX 0] h (some (some (vI (brk_ L F G hp Hd na day)))) h := by
  intro Q
  obtain ⟨b1, b2, b3, b4, b5, b6, b7⟩ := id hB
  obtain ⟨cG, cW, cN, cP, cT, hX⟩ := b6.cx b1
  obtain ⟨x12, x1, x2, x3, x4, ⟨u1, u2, u3, u4, u5, u6, u7, u8, u9⟩, g1, g2, g3, g4⟩ := id hX
  have h5 := b3.1
  have k10 : ¬ ((1 : Int32) = 0) := by decide
  cases hp with
  | none =>
    have e5 : hI_ h 25165831 5 = -1 := h5
    show _ ↔ Q (some (some (vI (-2)))) h
    simp (disch := first | omega | assumption | decide | (apply bT_; decide)) only [s85_0, s85_1, s85_4, s85_5, s85_8, s85_10, s85_12, s85_14, s85_15, s85_18, s85_21, s85_24, s85_25, s85_26, s85_27, s85_30, s85_33, s85_34, s85_35, s85_38, s85_41, s85_42, K_v, K_0, acI, acA, acJ, acX, List.map_cons, List.map_nil, List.sum_cons, List.sum_nil, true_and, and_true, posT, b2_0, b2_1, bft, true_or, or_true, Nat.zero_le, Nat.reduceAdd, Nat.reduceLeDiff, hI_uI, hL_uI, hR_uI, nx_uI, sl_uI, hI_uL, hL_uL, hR_uL, nx_uL, sl_uL, hI_uR, hL_uR, hR_uR, nx_uR, sl_uR, st_eq, if_true, if_false, eq_self, Nat.reduceEqDiff, Nat.reduceMul, reduceIte, kdT, ixT, w_cl, w_ti, w_s1, w_a, w_m12, w_m8, w_m3, w_m4, e5, kd_X, ln_X]
  | some p =>
    have hp' := hp12 p rfl
    have e5 : hI_ h 25165831 5 = Int32.ofNat p := h5
    have n5 : ¬ (Int32.ofNat p = -1) := by
      have : ∀ p, p < 12 → ¬ (Int32.ofNat p = -1) := by decide +kernel
      exact this p hp'
    have key : ∀ (k i : Nat), i + k = L.length → (V_ xs d 85 13 [vA (some 25165831), vI day, vI (Int32.ofNat i)] [] h Q ↔ Q (some (some (vI (bk1_ (fun t => !(kps_ L t (fun a => env_ F G (some p) Hd a day) (fun a => had_ (some p) Hd (Int32.ofNat a)) na)) k i)))) h) := by
      intro k
      induction k with
      | zero =>
        intro i hi
        have nl : ¬ (i < L.length) := by omega
        show _ ↔ Q (some (some (vI (-1)))) h
        rw [s85_13]
        simp (disch := first | omega | assumption | decide | (apply bT_; decide)) only [s85_0, s85_1, s85_4, s85_5, s85_8, s85_10, s85_11, s85_12, s85_14, s85_15, s85_18, s85_21, s85_25, s85_26, s85_27, s85_30, s85_33, s85_34, s85_35, s85_38, s85_41, s85_42, K_v, K_0, acI, acA, acJ, acX, List.map_cons, List.map_nil, List.sum_cons, List.sum_nil, true_and, and_true, posT, b2_0, b2_1, bft, true_or, or_true, Nat.zero_le, Nat.reduceAdd, Nat.reduceLeDiff, hI_uI, hL_uI, hR_uI, nx_uI, sl_uI, hI_uL, hL_uL, hR_uL, nx_uL, sl_uL, hI_uR, hL_uR, hR_uR, nx_uR, sl_uR, st_eq, if_true, if_false, eq_self, Nat.reduceEqDiff, Nat.reduceMul, reduceIte, kdT, ixT, w_cl, w_ti, w_s1, w_a, w_m12, w_m8, w_m3, w_m4, x12, g1, nl, w_lt, u1, kd_X, ln_X]
      | succ k ih =>
        intro i hk
        have hi : i < L.length := by omega
        have hkp := fun Q => c_keeps (xs := xs) (d := d - 1) (Q := Q) (day := day) hB hi (by omega)
        show _ ↔ Q (some (some (vI (if (!(kps_ L i (fun a => env_ F G (some p) Hd a day) (fun a => had_ (some p) Hd (Int32.ofNat a)) na)) = true then Int32.ofNat i else bk1_ (fun t => !(kps_ L t (fun a => env_ F G (some p) Hd a day) (fun a => had_ (some p) Hd (Int32.ofNat a)) na)) k (i + 1))))) h
        rw [s85_13]
        cases hv : kps_ L i (fun a => env_ F G (some p) Hd a day) (fun a => had_ (some p) Hd (Int32.ofNat a)) na
        · rw [hv] at hkp
          have hkp' : ∀ Q : OU_ → AH → Prop, V_ xs (d - 1) 101 0 [vA (some 25165831), vI (Int32.ofNat i), vI day, vX 0, vX 0, vX 0, vX 0] [] h Q ↔ Q (some (some (vI 0))) h := hkp
          rw [if_pos (show (!false) = true from rfl)]
          simp (disch := first | omega | assumption | decide | (apply bT_; decide)) only [s85_0, s85_1, s85_4, s85_5, s85_8, s85_10, s85_11, s85_12, s85_14, s85_15, s85_18, s85_21, s85_24, s85_25, s85_26, s85_27, s85_30, s85_33, s85_34, s85_38, s85_42, K_v, K_0, acI, acA, acJ, acX, List.map_cons, List.map_nil, List.sum_cons, List.sum_nil, true_and, and_true, posT, b2_0, b2_1, bft, true_or, or_true, Nat.zero_le, Nat.reduceAdd, Nat.reduceLeDiff, hI_uI, hL_uI, hR_uI, nx_uI, sl_uI, hI_uL, hL_uL, hR_uL, nx_uL, sl_uL, hI_uR, hL_uR, hR_uR, nx_uR, sl_uR, st_eq, if_true, if_false, eq_self, Nat.reduceEqDiff, Nat.reduceMul, reduceIte, kdT, ixT, w_cl, w_ti, w_s1, w_a, w_m12, w_m8, w_m3, w_m4, x12, g1, hi, w_lt, hkp', u1, kd_X, ln_X]
        · rw [hv] at hkp
          have hkp' : ∀ Q : OU_ → AH → Prop, V_ xs (d - 1) 101 0 [vA (some 25165831), vI (Int32.ofNat i), vI day, vX 0, vX 0, vX 0, vX 0] [] h Q ↔ Q (some (some (vI 1))) h := hkp
          rw [if_neg (show ¬ ((!true) = true) by decide)]
          simp (disch := first | omega | assumption | decide | (apply bT_; decide)) only [s85_0, s85_1, s85_4, s85_5, s85_8, s85_10, s85_11, s85_12, s85_14, s85_15, s85_18, s85_21, s85_24, s85_25, s85_26, s85_27, s85_30, s85_34, s85_35, s85_38, s85_42, K_v, K_0, acI, acA, acJ, acX, List.map_cons, List.map_nil, List.sum_cons, List.sum_nil, true_and, and_true, posT, b2_0, b2_1, bft, true_or, or_true, Nat.zero_le, Nat.reduceAdd, Nat.reduceLeDiff, hI_uI, hL_uI, hR_uI, nx_uI, sl_uI, hI_uL, hL_uL, hR_uL, nx_uL, sl_uL, hI_uR, hL_uR, hR_uR, nx_uR, sl_uR, st_eq, if_true, if_false, eq_self, Nat.reduceEqDiff, Nat.reduceMul, reduceIte, kdT, ixT, w_cl, w_ti, w_s1, w_a, w_m12, w_m8, w_m3, w_m4, x12, g1, hi, w_lt, hkp', k10, u1, kd_X, ln_X]
          exact ih (i + 1) (by omega)
    simp (disch := first | omega | assumption | decide | (apply bT_; decide)) only [s85_0, s85_1, s85_4, s85_5, s85_10, s85_11, s85_12, s85_14, s85_15, s85_18, s85_21, s85_24, s85_25, s85_26, s85_27, s85_30, s85_33, s85_34, s85_35, s85_38, s85_41, s85_42, K_v, K_0, acI, acA, acJ, acX, List.map_cons, List.map_nil, List.sum_cons, List.sum_nil, true_and, and_true, posT, b2_0, b2_1, bft, true_or, or_true, Nat.zero_le, Nat.reduceAdd, Nat.reduceLeDiff, hI_uI, hL_uI, hR_uI, nx_uI, sl_uI, hI_uL, hL_uL, hR_uL, nx_uL, sl_uL, hI_uR, hL_uR, hR_uR, nx_uR, sl_uR, st_eq, if_true, if_false, eq_self, Nat.reduceEqDiff, Nat.reduceMul, reduceIte, kdT, ixT, w_cl, w_ti, w_s1, w_a, w_m12, w_m8, w_m3, w_m4, e5, if_neg n5, kd_X, ln_X]
    exact key L.length 0 (by omega)
theorem x_about {v w : Int32} (hB : CB_ na sa F G hp Hd c L h) (hd : 7 ≤ d) : if okAb_ na v w = true then Do_ xs d 86 [vA (some 25165831), vI v, vI day, vI w] h (some (some (vI (abv_ L F G hp Hd v.toNatClampNeg day w.toNatClampNeg)))) h else Do_ xs d 86 [vA (some 25165831), vI v, vI day, vI w] h none (xh_ h) := by
  obtain ⟨b1, b2, b3, b4, b5, b6, b7⟩ := id hB
  have hna := b2.2.1
  have k10 : ¬ ((1 : Int32) = 0) := by decide
  unfold okAb_
  by_cases q : 0 ≤ v.toInt ∧ v.toInt < na
  · obtain ⟨a, rfl, e2, e3⟩ := w_of (x := v) q.1
    have ha : a < na := by omega
    have hat : aat_ na sa (Int32.ofNat a) = some (mk_ (sa a) 0 0) := by
      unfold aat_
      rw [if_pos q, w_cl (by omega)]
    have hcl : (Int32.ofNat a).toNatClampNeg = a := w_cl e3
    rw [decide_eq_true q, Bool.true_and]
    cases hw : wi_ w 0 7
    · rw [if_neg (by decide)]
      intro Q
      simp (disch := first | omega | assumption | decide | (apply bT_; decide)) only [s86_0, s86_1, s86_2, s86_5, s86_8, s86_9, s86_10, s86_12, s86_15, s86_18, s86_21, s86_21i, s86_27, s86_29, s86_32, s86_33, s86_34, s86_35, s86_38, s86_41, s86_42, s86_43, s86_44, s86_45, s86_48, K_v, K_0, acI, acA, acJ, acX, List.map_cons, List.map_nil, List.sum_cons, List.sum_nil, true_and, and_true, posT, b2_0, b2_1, bft, true_or, or_true, Nat.zero_le, Nat.reduceAdd, Nat.reduceLeDiff, hI_uI, hL_uI, hR_uI, nx_uI, sl_uI, hI_uL, hL_uL, hR_uL, nx_uL, sl_uL, hI_uR, hL_uR, hR_uR, nx_uR, sl_uR, st_eq, if_true, if_false, eq_self, Nat.reduceEqDiff, Nat.reduceMul, reduceIte, kdT, ixT, w_cl, w_ti, w_s1, w_a, w_m12, w_m8, w_m3, w_m4, c_actorAt b1 b2, hat, c_within, hw, reduceCtorEq]
    · rw [if_pos rfl]
      intro Q
      obtain ⟨w1, w2⟩ := wi_t.mp hw
      have w1' : (0 : Int) ≤ w.toInt := w1
      have w2' : w.toInt ≤ 7 := w2
      obtain ⟨n, rfl, e4, e5⟩ := w_of (x := w) w1'
      have hn : n < 8 := by omega
      have hcn : (Int32.ofNat n).toNatClampNeg = n := w_cl e5
      rw [hcl, hcn]
      unfold abv_
      by_cases q7 : n = 7
      · have t7 : Int32.ofNat n = 7 := by rw [q7]; rfl
        have hpy := fun Q => c_payOf (xs := xs) (d := d - 1) (Q := Q) (day := day) hB ha (by omega)
        rw [if_pos q7]
        simp (disch := first | omega | assumption | decide | (apply bT_; decide)) only [s86_0, s86_1, s86_2, s86_5, s86_8, s86_9, s86_10, s86_12, s86_15, s86_21, s86_21i, s86_26, s86_27, s86_29, s86_32, s86_33, s86_34, s86_35, s86_38, s86_42, s86_43, s86_44, s86_45, s86_48, K_v, K_0, acI, acA, acJ, acX, List.map_cons, List.map_nil, List.sum_cons, List.sum_nil, true_and, and_true, posT, b2_0, b2_1, bft, true_or, or_true, Nat.zero_le, Nat.reduceAdd, Nat.reduceLeDiff, hI_uI, hL_uI, hR_uI, nx_uI, sl_uI, hI_uL, hL_uL, hR_uL, nx_uL, sl_uL, hI_uR, hL_uR, hR_uR, nx_uR, sl_uR, st_eq, if_true, if_false, eq_self, Nat.reduceEqDiff, Nat.reduceMul, reduceIte, kdT, ixT, w_cl, w_ti, w_s1, w_a, w_m12, w_m8, w_m3, w_m4, c_actorAt b1 b2, hat, c_within, hw, if_pos t7, hpy, reduceCtorEq, Bool.true_eq_false, kd_X, ln_X]
      · have t7 : ¬ (Int32.ofNat n = 7) := fun z => q7 ((w_eq (b := 7) (by omega) (by omega)).mp z)
        have hme := fun Q => c_measure (xs := xs) (d := d - 1) (Q := Q) (day := day) (w := n) b1 b2 b3 b4 b5 ha (by omega) (by omega)
        rw [if_neg q7]
        simp (disch := first | omega | assumption | decide | (apply bT_; decide)) only [s86_0, s86_1, s86_2, s86_5, s86_8, s86_9, s86_10, s86_12, s86_15, s86_21, s86_21i, s86_26, s86_27, s86_29, s86_33, s86_34, s86_35, s86_38, s86_41, s86_42, s86_43, s86_44, s86_45, s86_48, K_v, K_0, acI, acA, acJ, acX, List.map_cons, List.map_nil, List.sum_cons, List.sum_nil, true_and, and_true, posT, b2_0, b2_1, bft, true_or, or_true, Nat.zero_le, Nat.reduceAdd, Nat.reduceLeDiff, hI_uI, hL_uI, hR_uI, nx_uI, sl_uI, hI_uL, hL_uL, hR_uL, nx_uL, sl_uL, hI_uR, hL_uR, hR_uR, nx_uR, sl_uR, st_eq, if_true, if_false, eq_self, Nat.reduceEqDiff, Nat.reduceMul, reduceIte, kdT, ixT, w_cl, w_ti, w_s1, w_a, w_m12, w_m8, w_m3, w_m4, c_actorAt b1 b2, hat, c_within, hw, if_neg t7, hme, reduceCtorEq, Bool.true_eq_false, kd_X, ln_X]
  · have hat : aat_ na sa v = none := by unfold aat_; rw [if_neg q]
    rw [decide_eq_false q, Bool.false_and, if_neg (by decide)]
    intro Q
    simp (disch := first | omega | assumption | decide | (apply bT_; decide)) only [s86_0, s86_1, s86_2, s86_5, s86_9, s86_10, s86_12, s86_15, s86_18, s86_21, s86_21i, s86_27, s86_29, s86_32, s86_33, s86_34, s86_35, s86_38, s86_41, s86_42, s86_43, s86_44, s86_45, s86_48, K_v, K_0, acI, acA, acJ, acX, List.map_cons, List.map_nil, List.sum_cons, List.sum_nil, true_and, and_true, posT, b2_0, b2_1, bft, true_or, or_true, Nat.zero_le, Nat.reduceAdd, Nat.reduceLeDiff, hI_uI, hL_uI, hR_uI, nx_uI, sl_uI, hI_uL, hL_uL, hR_uL, nx_uL, sl_uL, hI_uR, hL_uR, hR_uR, nx_uR, sl_uR, st_eq, if_true, if_false, eq_self, Nat.reduceEqDiff, Nat.reduceMul, reduceIte, kdT, ixT, w_cl, w_ti, w_s1, w_a, w_m12, w_m8, w_m3, w_m4, c_actorAt b1 b2, hat, reduceCtorEq]
end CAB
