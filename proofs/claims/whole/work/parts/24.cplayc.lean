/-! the class: role, does, doubles, can -/
section CPD
variable {xs : Nat → Int32} {d : Nat} {h : AH} {P : PS} {sp : Nat → Nat} {na : Nat} {sa : Nat → Nat} {F G : Nat → Nat → Int32} {Q : OU_ → AH → Prop}
def PW_ (sp : Nat → Nat) (i : Nat) : List Nat := [mk_ (sp i) 4 0, mk_ (sp i + 1) 16 8, mk_ (sp i + 2) 16 8, mk_ (sp i + 3) 16 3]
theorem x_role {p k g ne : Int32} (hC : CS_ h) (hP : CP_ P sp h) (hne : ne = 0 ∨ ne = 1) (hd : 3 ≤ d) : ∃ h', (h' = h ∨ ∃ i, i < qn_ P ∧ FX_ (PW_ sp i) [] h h') ∧ nx_ h' = nx_ h ∧ sl_ h' = sl_ h ∧
    (if okR_ P p k g = true then Do_ xs d 67 [vA (some 25165831), vI p, vI k, vI g, vI ne, vX 0] h (some (some (vI (Int32.ofNat (qr_ P p.toNatClampNeg))))) h' ∧ CP_ (addR_ P p.toNatClampNeg k g ne) sp h'
     else Do_ xs d 67 [vA (some 25165831), vI p, vI k, vI g, vI ne, vX 0] h (some (some (vI (-1)))) h' ∧ CP_ P sp h') := by
  unfold okR_
  by_cases c1 : 0 ≤ p.toInt ∧ p.toInt < qn_ P
  · obtain ⟨n, rfl, hn1, hn2⟩ := w_of c1.1
    have hn : n < qn_ P := by omega
    have hat : pat_ P sp (Int32.ofNat n) = some (mk_ (sp n) 4 0) := by unfold pat_; rw [if_pos c1, w_cl hn2]
    have hk0 : kd_ (mk_ (sp n) 4 0) = 4 := kd_mk (by omega)
    rw [w_cl hn2]
    by_cases c2 : wi_ k 0 11 = true
    · by_cases c3 : wi_ g 1 9 = true
      · obtain ⟨h', f1, f2, f3, f4⟩ := c_addRole (xs := xs) (d := d - 1) (k := k) (g := g) hP hn hne
        by_cases c4 : qr_ P n < 8
        · rw [if_pos c4] at f4
          have hc : (decide (0 ≤ (Int32.ofNat n).toInt ∧ (Int32.ofNat n).toInt < (qn_ P : Int) ∧ qr_ P n < 8) && (wi_ k 0 11 && wi_ g 1 9)) = true := by rw [c2, c3, decide_eq_true ⟨c1.1, c1.2, c4⟩]; rfl
          simp only [hc, if_true]
          refine ⟨h', Or.inr ⟨n, hn, f1⟩, f2, f3, fun Q => ?_, f4.2⟩
          simp (disch := first | omega | assumption | decide | (apply bT_; decide)) only [s67_0, s67_1, s67_2, s67_5, s67_7, s67_9, s67_12, s67_13, s67_16, s67_19, s67_20, s67_21, s67_23, s67_26, s67_29, s67_30, s67_31, s67_33, s67_34, s67_35, s67_37, s67_40, K_v, K_0, acI, acA, acJ, acX, List.map_cons, List.map_nil, List.sum_cons, List.sum_nil, true_and, and_true, posT, b2_0, b2_1, bft, true_or, or_true, Nat.zero_le, Nat.reduceAdd, Nat.reduceLeDiff, hI_uI, hL_uI, hR_uI, nx_uI, sl_uI, hI_uL, hL_uL, hR_uL, nx_uL, sl_uL, hI_uR, hL_uR, hR_uR, nx_uR, sl_uR, st_eq, if_true, if_false, eq_self, Nat.reduceEqDiff, Nat.reduceMul, reduceIte, kdT, ixT, w_cl, w_ti, w_s1, w_a, w_m12, w_m8, w_m3, w_m4, c_playAt hC hP, hat, c_isKind, c_within, c2, c3, hk0, f4.1, reduceCtorEq, Bool.true_eq_false]
        · rw [if_neg c4] at f4
          have hc : (decide (0 ≤ (Int32.ofNat n).toInt ∧ (Int32.ofNat n).toInt < (qn_ P : Int) ∧ qr_ P n < 8) && (wi_ k 0 11 && wi_ g 1 9)) = false := by rw [decide_eq_false (fun z => c4 z.2.2)]; rfl
          simp only [hc, Bool.false_eq_true, if_false]
          refine ⟨h', Or.inr ⟨n, hn, f1⟩, f2, f3, fun Q => ?_, f4.2⟩
          simp (disch := first | omega | assumption | decide | (apply bT_; decide)) only [s67_0, s67_1, s67_2, s67_5, s67_7, s67_9, s67_12, s67_13, s67_16, s67_19, s67_20, s67_21, s67_23, s67_26, s67_29, s67_30, s67_31, s67_33, s67_34, s67_35, s67_37, s67_40, K_v, K_0, acI, acA, acJ, acX, List.map_cons, List.map_nil, List.sum_cons, List.sum_nil, true_and, and_true, posT, b2_0, b2_1, bft, true_or, or_true, Nat.zero_le, Nat.reduceAdd, Nat.reduceLeDiff, hI_uI, hL_uI, hR_uI, nx_uI, sl_uI, hI_uL, hL_uL, hR_uL, nx_uL, sl_uL, hI_uR, hL_uR, hR_uR, nx_uR, sl_uR, st_eq, if_true, if_false, eq_self, Nat.reduceEqDiff, Nat.reduceMul, reduceIte, kdT, ixT, w_cl, w_ti, w_s1, w_a, w_m12, w_m8, w_m3, w_m4, c_playAt hC hP, hat, c_isKind, c_within, c2, c3, hk0, f4.1, reduceCtorEq, Bool.true_eq_false]
      · have c3' : wi_ g 1 9 = false := by simpa using c3
        simp only [c3', Bool.and_false, Bool.false_eq_true, if_false]
        refine ⟨h, Or.inl rfl, rfl, rfl, fun Q => ?_, hP⟩
        simp (disch := first | omega | assumption | decide | (apply bT_; decide)) only [s67_0, s67_1, s67_2, s67_5, s67_7, s67_9, s67_12, s67_13, s67_16, s67_19, s67_20, s67_21, s67_23, s67_26, s67_29, s67_30, s67_33, s67_34, s67_35, s67_37, s67_40, K_v, K_0, acI, acA, acJ, acX, List.map_cons, List.map_nil, List.sum_cons, List.sum_nil, true_and, and_true, posT, b2_0, b2_1, bft, true_or, or_true, Nat.zero_le, Nat.reduceAdd, Nat.reduceLeDiff, hI_uI, hL_uI, hR_uI, nx_uI, sl_uI, hI_uL, hL_uL, hR_uL, nx_uL, sl_uL, hI_uR, hL_uR, hR_uR, nx_uR, sl_uR, st_eq, if_true, if_false, eq_self, Nat.reduceEqDiff, Nat.reduceMul, reduceIte, kdT, ixT, w_cl, w_ti, w_s1, w_a, w_m12, w_m8, w_m3, w_m4, c_playAt hC hP, hat, c_isKind, c_within, c2, c3', reduceCtorEq, Bool.true_eq_false]
    · have c2' : wi_ k 0 11 = false := by simpa using c2
      simp only [c2', Bool.false_and, Bool.and_false, Bool.false_eq_true, if_false]
      refine ⟨h, Or.inl rfl, rfl, rfl, fun Q => ?_, hP⟩
      simp (disch := first | omega | assumption | decide | (apply bT_; decide)) only [s67_0, s67_1, s67_2, s67_5, s67_7, s67_9, s67_12, s67_13, s67_16, s67_20, s67_21, s67_23, s67_26, s67_29, s67_30, s67_33, s67_34, s67_35, s67_37, s67_40, K_v, K_0, acI, acA, acJ, acX, List.map_cons, List.map_nil, List.sum_cons, List.sum_nil, true_and, and_true, posT, b2_0, b2_1, bft, true_or, or_true, Nat.zero_le, Nat.reduceAdd, Nat.reduceLeDiff, hI_uI, hL_uI, hR_uI, nx_uI, sl_uI, hI_uL, hL_uL, hR_uL, nx_uL, sl_uL, hI_uR, hL_uR, hR_uR, nx_uR, sl_uR, st_eq, if_true, if_false, eq_self, Nat.reduceEqDiff, Nat.reduceMul, reduceIte, kdT, ixT, w_cl, w_ti, w_s1, w_a, w_m12, w_m8, w_m3, w_m4, c_playAt hC hP, hat, c_isKind, c2', reduceCtorEq]
  · have hat : pat_ P sp p = none := by unfold pat_; rw [if_neg c1]
    have hc : (decide (0 ≤ p.toInt ∧ p.toInt < (qn_ P : Int) ∧ qr_ P p.toNatClampNeg < 8) && (wi_ k 0 11 && wi_ g 1 9)) = false := by rw [decide_eq_false (fun z => c1 ⟨z.1, z.2.1⟩)]; rfl
    simp only [hc, Bool.false_eq_true, if_false]
    refine ⟨h, Or.inl rfl, rfl, rfl, fun Q => ?_, hP⟩
    simp (disch := first | omega | assumption | decide | (apply bT_; decide)) only [s67_0, s67_1, s67_2, s67_5, s67_7, s67_9, s67_13, s67_16, s67_19, s67_20, s67_21, s67_23, s67_26, s67_29, s67_30, s67_33, s67_34, s67_35, s67_37, s67_40, K_v, K_0, acI, acA, acJ, acX, List.map_cons, List.map_nil, List.sum_cons, List.sum_nil, true_and, and_true, posT, b2_0, b2_1, bft, true_or, or_true, Nat.zero_le, Nat.reduceAdd, Nat.reduceLeDiff, hI_uI, hL_uI, hR_uI, nx_uI, sl_uI, hI_uL, hL_uL, hR_uL, nx_uL, sl_uL, hI_uR, hL_uR, hR_uR, nx_uR, sl_uR, st_eq, if_true, if_false, eq_self, Nat.reduceEqDiff, Nat.reduceMul, reduceIte, kdT, ixT, w_cl, w_ti, w_s1, w_a, w_m12, w_m8, w_m3, w_m4, c_playAt hC hP, hat]
/-- whether a number is a role of a play -/
theorem c_hasR {i : Nat} {r : Int32} (hP : CP_ P sp h) (hi : i < qn_ P) (hd : 1 ≤ d) : V_ xs d 31 0 [vA (some (mk_ (sp i) 4 0)), vI r] [] h Q ↔ Q (some (some (vI (b2_ (decide (0 ≤ r.toInt ∧ r.toInt < qr_ P i)))))) h := by
  have t1 := (hP.2.2.2.2.2.1 i hi).1
  have h8 := hP.2.1.2.2.1 i
  have z1 := w_m1t (show qr_ P i ≤ 1000 by omega)
  have z : (0 : Int32).toInt = 0 := rfl
  rw [c_hasRole (kd_mk (by omega)) hd, t1]
  have : wi_ r 0 (Int32.ofNat (qr_ P i) - 1) = decide (0 ≤ r.toInt ∧ r.toInt < (qr_ P i : Int)) := by
    by_cases q : 0 ≤ r.toInt ∧ r.toInt < (qr_ P i : Int)
    · rw [decide_eq_true q, wi_t.mpr (by omega)]
    · rw [decide_eq_false q, wi_f.mpr (by omega)]
  rw [this]
theorem c_addKind {i : Nat} {r k : Int32} (hP : CP_ P sp h) (hi : i < qn_ P) (hd : 2 ≤ d) : ∃ h', FX_ (PW_ sp i) [] h h' ∧ nx_ h' = nx_ h ∧ sl_ h' = sl_ h ∧
    (if (0 ≤ r.toInt ∧ r.toInt < qr_ P i) ∧ kb_ (qk_ P i r.toNatClampNeg) k = false then Do_ xs d 34 [vA (some (mk_ (sp i) 4 0)), vI r, vI k] h (some (some (vI 1))) h' ∧ CP_ (addK_ P i r.toNatClampNeg k) sp h'
     else Do_ xs d 34 [vA (some (mk_ (sp i) 4 0)), vI r, vI k] h (some (some (vI 0))) h' ∧ CP_ P sp h') := by
  obtain ⟨g1, ⟨v1, v2, v3, v4⟩, g3, g4, g5, g6, g7, g8, g9⟩ := id hP
  obtain ⟨u1, u2, u3, u4, u5, u6⟩ := g3 i hi
  obtain ⟨t1, t2, t3⟩ := g6 i hi
  have hk0 : kd_ (mk_ (sp i) 4 0) = 4 := kd_mk (by omega)
  have hk1 : kd_ (mk_ (sp i + 1) 16 8) = 16 := kd_mk (by omega)
  have hl1 : ln_ (mk_ (sp i + 1) 16 8) = 8 := ln_mk (by omega) (by omega)
  by_cases c1 : 0 ≤ r.toInt ∧ r.toInt < qr_ P i
  · obtain ⟨m, rfl, hm1, hm2⟩ := w_of c1.1
    have hm : m < qr_ P i := by omega
    have h8 := v3 i
    have e1 := (g7 i m hi hm).1
    have cd : decide (0 ≤ (m : Int) ∧ (m : Int) < (qr_ P i : Int)) = true := decide_eq_true (by omega)
    rw [w_cl hm2]
    by_cases c2 : kb_ (qk_ P i m) k = false
    · simp only [if_pos (show (0 ≤ (Int32.ofNat m).toInt ∧ (Int32.ofNat m).toInt < (qr_ P i : Int)) ∧ kb_ (qk_ P i m) k = false from ⟨c1, c2⟩)]
      have c3 : ¬ ((qk_ P i m >>> (k &&& 31)) &&& 1 = 1) := by unfold kb_ at c2; simpa using c2
      have hX : mk_ (sp i + 1) 16 8 ≠ 25165831 := fun e => ne_new (show sr_ 25165831 < sp i + 1 by show 96 < _; omega) (by omega) (by omega) e.symm
      have fr : FX_ (PW_ sp i) [] h (uI_ h (mk_ (sp i + 1) 16 8) (st_ (hI_ h (mk_ (sp i + 1) 16 8)) m (qk_ P i m ||| 1 <<< (k &&& 31)))) := FX_.rf.uI (Or.inl (by unfold PW_; simp)) hX
      have n1 : ¬ (mk_ (sp i) 4 0 = mk_ (sp i + 1) 16 8) := fun e => by have := mk_ser (by omega) (by omega) (by omega) (by omega) e; omega
      have n2 : ¬ (mk_ (sp i + 2) 16 8 = mk_ (sp i + 1) 16 8) := fun e => by have := mk_ser (by omega) (by omega) (by omega) (by omega) e; omega
      have n3 : ¬ (mk_ (sp i + 3) 16 3 = mk_ (sp i + 1) 16 8) := fun e => by have := mk_ser (by omega) (by omega) (by omega) (by omega) e; omega
      refine ⟨_, fr, rfl, rfl, fun Q => ?_, ?_⟩
      · simp (disch := first | omega | assumption | decide | (apply bT_; decide)) only [s34_0, s34_1, s34_2, s34_5, s34_8, s34_9, s34_12, s34_13, s34_14, s34_15, s34_16, s34_17, s34_18, s34_19, s34_22, s34_23, s34_24, s34_25, s34_28, s34_29, s34_30, s34_31, s34_32, s34_33, s34_34, s34_35, s34_36, s34_37, K_v, K_0, acI, acA, acJ, acX, List.map_cons, List.map_nil, List.sum_cons, List.sum_nil, true_and, and_true, posT, b2_0, b2_1, bft, true_or, or_true, Nat.zero_le, Nat.reduceAdd, Nat.reduceLeDiff, hI_uI, hL_uI, hR_uI, nx_uI, sl_uI, hI_uL, hL_uL, hR_uL, nx_uL, sl_uL, hI_uR, hL_uR, hR_uR, nx_uR, sl_uR, st_eq, if_true, if_false, eq_self, Nat.reduceEqDiff, Nat.reduceMul, reduceIte, kdT, ixT, w_cl, w_ti, w_s1, w_a, w_m12, w_m8, w_m3, w_m4, c_hasR hP hi, cd, u4, e1, hk0, hl1, c3, Bool.true_eq_false]
      · refine hP.upd hi fr (fun _ => rfl) ⟨v1, v2, v3, v4⟩ rfl rfl (fun q hq => ⟨rfl, rfl, ?_, rfl, rfl, rfl⟩) (fun j hj => by simp only [hI_uI, hL_uI, hR_uI, nx_uI, sl_uI, hI_uL, hL_uL, hR_uL, nx_uL, sl_uL, hI_uR, hL_uR, hR_uR, nx_uR, sl_uR, st_eq, if_true, if_false, eq_self, Nat.reduceEqDiff, Nat.reduceMul, reduceIte, kdT, ixT, w_cl, w_ti, w_s1, w_a, w_m12, w_m8, w_m3, w_m4, n1]) (by simp only [hI_uI, hL_uI, hR_uI, nx_uI, sl_uI, hI_uL, hL_uL, hR_uL, nx_uL, sl_uL, hI_uR, hL_uR, hR_uR, nx_uR, sl_uR, st_eq, if_true, if_false, eq_self, Nat.reduceEqDiff, Nat.reduceMul, reduceIte, kdT, ixT, w_cl, w_ti, w_s1, w_a, w_m12, w_m8, w_m3, w_m4, n1]; exact t1) (by simp only [hI_uI, hL_uI, hR_uI, nx_uI, sl_uI, hI_uL, hL_uL, hR_uL, nx_uL, sl_uL, hI_uR, hL_uR, hR_uR, nx_uR, sl_uR, st_eq, if_true, if_false, eq_self, Nat.reduceEqDiff, Nat.reduceMul, reduceIte, kdT, ixT, w_cl, w_ti, w_s1, w_a, w_m12, w_m8, w_m3, w_m4, n1]; exact t2) (by simp only [hI_uI, hL_uI, hR_uI, nx_uI, sl_uI, hI_uL, hL_uL, hR_uL, nx_uL, sl_uL, hI_uR, hL_uR, hR_uR, nx_uR, sl_uR, st_eq, if_true, if_false, eq_self, Nat.reduceEqDiff, Nat.reduceMul, reduceIte, kdT, ixT, w_cl, w_ti, w_s1, w_a, w_m12, w_m8, w_m3, w_m4, n1]; exact t3) (fun q hq => ?_) (fun j hj => by simp only [hI_uI, hL_uI, hR_uI, nx_uI, sl_uI, hI_uL, hL_uL, hR_uL, nx_uL, sl_uL, hI_uR, hL_uR, hR_uR, nx_uR, sl_uR, st_eq, if_true, if_false, eq_self, Nat.reduceEqDiff, Nat.reduceMul, reduceIte, kdT, ixT, w_cl, w_ti, w_s1, w_a, w_m12, w_m8, w_m3, w_m4, n3]; exact g8 i j hi hj)
        · show up2_ _ _ _ _ _ = _; funext r; unfold up2_; rw [if_neg (fun z => hq z.1)]
        · show _ = up2_ (qk_ P) i m (qk_ P i m ||| 1 <<< (k &&& 31)) i q ∧ _
          unfold up2_
          simp only [hI_uI, hL_uI, hR_uI, nx_uI, sl_uI, hI_uL, hL_uL, hR_uL, nx_uL, sl_uL, hI_uR, hL_uR, hR_uR, nx_uR, sl_uR, st_eq, if_true, if_false, eq_self, Nat.reduceEqDiff, Nat.reduceMul, reduceIte, kdT, ixT, w_cl, w_ti, w_s1, w_a, w_m12, w_m8, w_m3, w_m4, n2, true_and]
          refine ⟨?_, (g7 i q hi hq).2⟩
          by_cases q2 : q = m
          · simp only [if_pos q2]
          · simp only [if_neg q2]; exact (g7 i q hi hq).1
    · simp only [if_neg (show ¬ ((0 ≤ (Int32.ofNat m).toInt ∧ (Int32.ofNat m).toInt < (qr_ P i : Int)) ∧ kb_ (qk_ P i m) k = false) from fun z => c2 z.2)]
      have c3 : (qk_ P i m >>> (k &&& 31)) &&& 1 = 1 := by unfold kb_ at c2; simpa using c2
      refine ⟨h, FX_.rf, rfl, rfl, fun Q => ?_, hP⟩
      simp (disch := first | omega | assumption | decide | (apply bT_; decide)) only [s34_0, s34_1, s34_2, s34_5, s34_8, s34_9, s34_12, s34_13, s34_14, s34_15, s34_16, s34_17, s34_18, s34_19, s34_22, s34_23, s34_25, s34_28, s34_29, s34_30, s34_31, s34_32, s34_33, s34_34, s34_35, s34_36, s34_37, K_v, K_0, acI, acA, acJ, acX, List.map_cons, List.map_nil, List.sum_cons, List.sum_nil, true_and, and_true, posT, b2_0, b2_1, bft, true_or, or_true, Nat.zero_le, Nat.reduceAdd, Nat.reduceLeDiff, hI_uI, hL_uI, hR_uI, nx_uI, sl_uI, hI_uL, hL_uL, hR_uL, nx_uL, sl_uL, hI_uR, hL_uR, hR_uR, nx_uR, sl_uR, st_eq, if_true, if_false, eq_self, Nat.reduceEqDiff, Nat.reduceMul, reduceIte, kdT, ixT, w_cl, w_ti, w_s1, w_a, w_m12, w_m8, w_m3, w_m4, c_hasR hP hi, cd, u4, e1, hk0, hl1, c3, Bool.true_eq_false]
  · simp only [if_neg (show ¬ ((0 ≤ r.toInt ∧ r.toInt < (qr_ P i : Int)) ∧ kb_ (qk_ P i r.toNatClampNeg) k = false) from fun z => c1 z.1)]
    have cd : decide (0 ≤ r.toInt ∧ r.toInt < (qr_ P i : Int)) = false := decide_eq_false c1
    refine ⟨h, FX_.rf, rfl, rfl, fun Q => ?_, hP⟩
    simp (disch := first | omega | assumption | decide | (apply bT_; decide)) only [s34_0, s34_1, s34_2, s34_5, s34_9, s34_12, s34_13, s34_14, s34_15, s34_16, s34_17, s34_18, s34_19, s34_22, s34_23, s34_25, s34_28, s34_29, s34_30, s34_31, s34_32, s34_33, s34_34, s34_35, s34_36, s34_37, K_v, K_0, acI, acA, acJ, acX, List.map_cons, List.map_nil, List.sum_cons, List.sum_nil, true_and, and_true, posT, b2_0, b2_1, bft, true_or, or_true, Nat.zero_le, Nat.reduceAdd, Nat.reduceLeDiff, hI_uI, hL_uI, hR_uI, nx_uI, sl_uI, hI_uL, hL_uL, hR_uL, nx_uL, sl_uL, hI_uR, hL_uR, hR_uR, nx_uR, sl_uR, st_eq, if_true, if_false, eq_self, Nat.reduceEqDiff, Nat.reduceMul, reduceIte, kdT, ixT, w_cl, w_ti, w_s1, w_a, w_m12, w_m8, w_m3, w_m4, c_hasR hP hi, cd, hk0]
theorem isR_d {p r : Int32} (c1 : 0 ≤ p.toInt ∧ p.toInt < qn_ P) : isR_ P p r = decide (0 ≤ r.toInt ∧ r.toInt < qr_ P p.toNatClampNeg) := by
  unfold isR_
  by_cases q : 0 ≤ r.toInt ∧ r.toInt < qr_ P p.toNatClampNeg
  · rw [decide_eq_true q, decide_eq_true ⟨c1.1, c1.2, q⟩]
  · rw [decide_eq_false q, decide_eq_false (fun z => q z.2.2)]
theorem isR_n {p r : Int32} (c1 : ¬ (0 ≤ p.toInt ∧ p.toInt < qn_ P)) : isR_ P p r = false := by
  unfold isR_
  exact decide_eq_false (fun z => c1 ⟨z.1, z.2.1⟩)
theorem x_does {p r k : Int32} (hC : CS_ h) (hP : CP_ P sp h) (hd : 4 ≤ d) : ∃ h', (h' = h ∨ ∃ i, i < qn_ P ∧ FX_ (PW_ sp i) [] h h') ∧ nx_ h' = nx_ h ∧ sl_ h' = sl_ h ∧
    (if isR_ P p r = true ∧ wi_ k 0 11 = true ∧ kb_ (qk_ P p.toNatClampNeg r.toNatClampNeg) k = false then Do_ xs d 68 [vA (some 25165831), vI p, vI r, vI k, vX 0] h (some (some (vI 1))) h' ∧ CP_ (addK_ P p.toNatClampNeg r.toNatClampNeg k) sp h'
     else Do_ xs d 68 [vA (some 25165831), vI p, vI r, vI k, vX 0] h (some (some (vI 0))) h' ∧ CP_ P sp h') := by
  by_cases c1 : 0 ≤ p.toInt ∧ p.toInt < qn_ P
  · rw [isR_d c1]
    obtain ⟨n, rfl, hn1, hn2⟩ := w_of c1.1
    have hn : n < qn_ P := by omega
    have hat : pat_ P sp (Int32.ofNat n) = some (mk_ (sp n) 4 0) := by unfold pat_; rw [if_pos c1, w_cl hn2]
    have hk0 : kd_ (mk_ (sp n) 4 0) = 4 := kd_mk (by omega)
    rw [w_cl hn2]
    simp only [decide_eq_true_iff]
    by_cases c2 : wi_ k 0 11 = true
    · obtain ⟨h', f1, f2, f3, f4⟩ := c_addKind (xs := xs) (d := d - 1) (r := r) (k := k) hP hn (by omega)
      by_cases c3 : (0 ≤ r.toInt ∧ r.toInt < qr_ P n) ∧ kb_ (qk_ P n r.toNatClampNeg) k = false
      · rw [if_pos c3] at f4
        simp only [if_pos (show (0 ≤ r.toInt ∧ r.toInt < (qr_ P n : Int)) ∧ wi_ k 0 11 = true ∧ kb_ (qk_ P n r.toNatClampNeg) k = false from ⟨c3.1, c2, c3.2⟩)]
        refine ⟨h', Or.inr ⟨n, hn, f1⟩, f2, f3, fun Q => ?_, f4.2⟩
        simp (disch := first | omega | assumption | decide | (apply bT_; decide)) only [s68_0, s68_1, s68_2, s68_5, s68_7, s68_9, s68_12, s68_13, s68_16, s68_19, s68_21, s68_22, s68_23, s68_26, s68_29, s68_30, s68_33, s68_34, K_v, K_0, acI, acA, acJ, acX, List.map_cons, List.map_nil, List.sum_cons, List.sum_nil, true_and, and_true, posT, b2_0, b2_1, bft, true_or, or_true, Nat.zero_le, Nat.reduceAdd, Nat.reduceLeDiff, hI_uI, hL_uI, hR_uI, nx_uI, sl_uI, hI_uL, hL_uL, hR_uL, nx_uL, sl_uL, hI_uR, hL_uR, hR_uR, nx_uR, sl_uR, st_eq, if_true, if_false, eq_self, Nat.reduceEqDiff, Nat.reduceMul, reduceIte, kdT, ixT, w_cl, w_ti, w_s1, w_a, w_m12, w_m8, w_m3, w_m4, c_playAt hC hP, hat, c_isKind, c2, hk0, f4.1, reduceCtorEq, Bool.true_eq_false, show ¬ ((1 : Int32) = 0) by decide]
      · rw [if_neg c3] at f4
        simp only [if_neg (show ¬ ((0 ≤ r.toInt ∧ r.toInt < (qr_ P n : Int)) ∧ wi_ k 0 11 = true ∧ kb_ (qk_ P n r.toNatClampNeg) k = false) from fun z => c3 ⟨z.1, z.2.2⟩)]
        refine ⟨h', Or.inr ⟨n, hn, f1⟩, f2, f3, fun Q => ?_, f4.2⟩
        simp (disch := first | omega | assumption | decide | (apply bT_; decide)) only [s68_0, s68_1, s68_2, s68_5, s68_7, s68_9, s68_12, s68_13, s68_16, s68_19, s68_21, s68_22, s68_23, s68_26, s68_29, s68_30, s68_33, s68_34, K_v, K_0, acI, acA, acJ, acX, List.map_cons, List.map_nil, List.sum_cons, List.sum_nil, true_and, and_true, posT, b2_0, b2_1, bft, true_or, or_true, Nat.zero_le, Nat.reduceAdd, Nat.reduceLeDiff, hI_uI, hL_uI, hR_uI, nx_uI, sl_uI, hI_uL, hL_uL, hR_uL, nx_uL, sl_uL, hI_uR, hL_uR, hR_uR, nx_uR, sl_uR, st_eq, if_true, if_false, eq_self, Nat.reduceEqDiff, Nat.reduceMul, reduceIte, kdT, ixT, w_cl, w_ti, w_s1, w_a, w_m12, w_m8, w_m3, w_m4, c_playAt hC hP, hat, c_isKind, c2, hk0, f4.1, reduceCtorEq, Bool.true_eq_false]
    · have c2' : wi_ k 0 11 = false := by simpa using c2
      simp only [if_neg (show ¬ ((0 ≤ r.toInt ∧ r.toInt < (qr_ P n : Int)) ∧ wi_ k 0 11 = true ∧ kb_ (qk_ P n r.toNatClampNeg) k = false) from fun z => c2 z.2.1)]
      refine ⟨h, Or.inl rfl, rfl, rfl, fun Q => ?_, hP⟩
      simp (disch := first | omega | assumption | decide | (apply bT_; decide)) only [s68_0, s68_1, s68_2, s68_5, s68_7, s68_9, s68_12, s68_13, s68_16, s68_21, s68_22, s68_23, s68_26, s68_29, s68_30, s68_33, s68_34, K_v, K_0, acI, acA, acJ, acX, List.map_cons, List.map_nil, List.sum_cons, List.sum_nil, true_and, and_true, posT, b2_0, b2_1, bft, true_or, or_true, Nat.zero_le, Nat.reduceAdd, Nat.reduceLeDiff, hI_uI, hL_uI, hR_uI, nx_uI, sl_uI, hI_uL, hL_uL, hR_uL, nx_uL, sl_uL, hI_uR, hL_uR, hR_uR, nx_uR, sl_uR, st_eq, if_true, if_false, eq_self, Nat.reduceEqDiff, Nat.reduceMul, reduceIte, kdT, ixT, w_cl, w_ti, w_s1, w_a, w_m12, w_m8, w_m3, w_m4, c_playAt hC hP, hat, c_isKind, c2', reduceCtorEq]
  · have hat : pat_ P sp p = none := by unfold pat_; rw [if_neg c1]
    simp only [isR_n c1, Bool.false_eq_true, false_and, if_false]
    refine ⟨h, Or.inl rfl, rfl, rfl, fun Q => ?_, hP⟩
    simp (disch := first | omega | assumption | decide | (apply bT_; decide)) only [s68_0, s68_1, s68_2, s68_5, s68_7, s68_9, s68_13, s68_16, s68_21, s68_22, s68_23, s68_26, s68_29, s68_30, s68_33, s68_34, K_v, K_0, acI, acA, acJ, acX, List.map_cons, List.map_nil, List.sum_cons, List.sum_nil, true_and, and_true, posT, b2_0, b2_1, bft, true_or, or_true, Nat.zero_le, Nat.reduceAdd, Nat.reduceLeDiff, hI_uI, hL_uI, hR_uI, nx_uI, sl_uI, hI_uL, hL_uL, hR_uL, nx_uL, sl_uL, hI_uR, hL_uR, hR_uR, nx_uR, sl_uR, st_eq, if_true, if_false, eq_self, Nat.reduceEqDiff, Nat.reduceMul, reduceIte, kdT, ixT, w_cl, w_ti, w_s1, w_a, w_m12, w_m8, w_m3, w_m4, c_playAt hC hP, hat]
end CPD
