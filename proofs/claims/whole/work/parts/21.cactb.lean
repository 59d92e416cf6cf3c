/-! the class: actor, plays, comes -/
theorem mk_ser {s s' k n k' n' : Nat} (hk : k < 64) (hn : n < 4096) (hk' : k' < 64) (hn' : n' < 4096) (e : mk_ s k n = mk_ s' k' n') : s = s' ∧ k = k' ∧ n = n' := by
  have h1 := congrArg sr_ e
  have h2 := congrArg kd_ e
  have h3 := congrArg ln_ e
  rw [sr_mk hk hn, sr_mk hk' hn'] at h1
  rw [kd_mk hk, kd_mk hk'] at h2
  rw [ln_mk hk hn, ln_mk hk' hn'] at h3
  exact ⟨h1, h2, h3⟩
theorem nb31 : nb_ 3 1 = true := rfl
section CAB
variable {xs : Nat → Int32} {d : Nat} {h : AH} {na : Nat} {sa : Nat → Nat} {F G : Nat → Nat → Int32} {Q : OU_ → AH → Prop}
theorem c_init0 {a : Nat} {f b j g : Int32} (hk : kd_ a = 0) (hg : nb_ 3 g = true) (hd : 1 ≤ d) : V_ xs d 0 0 [vA (some a), vI f, vI b, vI j, vI g] [] h Q ↔ Q (some none) (uR_ (nw_ (uI_ h a (st_ (st_ (st_ (st_ (st_ (hI_ h a) 0 f) 1 b) 2 j) 3 g) 4 1)) 16 12 12) a (st_ (hR_ h a) 5 (some (mk_ (nx_ h) 16 12)))) := by
  have hne : ¬ (a = mk_ (nx_ h) 16 12) := fun e => by rw [e, kd_mk (by omega)] at hk; omega
  simp (disch := first | omega | assumption | decide | (apply bT_; decide)) only [s0_0, s0_1, s0_4, s0_5, s0_6, s0_9, s0_10, s0_11, s0_14, s0_15, s0_16, s0_19, s0_20, s0_22, s0_25, s0_26, s0_27, s0_30, s0_31, s0_35, s0_38, K_v, K_0, acI, acA, acJ, acX, List.map_cons, List.map_nil, List.sum_cons, List.sum_nil, true_and, and_true, posT, b2_0, b2_1, bft, true_or, or_true, Nat.zero_le, Nat.reduceAdd, Nat.reduceLeDiff, hI_uI, hL_uI, hR_uI, nx_uI, sl_uI, hI_uL, hL_uL, hR_uL, nx_uL, sl_uL, hI_uR, hL_uR, hR_uR, nx_uR, sl_uR, st_eq, if_true, if_false, eq_self, Nat.reduceEqDiff, Nat.reduceMul, reduceIte, kdT, ixT, w_cl, w_ti, w_s1, w_a, w_m12, w_m8, w_m3, w_m4, hk, hg, nb31, uI_uI, hR_nw, hne, s0_33 (n := 12) (N := 12) rfl (by decide)]
/-- a cell of old isn't a new one -/
theorem ne_new {a s k n : Nat} (ha : sr_ a < s) (hk : k < 64) (hn : n < 4096) : ¬ (a = mk_ s k n) := fun e => by rw [e, sr_mk hk hn] at ha; omega
theorem x_actor {fee birth joined g : Int32} (hC : CS_ h) (hA : CA_ na sa F G h) (h0 : 164 ≤ nx_ h) (hg : g = 0 ∨ g = 1) (hd : 3 ≤ d) : ∃ h', FX_ [25428756] [1] h h' ∧ nx_ h' ≤ nx_ h + 4 ∧ sl_ h' ≤ sl_ h + 29 ∧
    (if na < 12 ∧ okA_t fee birth joined = true then Do_ xs d 63 [vA (some 25165831), vI fee, vI birth, vI joined, vI g] h (some (some (vI (Int32.ofNat na)))) h' ∧ CA_ (na + 1) (up1_ sa na (nx_ h)) (upF_ F na (fa_ fee birth joined g)) (upF_ G na (fun _ => 0)) h'
     else Do_ xs d 63 [vA (some 25165831), vI fee, vI birth, vI joined, vI g] h (some (some (vI (-1)))) h' ∧ CA_ na sa F G h') := by
  obtain ⟨g1, g2, g3, g4, g5, g6, g7⟩ := id hA
  have hgn : nb_ 3 g = true := nb_3.mpr hg
  by_cases c : na < 12 ∧ okA_t fee birth joined = true
  · simp only [if_pos c]
    obtain ⟨c1, c2⟩ := c
    unfold okA_t at c2
    rw [Bool.and_eq_true, Bool.and_eq_true] at c2
    obtain ⟨c3, c4, c5⟩ := c2
    have hlt : Int32.ofNat na < 12 := (w12 (by omega)).mpr c1
    have hk0 : kd_ (mk_ (nx_ h) 0 0) = 0 := kd_mk (by omega)
    have n1 : ¬ (25428756 = mk_ (nx_ h) 0 0) := ne_new (show sr_ 25428756 < _ by show 97 < _; omega) (by omega) (by omega)
    have n2 : ¬ (25428756 = mk_ (nx_ h + 1) 16 12) := ne_new (show sr_ 25428756 < _ by show 97 < _; omega) (by omega) (by omega)
    have n3 : ¬ (25165831 = mk_ (nx_ h) 0 0) := ne_new (show sr_ 25165831 < _ by show 96 < _; omega) (by omega) (by omega)
    have n4 : ¬ (25165831 = mk_ (nx_ h + 1) 16 12) := ne_new (show sr_ 25165831 < _ by show 96 < _; omega) (by omega) (by omega)
    have n5 : ¬ (mk_ (nx_ h) 0 0 = mk_ (nx_ h + 1) 16 12) := fun e => by have := mk_ser (by omega) (by omega) (by omega) (by omega) e; omega
    have n6 : ¬ (mk_ (nx_ h) 0 0 = 25428756) := fun e => n1 e.symm
    have n7 : ¬ (mk_ (nx_ h) 0 0 = 25165831) := fun e => n3 e.symm
    have n8 : ¬ (mk_ (nx_ h + 1) 16 12 = 25165831) := fun e => n4 e.symm
    have n9 : ¬ (mk_ (nx_ h + 1) 16 12 = mk_ (nx_ h) 0 0) := fun e => n5 e.symm
    have hb : kd_ 25428756 = 20 ∧ ok1_ 0 (some (mk_ (nx_ h) 0 0)) = true ∨ kd_ 25428756 = 21 ∧ ok1_ 4 (some (mk_ (nx_ h) 0 0)) = true ∨ kd_ 25428756 = 22 ∧ ok1_ 32 (some (mk_ (nx_ h) 0 0)) = true := Or.inl ⟨rfl, by unfold ok1_; simp [hk0]⟩
    obtain ⟨h1, hh1⟩ : ∃ h1, h1 = uR_ (uR_ (nw_ (uI_ (nw_ h 0 0 6) (mk_ (nx_ h) 0 0) (st_ (st_ (st_ (st_ (st_ (fun _ => 0) 0 fee) 1 birth) 2 joined) 3 g) 4 1)) 16 12 12) (mk_ (nx_ h) 0 0) (st_ (fun _ => none) 5 (some (mk_ (nx_ h + 1) 16 12)))) 25428756 (st_ (hR_ h 25428756) na (some (mk_ (nx_ h) 0 0))) := ⟨_, rfl⟩
    have eX : hI_ h1 25165831 = hI_ h 25165831 := by
      rw [hh1]
      simp only [hI_uI, hL_uI, hR_uI, nx_uI, sl_uI, hI_uL, hL_uL, hR_uL, nx_uL, sl_uL, hI_uR, hL_uR, hR_uR, nx_uR, sl_uR, st_eq, if_true, if_false, eq_self, Nat.reduceEqDiff, Nat.reduceMul, reduceIte, kdT, ixT, w_cl, w_ti, w_s1, w_a, w_m12, w_m8, w_m3, w_m4, hI_nw, nx_nw, n3, n4]
    have f1 : FX_ [25428756] [1] h h1 := by
      rw [hh1]
      refine FX_.uR (FX_.uR (FX_.nw (FX_.uI (FX_.nw FX_.rf (by omega) (by omega) (by omega)) (Or.inr ?_) n7) (by omega) (by omega) (by show 96 < nx_ h + 1; omega)) (Or.inr ?_) n7) (Or.inl (by decide)) (by decide)
      · rw [sr_mk (by omega) (by omega)]; exact Nat.le_refl _
      · rw [sr_mk (by omega) (by omega)]; exact Nat.le_refl _
    have f2 : FX_ [25428756] [1] h (uI_ h1 25165831 (st_ (hI_ h 25165831) 1 (Int32.ofNat (na + 1)))) := by rw [← eX]; exact f1.uX (by decide)
    have hnx : nx_ h1 = nx_ h + 2 := by rw [hh1]; rfl
    refine ⟨uI_ h1 25165831 (st_ (hI_ h 25165831) 1 (Int32.ofNat (na + 1))), f2, by show nx_ h1 ≤ _; omega, by rw [hh1]; show sl_ h + 6 + 12 ≤ _; omega, fun Q => ?_, ?_⟩
    · simp (disch := first | omega | assumption | decide | (apply bT_; decide)) only [s63_0, s63_1, s63_4, s63_6, s63_9, s63_10, s63_11, s63_13, s63_16, s63_19, s63_20, s63_23, s63_26, s63_27, s63_30, s63_33, s63_34, s63_35, s63_36, s63_39, s63_40, s63_43, s63_46, s63_46i, s63_47, s63_48, s63_49, s63_50, s63_52, s63_55, s63_56, s63_57, s63_57i, s63_58, s63_61, s63_62, s63_63, s63_64, s63_67, K_v, K_0, acI, acA, acJ, acX, List.map_cons, List.map_nil, List.sum_cons, List.sum_nil, true_and, and_true, posT, b2_0, b2_1, bft, true_or, or_true, Nat.zero_le, Nat.reduceAdd, Nat.reduceLeDiff, hI_uI, hL_uI, hR_uI, nx_uI, sl_uI, hI_uL, hL_uL, hR_uL, nx_uL, sl_uL, hI_uR, hL_uR, hR_uR, nx_uR, sl_uR, st_eq, if_true, if_false, eq_self, Nat.reduceEqDiff, Nat.reduceMul, reduceIte, kdT, ixT, w_cl, w_ti, w_s1, w_a, w_m12, w_m8, w_m3, w_m4, hC.x0, hC.x2, hC.x4, hC.x7, hC.x8, hC.x9, hC.x11, hC.f0, hC.f1, hC.f2, hC.p0, hC.p1, hC.p2, hC.p3, hC.l1, hC.l2, hC.l3, hC.l4, hC.d0, hC.d1, hC.d2, hC.g1, hC.g2, hC.g3, hC.g4, hC.k1, hC.k2, hC.k3, hC.k4, g1, c_within, c_isDay, c_init0, c3, c4, c5, if_pos hlt, hI_nw, hR_nw, nx_nw, n1, n2, n3, n4, n6, n7, hk0, kd_ACT, ln_ACT, Bool.true_eq_false]
      rw [← hh1]
    · have sn : ∀ i, i < na → up1_ sa na (nx_ h) i = sa i := fun i hi => by unfold up1_; rw [if_neg (by omega)]
      have sn2 : up1_ sa na (nx_ h) na = nx_ h := by unfold up1_; rw [if_pos rfl]
      have old : ∀ s k n, 164 ≤ s → s < nx_ h → k < 64 → n < 4096 → hI_ (uI_ h1 25165831 (st_ (hI_ h 25165831) 1 (Int32.ofNat (na + 1)))) (mk_ s k n) = hI_ h (mk_ s k n) ∧ hR_ (uI_ h1 25165831 (st_ (hI_ h 25165831) 1 (Int32.ofNat (na + 1)))) (mk_ s k n) = hR_ h (mk_ s k n) := by
        intro s k n q1 q2 q3 q4
        have hs : sr_ (mk_ s k n) = s := sr_mk q3 q4
        obtain ⟨u1, -, u3⟩ := f2.row (mk_ s k n) (fun e => by rw [e] at hs; have : sr_ 25165831 = 96 := rfl; omega) (fun e => by rw [List.mem_singleton.mp e] at hs; have : sr_ 25428756 = 97 := rfl; omega) (by omega)
        exact ⟨u1, u3⟩
      refine ⟨by simp only [hI_uI, hL_uI, hR_uI, nx_uI, sl_uI, hI_uL, hL_uL, hR_uL, nx_uL, sl_uL, hI_uR, hL_uR, hR_uR, nx_uR, sl_uR, st_eq, if_true, if_false, eq_self, Nat.reduceEqDiff, Nat.reduceMul, reduceIte, kdT, ixT, w_cl, w_ti, w_s1, w_a, w_m12, w_m8, w_m3, w_m4], by omega, fun i hi => ?_, fun i q1 q2 => ?_, fun i j hi hj => ?_, fun i k hi hk => ?_, fun i j q1 q2 => ?_⟩
      · by_cases q : i = na
        · subst q
          rw [sn2]
          refine ⟨?_, h0, by show _ < nx_ h1; omega, ?_⟩
          · rw [hh1]; simp only [hI_uI, hL_uI, hR_uI, nx_uI, sl_uI, hI_uL, hL_uL, hR_uL, nx_uL, sl_uL, hI_uR, hL_uR, hR_uR, nx_uR, sl_uR, st_eq, if_true, if_false, eq_self, Nat.reduceEqDiff, Nat.reduceMul, reduceIte, kdT, ixT, w_cl, w_ti, w_s1, w_a, w_m12, w_m8, w_m3, w_m4]
          · rw [hh1]; simp only [hI_uI, hL_uI, hR_uI, nx_uI, sl_uI, hI_uL, hL_uL, hR_uL, nx_uL, sl_uL, hI_uR, hL_uR, hR_uR, nx_uR, sl_uR, st_eq, if_true, if_false, eq_self, Nat.reduceEqDiff, Nat.reduceMul, reduceIte, kdT, ixT, w_cl, w_ti, w_s1, w_a, w_m12, w_m8, w_m3, w_m4, n6]
        · have hi' : i < na := by omega
          obtain ⟨u1, u2, u3, u4⟩ := g3 i hi'
          rw [sn i hi', (old (sa i) 0 0 u2 (by omega) (by omega) (by omega)).2]
          refine ⟨?_, u2, by show _ < nx_ h1; omega, u4⟩
          rw [hh1]; simp only [hI_uI, hL_uI, hR_uI, nx_uI, sl_uI, hI_uL, hL_uL, hR_uL, nx_uL, sl_uL, hI_uR, hL_uR, hR_uR, nx_uR, sl_uR, st_eq, if_true, if_false, eq_self, Nat.reduceEqDiff, Nat.reduceMul, reduceIte, kdT, ixT, w_cl, w_ti, w_s1, w_a, w_m12, w_m8, w_m3, w_m4, if_neg q]; exact u1
      · rw [hh1]; simp only [hI_uI, hL_uI, hR_uI, nx_uI, sl_uI, hI_uL, hL_uL, hR_uL, nx_uL, sl_uL, hI_uR, hL_uR, hR_uR, nx_uR, sl_uR, st_eq, if_true, if_false, eq_self, Nat.reduceEqDiff, Nat.reduceMul, reduceIte, kdT, ixT, w_cl, w_ti, w_s1, w_a, w_m12, w_m8, w_m3, w_m4, if_neg (show ¬ i = na by omega)]; exact g4 i (by omega) q2
      · by_cases q : i = na
        · subst q
          rw [sn2, hh1]
          simp only [hI_uI, hL_uI, hR_uI, nx_uI, sl_uI, hI_uL, hL_uL, hR_uL, nx_uL, sl_uL, hI_uR, hL_uR, hR_uR, nx_uR, sl_uR, st_eq, if_true, if_false, eq_self, Nat.reduceEqDiff, Nat.reduceMul, reduceIte, kdT, ixT, w_cl, w_ti, w_s1, w_a, w_m12, w_m8, w_m3, w_m4, hI_nw, n7, n5, nx_nw, upF_, fa_]
          match j, hj with
          | 0, _ => rfl
          | 1, _ => rfl
          | 2, _ => rfl
          | 3, _ => rfl
          | 4, _ => rfl
        · have hi' : i < na := by omega
          obtain ⟨u1, u2, u3, u4⟩ := g3 i hi'
          rw [sn i hi', (old (sa i) 0 0 u2 (by omega) (by omega) (by omega)).1]
          unfold upF_
          rw [if_neg q]
          exact g5 i j hi' hj
      · by_cases q : i = na
        · subst q
          rw [sn2, hh1]
          simp only [hI_uI, hL_uI, hR_uI, nx_uI, sl_uI, hI_uL, hL_uL, hR_uL, nx_uL, sl_uL, hI_uR, hL_uR, hR_uR, nx_uR, sl_uR, st_eq, if_true, if_false, eq_self, Nat.reduceEqDiff, Nat.reduceMul, reduceIte, kdT, ixT, w_cl, w_ti, w_s1, w_a, w_m12, w_m8, w_m3, w_m4, hI_nw, n8, nx_nw, upF_]
        · have hi' : i < na := by omega
          obtain ⟨u1, u2, u3, u4⟩ := g3 i hi'
          rw [sn i hi', (old (sa i + 1) 16 12 (by omega) u3 (by omega) (by omega)).1]
          unfold upF_
          rw [if_neg q]
          exact g6 i k hi' hk
      · rw [sn i (by omega)]
        by_cases q : j = na
        · subst q
          rw [sn2]
          have := (g3 i q1).2.2.1
          omega
        · rw [sn j (by omega)]
          exact g7 i j q1 (by omega)
  · simp only [if_neg c]
    refine ⟨h, FX_.rf, by omega, by omega, fun Q => ?_, hA⟩
    simp (disch := first | omega | assumption | decide | (apply bT_; decide)) only [s63_0, s63_1, s63_4, s63_6, s63_9, s63_10, s63_11, s63_13, s63_16, s63_19, s63_20, s63_23, s63_26, s63_27, s63_30, s63_33, s63_34, s63_36, s63_39, s63_40, s63_43, s63_46, s63_46i, s63_47, s63_48, s63_49, s63_50, s63_52, s63_55, s63_56, s63_57, s63_57i, s63_58, s63_61, s63_62, s63_63, s63_64, s63_67, K_v, K_0, acI, acA, acJ, acX, List.map_cons, List.map_nil, List.sum_cons, List.sum_nil, true_and, and_true, posT, b2_0, b2_1, bft, true_or, or_true, Nat.zero_le, Nat.reduceAdd, Nat.reduceLeDiff, hI_uI, hL_uI, hR_uI, nx_uI, sl_uI, hI_uL, hL_uL, hR_uL, nx_uL, sl_uL, hI_uR, hL_uR, hR_uR, nx_uR, sl_uR, st_eq, if_true, if_false, eq_self, Nat.reduceEqDiff, Nat.reduceMul, reduceIte, kdT, ixT, w_cl, w_ti, w_s1, w_a, w_m12, w_m8, w_m3, w_m4, g1, c_within, c_isDay, w12]
    by_cases q1 : na < 12
    · rw [if_pos q1]
      unfold okA_t at c
      rw [Bool.and_eq_true, Bool.and_eq_true] at c
      by_cases q2 : wi_ fee 1 100 = false
      · rw [if_pos q2]
      · rw [if_neg q2]
        by_cases q3 : wi_ birth (-100000) 100000 = false
        · rw [if_pos q3]
        · rw [if_neg q3]
          by_cases q4 : wi_ joined (-100000) 100000 = false
          · rw [if_pos q4]
          · exact absurd ⟨q1, by simpa using q2, by simpa using q3, by simpa using q4⟩ c
    · rw [if_neg q1]
theorem x_plays {a k g : Int32} (hC : CS_ h) (hA : CA_ na sa F G h) (hd : 3 ≤ d) : ∃ h' s, 164 ≤ s ∧ FX_ [mk_ s 16 12] [] h h' ∧ nx_ h' = nx_ h ∧ sl_ h' = sl_ h ∧
    (if okG_ na a k g = true then Do_ xs d 64 [vA (some 25165831), vI a, vI k, vI g, vX 0] h (some (some (vI 1))) h' ∧ CA_ na sa F (up2_ G a.toNatClampNeg k.toNatClampNeg g) h'
     else Do_ xs d 64 [vA (some 25165831), vI a, vI k, vI g, vX 0] h (some (some (vI 0))) h' ∧ CA_ na sa F G h') := by
  obtain ⟨g1, g2, g3, g4, g5, g6, g7⟩ := id hA
  by_cases c : okG_ na a k g = true
  · simp only [if_pos c]
    unfold okG_ at c
    rw [Bool.and_eq_true, Bool.and_eq_true, decide_eq_true_iff] at c
    obtain ⟨⟨c1, c2⟩, c3, c4⟩ := c
    obtain ⟨i, rfl, hi1, hi2⟩ := w_of c1
    have c5 := wi_t.mp c3
    obtain ⟨j, rfl, hj1, hj2⟩ := w_of (x := k) (by have : (0 : Int32).toInt = 0 := rfl; omega)
    have z11 : (11 : Int32).toInt = 11 := rfl
    have hj : j < 12 := by omega
    have hi : i < na := by omega
    obtain ⟨u1, u2, u3, u4⟩ := g3 i hi
    have hat : aat_ na sa (Int32.ofNat i) = some (mk_ (sa i) 0 0) := by unfold aat_; rw [if_pos ⟨c1, c2⟩, w_cl hi2]
    have hk0 : kd_ (mk_ (sa i) 0 0) = 0 := kd_mk (by omega)
    have hk1 : kd_ (mk_ (sa i + 1) 16 12) = 16 := kd_mk (by omega)
    have hl1 : ln_ (mk_ (sa i + 1) 16 12) = 12 := ln_mk (by omega) (by omega)
    have hnX : mk_ (sa i + 1) 16 12 ≠ 25165831 := fun e => ne_new (show sr_ 25165831 < sa i + 1 by show 96 < _; omega) (by omega) (by omega) e.symm
    rw [w_cl hi2, w_cl hj2]
    have f1 : FX_ [mk_ (sa i + 1) 16 12] [] h (uI_ h (mk_ (sa i + 1) 16 12) (st_ (hI_ h (mk_ (sa i + 1) 16 12)) j g)) := FX_.rf.uI (Or.inl List.mem_cons_self) hnX
    refine ⟨uI_ h (mk_ (sa i + 1) 16 12) (st_ (hI_ h (mk_ (sa i + 1) 16 12)) j g), sa i + 1, by omega, f1, rfl, rfl, fun Q => ?_, ?_⟩
    · simp (disch := first | omega | assumption | decide | (apply bT_; decide)) only [s64_0, s64_1, s64_2, s64_5, s64_7, s64_9, s64_12, s64_13, s64_16, s64_19, s64_20, s64_21, s64_23, s64_26, s64_29, s64_30, s64_31, s64_33, s64_36, s64_37, s64_38, s64_39, s64_40, K_v, K_0, acI, acA, acJ, acX, List.map_cons, List.map_nil, List.sum_cons, List.sum_nil, true_and, and_true, posT, b2_0, b2_1, bft, true_or, or_true, Nat.zero_le, Nat.reduceAdd, Nat.reduceLeDiff, hI_uI, hL_uI, hR_uI, nx_uI, sl_uI, hI_uL, hL_uL, hR_uL, nx_uL, sl_uL, hI_uR, hL_uR, hR_uR, nx_uR, sl_uR, st_eq, if_true, if_false, eq_self, Nat.reduceEqDiff, Nat.reduceMul, reduceIte, kdT, ixT, w_cl, w_ti, w_s1, w_a, w_m12, w_m8, w_m3, w_m4, c_actorAt hC hA, hat, c_isKind, c_within, c3, c4, hk0, hl1, u4, reduceCtorEq, Bool.true_eq_false]
    · have ne1 : ∀ q : Nat, ¬ (mk_ (sa q) 0 0 = mk_ (sa i + 1) 16 12) := fun q e => by have := mk_ser (by omega) (by omega) (by omega) (by omega) e; omega
      have nACT : ¬ (25428756 = mk_ (sa i + 1) 16 12) := ne_new (show sr_ 25428756 < sa i + 1 by show 97 < _; omega) (by omega) (by omega)
      refine ⟨by rw [hI_uI, if_neg (fun e => hnX e.symm)]; exact g1, g2, fun q hq => g3 q hq, fun q q1 q2 => g4 q q1 q2, fun q r hq hr => by rw [hI_uI, if_neg (ne1 q)]; exact g5 q r hq hr, fun q r hq hr => ?_, g7⟩
      rw [hI_uI]
      unfold up2_
      by_cases q1 : q = i
      · subst q1
        rw [if_pos rfl, st_eq]
        by_cases q2 : r = j
        · rw [if_pos q2, if_pos ⟨rfl, q2⟩]
        · rw [if_neg q2, if_neg (fun z => q2 z.2)]; exact g6 q r hq hr
      · have : ¬ (mk_ (sa q + 1) 16 12 = mk_ (sa i + 1) 16 12) := fun e => by
          have h1 := mk_ser (by omega) (by omega) (by omega) (by omega) e
          rcases Nat.lt_or_gt_of_ne q1 with h2 | h2
          · have := g7 q i h2 hi; omega
          · have := g7 i q h2 hq; omega
        rw [if_neg this, if_neg (fun z => q1 z.1)]
        exact g6 q r hq hr
  · simp only [if_neg c]
    refine ⟨h, 164, Nat.le_refl _, FX_.rf, rfl, rfl, fun Q => ?_, hA⟩
    unfold okG_ at c
    rw [Bool.and_eq_true, Bool.and_eq_true] at c
    by_cases q1 : 0 ≤ a.toInt ∧ a.toInt < na
    · have hat : aat_ na sa a = some (mk_ (sa a.toNatClampNeg) 0 0) := by unfold aat_; rw [if_pos q1]
      simp (disch := first | omega | assumption | decide | (apply bT_; decide)) only [s64_0, s64_1, s64_2, s64_5, s64_7, s64_9, s64_12, s64_13, s64_16, s64_19, s64_20, s64_21, s64_23, s64_26, s64_29, s64_30, s64_33, s64_36, s64_37, s64_38, s64_39, s64_40, K_v, K_0, acI, acA, acJ, acX, List.map_cons, List.map_nil, List.sum_cons, List.sum_nil, true_and, and_true, posT, b2_0, b2_1, bft, true_or, or_true, Nat.zero_le, Nat.reduceAdd, Nat.reduceLeDiff, hI_uI, hL_uI, hR_uI, nx_uI, sl_uI, hI_uL, hL_uL, hR_uL, nx_uL, sl_uL, hI_uR, hL_uR, hR_uR, nx_uR, sl_uR, st_eq, if_true, if_false, eq_self, Nat.reduceEqDiff, Nat.reduceMul, reduceIte, kdT, ixT, w_cl, w_ti, w_s1, w_a, w_m12, w_m8, w_m3, w_m4, c_actorAt hC hA, hat, c_isKind, c_within, reduceCtorEq]
      by_cases q2 : wi_ k 0 11 = false
      · rw [if_pos q2]
      · rw [if_neg q2]
        by_cases q3 : wi_ g 0 9 = false
        · rw [if_pos q3]
        · exact absurd ⟨decide_eq_true q1, by simpa using q2, by simpa using q3⟩ c
    · have hat : aat_ na sa a = none := by unfold aat_; rw [if_neg q1]
      simp (disch := first | omega | assumption | decide | (apply bT_; decide)) only [s64_0, s64_1, s64_2, s64_5, s64_7, s64_9, s64_13, s64_16, s64_19, s64_20, s64_21, s64_23, s64_26, s64_29, s64_30, s64_33, s64_36, s64_37, s64_38, s64_39, s64_40, K_v, K_0, acI, acA, acJ, acX, List.map_cons, List.map_nil, List.sum_cons, List.sum_nil, true_and, and_true, posT, b2_0, b2_1, bft, true_or, or_true, Nat.zero_le, Nat.reduceAdd, Nat.reduceLeDiff, hI_uI, hL_uI, hR_uI, nx_uI, sl_uI, hI_uL, hL_uL, hR_uL, nx_uL, sl_uL, hI_uR, hL_uR, hR_uR, nx_uR, sl_uR, st_eq, if_true, if_false, eq_self, Nat.reduceEqDiff, Nat.reduceMul, reduceIte, kdT, ixT, w_cl, w_ti, w_s1, w_a, w_m12, w_m8, w_m3, w_m4, c_actorAt hC hA, hat]
theorem x_comes {a g : Int32} (hC : CS_ h) (hA : CA_ na sa F G h) (hg : g = 0 ∨ g = 1) (hd : 3 ≤ d) : ∃ h' s, 164 ≤ s ∧ FX_ [mk_ s 0 0] [] h h' ∧ nx_ h' = nx_ h ∧ sl_ h' = sl_ h ∧
    (if 0 ≤ a.toInt ∧ a.toInt < na then Do_ xs d 65 [vA (some 25165831), vI a, vI g, vX 0] h (some (some (vI 1))) h' ∧ CA_ na sa (up2_ F a.toNatClampNeg 4 g) G h'
     else Do_ xs d 65 [vA (some 25165831), vI a, vI g, vX 0] h (some (some (vI 0))) h' ∧ CA_ na sa F G h') := by
  obtain ⟨g1, g2, g3, g4, g5, g6, g7⟩ := id hA
  have hgn : nb_ 3 g = true := nb_3.mpr hg
  by_cases c : 0 ≤ a.toInt ∧ a.toInt < na
  · simp only [if_pos c]
    obtain ⟨i, rfl, hi1, hi2⟩ := w_of c.1
    have hi : i < na := by omega
    obtain ⟨u1, u2, u3, u4⟩ := g3 i hi
    have hat : aat_ na sa (Int32.ofNat i) = some (mk_ (sa i) 0 0) := by unfold aat_; rw [if_pos c, w_cl hi2]
    have hk0 : kd_ (mk_ (sa i) 0 0) = 0 := kd_mk (by omega)
    have hnX : mk_ (sa i) 0 0 ≠ 25165831 := fun e => ne_new (show sr_ 25165831 < sa i by show 96 < _; omega) (by omega) (by omega) e.symm
    rw [w_cl hi2]
    refine ⟨uI_ h (mk_ (sa i) 0 0) (st_ (hI_ h (mk_ (sa i) 0 0)) 4 g), sa i, u2, FX_.rf.uI (Or.inl List.mem_cons_self) hnX, rfl, rfl, fun Q => ?_, ?_⟩
    · simp (disch := first | omega | assumption | decide | (apply bT_; decide)) only [s65_0, s65_1, s65_2, s65_5, s65_6, s65_7, s65_10, s65_11, s65_12, s65_13, s65_14, s65_17, s65_18, K_v, K_0, acI, acA, acJ, acX, List.map_cons, List.map_nil, List.sum_cons, List.sum_nil, true_and, and_true, posT, b2_0, b2_1, bft, true_or, or_true, Nat.zero_le, Nat.reduceAdd, Nat.reduceLeDiff, hI_uI, hL_uI, hR_uI, nx_uI, sl_uI, hI_uL, hL_uL, hR_uL, nx_uL, sl_uL, hI_uR, hL_uR, hR_uR, nx_uR, sl_uR, st_eq, if_true, if_false, eq_self, Nat.reduceEqDiff, Nat.reduceMul, reduceIte, kdT, ixT, w_cl, w_ti, w_s1, w_a, w_m12, w_m8, w_m3, w_m4, c_actorAt hC hA, hat, hk0, hgn, reduceCtorEq]
    · have ne1 : ∀ q : Nat, ¬ (mk_ (sa q + 1) 16 12 = mk_ (sa i) 0 0) := fun q e => by have := mk_ser (by omega) (by omega) (by omega) (by omega) e; omega
      refine ⟨by rw [hI_uI, if_neg (fun e => hnX e.symm)]; exact g1, g2, fun q hq => g3 q hq, fun q q1 q2 => g4 q q1 q2, fun q r hq hr => ?_, fun q r hq hr => by rw [hI_uI, if_neg (ne1 q)]; exact g6 q r hq hr, g7⟩
      rw [hI_uI]
      unfold up2_
      by_cases q1 : q = i
      · subst q1
        rw [if_pos rfl, st_eq]
        by_cases q2 : r = 4
        · rw [if_pos q2, if_pos ⟨rfl, q2⟩]
        · rw [if_neg q2, if_neg (fun z => q2 z.2)]; exact g5 q r hq hr
      · have : ¬ (mk_ (sa q) 0 0 = mk_ (sa i) 0 0) := fun e => by
          have h1 := mk_ser (by omega) (by omega) (by omega) (by omega) e
          rcases Nat.lt_or_gt_of_ne q1 with h2 | h2
          · have := g7 q i h2 hi; omega
          · have := g7 i q h2 hq; omega
        rw [if_neg this, if_neg (fun z => q1 z.1)]
        exact g5 q r hq hr
  · simp only [if_neg c]
    have hat : aat_ na sa a = none := by unfold aat_; rw [if_neg c]
    refine ⟨h, 164, Nat.le_refl _, FX_.rf, rfl, rfl, fun Q => ?_, hA⟩
    simp (disch := first | omega | assumption | decide | (apply bT_; decide)) only [s65_0, s65_1, s65_2, s65_5, s65_6, s65_7, s65_10, s65_11, s65_13, s65_14, s65_17, s65_18, K_v, K_0, acI, acA, acJ, acX, List.map_cons, List.map_nil, List.sum_cons, List.sum_nil, true_and, and_true, posT, b2_0, b2_1, bft, true_or, or_true, Nat.zero_le, Nat.reduceAdd, Nat.reduceLeDiff, hI_uI, hL_uI, hR_uI, nx_uI, sl_uI, hI_uL, hL_uL, hR_uL, nx_uL, sl_uL, hI_uR, hL_uR, hR_uR, nx_uR, sl_uR, st_eq, if_true, if_false, eq_self, Nat.reduceEqDiff, Nat.reduceMul, reduceIte, kdT, ixT, w_cl, w_ti, w_s1, w_a, w_m12, w_m8, w_m3, w_m4, c_actorAt hC hA, hat]
end CAB
