/-! the class: play, role, does, doubles, can -/
section CPB
variable {xs : Nat → Int32} {d : Nat} {h : AH} {P : PS} {sp : Nat → Nat} {na : Nat} {sa : Nat → Nat} {F G : Nat → Nat → Int32} {Q : OU_ → AH → Prop}
theorem x_play {mi ta st we : Int32} (hC : CS_ h) (hP : CP_ P sp h) (h0 : 164 ≤ nx_ h) (hd : 3 ≤ d) : ∃ h', FX_ [25690901] [3] h h' ∧ nx_ h' ≤ nx_ h + 4 ∧ sl_ h' ≤ sl_ h + 29 ∧
    (if qn_ P < 12 ∧ okP_t mi ta st we = true then Do_ xs d 66 [vA (some 25165831), vI mi, vI ta, vI st, vI we] h (some (some (vI (Int32.ofNat (qn_ P))))) h' ∧ CP_ (qn_ P + 1, upF_ (qf_ P) (qn_ P) (fp_ mi ta st we), P.2.2) (up1_ sp (qn_ P) (nx_ h)) h'
     else Do_ xs d 66 [vA (some 25165831), vI mi, vI ta, vI st, vI we] h (some (some (vI (-1)))) h' ∧ CP_ P sp h') := by
  obtain ⟨g1, ⟨v1, v2, v3, v4⟩, g3, g4, g5, g6, g7, g8, g9⟩ := id hP
  by_cases c : qn_ P < 12 ∧ okP_t mi ta st we = true
  · simp only [if_pos c]
    obtain ⟨c1, c2⟩ := c
    unfold okP_t at c2
    rw [Bool.and_eq_true, Bool.and_eq_true, Bool.and_eq_true] at c2
    obtain ⟨c3, c4, c5, c6⟩ := c2
    have hlt : Int32.ofNat (qn_ P) < 12 := (w12 (by omega)).mpr c1
    obtain ⟨A, hA⟩ : ∃ A, A = mk_ (nx_ h) 4 0 := ⟨_, rfl⟩
    have hk0 : kd_ A = 4 := by rw [hA]; exact kd_mk (by omega)
    have hsA : sr_ A = nx_ h := by rw [hA]; exact sr_mk (by omega) (by omega)
    have nn : ∀ b s k n, sr_ b < s → k < 64 → n < 4096 → ¬ (b = mk_ s k n) := fun b s k n q1 q2 q3 => ne_new q1 q2 q3
    have nR : ∀ k n, k < 64 → n < 4096 → ∀ i, ¬ (25690901 = mk_ (nx_ h + i) k n) := fun k n q1 q2 i => ne_new (show sr_ 25690901 < _ by show 98 < _; omega) q1 q2
    have nX : ∀ k n, k < 64 → n < 4096 → ∀ i, ¬ (25165831 = mk_ (nx_ h + i) k n) := fun k n q1 q2 i => ne_new (show sr_ 25165831 < _ by show 96 < _; omega) q1 q2
    have r1 : ¬ (25690901 = A) := by rw [hA]; exact nR 4 0 (by omega) (by omega) 0
    have r2 : ¬ (25690901 = mk_ (nx_ h + 1) 16 8) := nR 16 8 (by omega) (by omega) 1
    have r3 : ¬ (25690901 = mk_ (nx_ h + 1 + 1) 16 8) := nR 16 8 (by omega) (by omega) 2
    have r4 : ¬ (25690901 = mk_ (nx_ h + 1 + 1 + 1) 16 3) := nR 16 3 (by omega) (by omega) 3
    have x1 : ¬ (25165831 = A) := by rw [hA]; exact nX 4 0 (by omega) (by omega) 0
    have x2 : ¬ (25165831 = mk_ (nx_ h + 1) 16 8) := nX 16 8 (by omega) (by omega) 1
    have x3 : ¬ (25165831 = mk_ (nx_ h + 1 + 1) 16 8) := nX 16 8 (by omega) (by omega) 2
    have x4 : ¬ (25165831 = mk_ (nx_ h + 1 + 1 + 1) 16 3) := nX 16 3 (by omega) (by omega) 3
    have a1 : ∀ s, ¬ (A = mk_ s 16 8) := fun s e => by rw [e, kd_mk (by omega)] at hk0; omega
    have a2 : ∀ s, ¬ (A = mk_ s 16 3) := fun s e => by rw [e, kd_mk (by omega)] at hk0; omega
    have hb : kd_ 25690901 = 20 ∧ ok1_ 0 (some A) = true ∨ kd_ 25690901 = 21 ∧ ok1_ 4 (some A) = true ∨ kd_ 25690901 = 22 ∧ ok1_ 32 (some A) = true := Or.inr (Or.inl ⟨rfl, by unfold ok1_; simp [hk0]⟩)
    obtain ⟨h2, hh2⟩ : ∃ h2, h2 = uR_ (nw_ (uR_ (nw_ (uR_ (nw_ (uI_ (nw_ h 4 0 10) A (st_ (st_ (st_ (st_ (fun _ => 0) 0 mi) 1 ta) 2 st) 3 we)) 16 8 8) A (st_ (fun _ => none) 6 (some (mk_ (nx_ h + 1) 16 8)))) 16 8 8) A (st_ (st_ (fun _ => none) 6 (some (mk_ (nx_ h + 1) 16 8))) 7 (some (mk_ (nx_ h + 1 + 1) 16 8)))) 16 3 3) A (st_ (st_ (st_ (fun _ => none) 6 (some (mk_ (nx_ h + 1) 16 8))) 7 (some (mk_ (nx_ h + 1 + 1) 16 8))) 9 (some (mk_ (nx_ h + 1 + 2) 16 3))) := ⟨_, rfl⟩
    have eX2 : hI_ h2 25165831 = hI_ h 25165831 := by
      rw [hh2]
      simp only [hI_uI, hL_uI, hR_uI, nx_uI, sl_uI, hI_uL, hL_uL, hR_uL, nx_uL, sl_uL, hI_uR, hL_uR, hR_uR, nx_uR, sl_uR, st_eq, if_true, if_false, eq_self, Nat.reduceEqDiff, Nat.reduceMul, reduceIte, kdT, ixT, w_cl, w_ti, w_s1, w_a, w_m12, w_m8, w_m3, w_m4, hI_nw, nx_nw, ← hA, x1, x2, x3, x4]
    have eR2 : hR_ h2 25690901 = hR_ h 25690901 := by
      rw [hh2]
      simp only [hI_uI, hL_uI, hR_uI, nx_uI, sl_uI, hI_uL, hL_uL, hR_uL, nx_uL, sl_uL, hI_uR, hL_uR, hR_uR, nx_uR, sl_uR, st_eq, if_true, if_false, eq_self, Nat.reduceEqDiff, Nat.reduceMul, reduceIte, kdT, ixT, w_cl, w_ti, w_s1, w_a, w_m12, w_m8, w_m3, w_m4, hR_nw, nx_nw, ← hA, r1, r2, r3, r4]
    have f0 : FX_ [25690901] [3] h h2 := by
      rw [hh2]
      have xa : A ≠ 25165831 := fun e => x1 e.symm
      refine FX_.uR (FX_.nw (FX_.uR (FX_.nw (FX_.uR (FX_.nw (FX_.uI (FX_.nw FX_.rf (by omega) (by omega) (by omega)) (Or.inr (by omega)) xa) (by omega) (by omega) (by show 96 < nx_ h + 1; omega)) (Or.inr (by omega)) xa) (by omega) (by omega) (by show 96 < nx_ h + 1 + 1; omega)) (Or.inr (by omega)) xa) (by omega) (by omega) (by show 96 < nx_ h + 1 + 1 + 1; omega)) (Or.inr (by omega)) xa
    have hnx : nx_ h2 = nx_ h + 4 := by rw [hh2]; rfl
    have f2 : FX_ [25690901] [3] h (uI_ (uR_ h2 25690901 (st_ (hR_ h 25690901) (qn_ P) (some A))) 25165831 (st_ (hI_ h 25165831) 3 (Int32.ofNat (qn_ P + 1)))) := by
      rw [← eX2]
      exact (f0.uR (a := 25690901) (Or.inl (by decide)) (by decide)).uX (j := 3) (by decide)
    refine ⟨uI_ (uR_ h2 25690901 (st_ (hR_ h 25690901) (qn_ P) (some A))) 25165831 (st_ (hI_ h 25165831) 3 (Int32.ofNat (qn_ P + 1))), f2, by show nx_ h2 ≤ _; omega, by rw [hh2]; show sl_ h + 10 + 8 + 8 + 3 ≤ _; omega, fun Q => ?_, ?_⟩
    · have ci := fun Q => c_init4 (xs := xs) (d := d - 1) (h := nw_ h 4 0 10) (Q := Q) (a := A) (mi := mi) (ta := ta) (st := st) (we := we) hk0 (by omega)
      simp only [hI_nw, hR_nw, nx_nw, ← hA, if_true, ← hh2] at ci
      simp (disch := first | omega | assumption | decide | (apply bT_; decide)) only [s66_0, s66_1, s66_4, s66_6, s66_9, s66_10, s66_11, s66_14, s66_17, s66_20, s66_21, s66_22, s66_25, s66_28, s66_31, s66_32, s66_33, s66_35, s66_38, s66_41, s66_43, s66_44, s66_46, s66_49, s66_52, s66_53, s66_54, s66_55, s66_58, s66_59, s66_62, s66_65, s66_65i, s66_66, s66_67, s66_68, s66_69, s66_71, s66_74, s66_75, s66_76, s66_76i, s66_77, s66_80, s66_81, s66_82, s66_83, s66_86, K_v, K_0, acI, acA, acJ, acX, List.map_cons, List.map_nil, List.sum_cons, List.sum_nil, true_and, and_true, posT, b2_0, b2_1, bft, true_or, or_true, Nat.zero_le, Nat.reduceAdd, Nat.reduceLeDiff, hI_uI, hL_uI, hR_uI, nx_uI, sl_uI, hI_uL, hL_uL, hR_uL, nx_uL, sl_uL, hI_uR, hL_uR, hR_uR, nx_uR, sl_uR, st_eq, if_true, if_false, eq_self, Nat.reduceEqDiff, Nat.reduceMul, reduceIte, kdT, ixT, w_cl, w_ti, w_s1, w_a, w_m12, w_m8, w_m3, w_m4, hC.x0, hC.x2, hC.x4, hC.x7, hC.x8, hC.x9, hC.x11, hC.f0, hC.f1, hC.f2, hC.p0, hC.p1, hC.p2, hC.p3, hC.l1, hC.l2, hC.l3, hC.l4, hC.d0, hC.d1, hC.d2, hC.g1, hC.g2, hC.g3, hC.g4, hC.k1, hC.k2, hC.k3, hC.k4, g1, c_within, ci, c3, c4, c5, c6, if_pos hlt, ← hA, eX2, eR2, hk0, kd_REP, ln_REP, Bool.true_eq_false]
    · have sn : ∀ i, i < qn_ P → up1_ sp (qn_ P) (nx_ h) i = sp i := fun i hi => by unfold up1_; rw [if_neg (by omega)]
      have sn2 : up1_ sp (qn_ P) (nx_ h) (qn_ P) = nx_ h := by unfold up1_; rw [if_pos rfl]
      have old : ∀ s k n, 164 ≤ s → s < nx_ h → k < 64 → n < 4096 → hI_ (uI_ (uR_ h2 25690901 (st_ (hR_ h 25690901) (qn_ P) (some A))) 25165831 (st_ (hI_ h 25165831) 3 (Int32.ofNat (qn_ P + 1)))) (mk_ s k n) = hI_ h (mk_ s k n) ∧ hR_ (uI_ (uR_ h2 25690901 (st_ (hR_ h 25690901) (qn_ P) (some A))) 25165831 (st_ (hI_ h 25165831) 3 (Int32.ofNat (qn_ P + 1)))) (mk_ s k n) = hR_ h (mk_ s k n) := by
        intro s k n q1 q2 q3 q4
        have hs : sr_ (mk_ s k n) = s := sr_mk q3 q4
        obtain ⟨u1, -, u3⟩ := f2.row (mk_ s k n) (fun e => by rw [e] at hs; have : sr_ 25165831 = 96 := rfl; omega) (fun e => by rw [List.mem_singleton.mp e] at hs; have : sr_ 25690901 = 98 := rfl; omega) (by omega)
        exact ⟨u1, u3⟩
      have vz := v2 (qn_ P) (Nat.le_refl _)
      have xa : ¬ (A = 25165831) := fun e => x1 e.symm
      have ra : ¬ (A = 25690901) := fun e => r1 e.symm
      have hAI : hI_ h2 A = st_ (st_ (st_ (st_ (fun _ => 0) 0 mi) 1 ta) 2 st) 3 we := by
        rw [hh2]; simp only [hI_uI, hL_uI, hR_uI, nx_uI, sl_uI, hI_uL, hL_uL, hR_uL, nx_uL, sl_uL, hI_uR, hL_uR, hR_uR, nx_uR, sl_uR, st_eq, if_true, if_false, eq_self, Nat.reduceEqDiff, Nat.reduceMul, reduceIte, kdT, ixT, w_cl, w_ti, w_s1, w_a, w_m12, w_m8, w_m3, w_m4, hI_nw, nx_nw, a1, a2]
      have hAR : hR_ h2 A = st_ (st_ (st_ (fun _ => none) 6 (some (mk_ (nx_ h + 1) 16 8))) 7 (some (mk_ (nx_ h + 1 + 1) 16 8))) 9 (some (mk_ (nx_ h + 1 + 2) 16 3)) := by
        rw [hh2]; simp only [hI_uI, hL_uI, hR_uI, nx_uI, sl_uI, hI_uL, hL_uL, hR_uL, nx_uL, sl_uL, hI_uR, hL_uR, hR_uR, nx_uR, sl_uR, st_eq, if_true, if_false, eq_self, Nat.reduceEqDiff, Nat.reduceMul, reduceIte, kdT, ixT, w_cl, w_ti, w_s1, w_a, w_m12, w_m8, w_m3, w_m4]
      refine ⟨by simp only [hI_uI, hL_uI, hR_uI, nx_uI, sl_uI, hI_uL, hL_uL, hR_uL, nx_uL, sl_uL, hI_uR, hL_uR, hR_uR, nx_uR, sl_uR, st_eq, if_true, if_false, eq_self, Nat.reduceEqDiff, Nat.reduceMul, reduceIte, kdT, ixT, w_cl, w_ti, w_s1, w_a, w_m12, w_m8, w_m3, w_m4]; rfl, ⟨by show qn_ P + 1 ≤ 12; omega, fun p hp => v2 p (by have : qn_ P + 1 ≤ p := hp; omega), v3, v4⟩, fun i hi => ?_, fun i q1 q2 => ?_, fun i j hi hj => ?_, fun i hi => ?_, fun i r hi hr => ?_, fun i r hi hr => ?_, fun i j q1 q2 => ?_⟩
      · have hi9 : i < qn_ P + 1 := hi
        by_cases q : i = qn_ P
        · subst q
          rw [sn2, ← hA]
          refine ⟨?_, h0, by show _ < nx_ h2; omega, ?_, ?_, ?_⟩
          · simp only [hI_uI, hL_uI, hR_uI, nx_uI, sl_uI, hI_uL, hL_uL, hR_uL, nx_uL, sl_uL, hI_uR, hL_uR, hR_uR, nx_uR, sl_uR, st_eq, if_true, if_false, eq_self, Nat.reduceEqDiff, Nat.reduceMul, reduceIte, kdT, ixT, w_cl, w_ti, w_s1, w_a, w_m12, w_m8, w_m3, w_m4]
          · simp only [hI_uI, hL_uI, hR_uI, nx_uI, sl_uI, hI_uL, hL_uL, hR_uL, nx_uL, sl_uL, hI_uR, hL_uR, hR_uR, nx_uR, sl_uR, st_eq, if_true, if_false, eq_self, Nat.reduceEqDiff, Nat.reduceMul, reduceIte, kdT, ixT, w_cl, w_ti, w_s1, w_a, w_m12, w_m8, w_m3, w_m4, ra, hAR]
          · simp only [hI_uI, hL_uI, hR_uI, nx_uI, sl_uI, hI_uL, hL_uL, hR_uL, nx_uL, sl_uL, hI_uR, hL_uR, hR_uR, nx_uR, sl_uR, st_eq, if_true, if_false, eq_self, Nat.reduceEqDiff, Nat.reduceMul, reduceIte, kdT, ixT, w_cl, w_ti, w_s1, w_a, w_m12, w_m8, w_m3, w_m4, ra, hAR]
          · simp only [hI_uI, hL_uI, hR_uI, nx_uI, sl_uI, hI_uL, hL_uL, hR_uL, nx_uL, sl_uL, hI_uR, hL_uR, hR_uR, nx_uR, sl_uR, st_eq, if_true, if_false, eq_self, Nat.reduceEqDiff, Nat.reduceMul, reduceIte, kdT, ixT, w_cl, w_ti, w_s1, w_a, w_m12, w_m8, w_m3, w_m4, ra, hAR]
        · have hi' : i < qn_ P := by omega
          obtain ⟨u1, u2, u3, u4, u5, u6⟩ := g3 i hi'
          rw [sn i hi', (old (sp i) 4 0 u2 (by omega) (by omega) (by omega)).2]
          refine ⟨?_, u2, by show _ < nx_ h2; omega, u4, u5, u6⟩
          simp only [hI_uI, hL_uI, hR_uI, nx_uI, sl_uI, hI_uL, hL_uL, hR_uL, nx_uL, sl_uL, hI_uR, hL_uR, hR_uR, nx_uR, sl_uR, st_eq, if_true, if_false, eq_self, Nat.reduceEqDiff, Nat.reduceMul, reduceIte, kdT, ixT, w_cl, w_ti, w_s1, w_a, w_m12, w_m8, w_m3, w_m4, if_neg q]; exact u1
      · have q1' : qn_ P + 1 ≤ i := q1
        simp only [hI_uI, hL_uI, hR_uI, nx_uI, sl_uI, hI_uL, hL_uL, hR_uL, nx_uL, sl_uL, hI_uR, hL_uR, hR_uR, nx_uR, sl_uR, st_eq, if_true, if_false, eq_self, Nat.reduceEqDiff, Nat.reduceMul, reduceIte, kdT, ixT, w_cl, w_ti, w_s1, w_a, w_m12, w_m8, w_m3, w_m4, if_neg (show ¬ i = qn_ P by omega)]; exact g4 i (by omega) q2
      · have hi9 : i < qn_ P + 1 := hi
        show _ = upF_ (qf_ P) (qn_ P) (fp_ mi ta st we) i j
        by_cases q : i = qn_ P
        · subst q
          rw [sn2, ← hA]
          simp only [hI_uI, hL_uI, hR_uI, nx_uI, sl_uI, hI_uL, hL_uL, hR_uL, nx_uL, sl_uL, hI_uR, hL_uR, hR_uR, nx_uR, sl_uR, st_eq, if_true, if_false, eq_self, Nat.reduceEqDiff, Nat.reduceMul, reduceIte, kdT, ixT, w_cl, w_ti, w_s1, w_a, w_m12, w_m8, w_m3, w_m4, xa, hAI, upF_, fp_]
          match j, hj with
          | 0, _ => rfl
          | 1, _ => rfl
          | 2, _ => rfl
          | 3, _ => rfl
        · have hi' : i < qn_ P := by omega
          obtain ⟨u1, u2, u3, -⟩ := g3 i hi'
          rw [sn i hi', (old (sp i) 4 0 u2 (by omega) (by omega) (by omega)).1]
          unfold upF_
          rw [if_neg q]
          exact g5 i j hi' hj
      · have hi9 : i < qn_ P + 1 := hi
        show _ = Int32.ofNat (qr_ P i) ∧ _ = Int32.ofNat (msk_ (qd_ P i) (qr_ P i)) ∧ _ = Int32.ofNat (qb_ P i)
        by_cases q : i = qn_ P
        · subst q
          rw [sn2, ← hA, vz.1, vz.2]
          simp only [hI_uI, hL_uI, hR_uI, nx_uI, sl_uI, hI_uL, hL_uL, hR_uL, nx_uL, sl_uL, hI_uR, hL_uR, hR_uR, nx_uR, sl_uR, st_eq, if_true, if_false, eq_self, Nat.reduceEqDiff, Nat.reduceMul, reduceIte, kdT, ixT, w_cl, w_ti, w_s1, w_a, w_m12, w_m8, w_m3, w_m4, xa, hAI]
          exact ⟨rfl, rfl, rfl⟩
        · have hi' : i < qn_ P := by omega
          obtain ⟨u1, u2, u3, -⟩ := g3 i hi'
          rw [sn i hi', (old (sp i) 4 0 u2 (by omega) (by omega) (by omega)).1]
          exact g6 i hi'
      · have hi9 : i < qn_ P + 1 := hi
        have hr' : r < qr_ P i := hr
        have hi' : i < qn_ P := by
          by_cases q : i = qn_ P
          · subst q; omega
          · omega
        obtain ⟨u1, u2, u3, -⟩ := g3 i hi'
        rw [sn i hi', (old (sp i + 1) 16 8 (by omega) (by omega) (by omega) (by omega)).1, (old (sp i + 2) 16 8 (by omega) (by omega) (by omega) (by omega)).1]
        exact g7 i r hi' hr'
      · have hi9 : i < qn_ P + 1 := hi
        have hr' : r < qb_ P i := hr
        have hi' : i < qn_ P := by
          by_cases q : i = qn_ P
          · subst q; omega
          · omega
        obtain ⟨u1, u2, u3, -⟩ := g3 i hi'
        rw [sn i hi', (old (sp i + 3) 16 3 (by omega) (by omega) (by omega) (by omega)).1]
        exact g8 i r hi' hr'
      · have q2' : j < qn_ P + 1 := q2
        rw [sn i (by omega)]
        by_cases q : j = qn_ P
        · subst q
          rw [sn2]
          have := (g3 i q1).2.2.1
          omega
        · rw [sn j (by omega)]
          exact g9 i j q1 (by omega)
  · simp only [if_neg c]
    refine ⟨h, FX_.rf, by omega, by omega, fun Q => ?_, hP⟩
    simp (disch := first | omega | assumption | decide | (apply bT_; decide)) only [s66_0, s66_1, s66_4, s66_6, s66_9, s66_10, s66_11, s66_14, s66_17, s66_20, s66_21, s66_22, s66_25, s66_28, s66_31, s66_32, s66_33, s66_35, s66_38, s66_41, s66_43, s66_44, s66_46, s66_49, s66_52, s66_53, s66_55, s66_58, s66_59, s66_62, s66_65, s66_65i, s66_66, s66_67, s66_68, s66_69, s66_71, s66_74, s66_75, s66_76, s66_76i, s66_77, s66_80, s66_81, s66_82, s66_83, s66_86, K_v, K_0, acI, acA, acJ, acX, List.map_cons, List.map_nil, List.sum_cons, List.sum_nil, true_and, and_true, posT, b2_0, b2_1, bft, true_or, or_true, Nat.zero_le, Nat.reduceAdd, Nat.reduceLeDiff, hI_uI, hL_uI, hR_uI, nx_uI, sl_uI, hI_uL, hL_uL, hR_uL, nx_uL, sl_uL, hI_uR, hL_uR, hR_uR, nx_uR, sl_uR, st_eq, if_true, if_false, eq_self, Nat.reduceEqDiff, Nat.reduceMul, reduceIte, kdT, ixT, w_cl, w_ti, w_s1, w_a, w_m12, w_m8, w_m3, w_m4, g1, c_within, w12]
    by_cases q1 : qn_ P < 12
    · rw [if_pos q1]
      unfold okP_t at c
      rw [Bool.and_eq_true, Bool.and_eq_true, Bool.and_eq_true] at c
      by_cases q2 : wi_ mi 1 240 = false
      · rw [if_pos q2]
      · rw [if_neg q2]
        by_cases q3 : wi_ ta 0 1000 = false
        · rw [if_pos q3]
        · rw [if_neg q3]
          by_cases q4 : wi_ st 0 11 = false
          · rw [if_pos q4]
          · rw [if_neg q4]
            by_cases q5 : wi_ we 0 30 = false
            · rw [if_pos q5]
            · exact absurd ⟨q1, by simpa using q2, by simpa using q3, by simpa using q4, by simpa using q5⟩ c
    · rw [if_neg q1]
/-- a write into a play's cells leaves the others -/
theorem sp_ne {i j a b : Nat} {k n k' n' : Nat} (hP : CP_ P sp h) (hi : i < qn_ P) (hj : j < qn_ P) (hij : i ≠ j) (ha : a < 4) (hb : b < 4) (hk : k < 64) (hn : n < 4096) (hk' : k' < 64) (hn' : n' < 4096) : ¬ (mk_ (sp i + a) k n = mk_ (sp j + b) k' n') := fun e => by
  have h1 := mk_ser hk hn hk' hn' e
  rcases Nat.lt_or_gt_of_ne hij with h2 | h2
  · have := hP.2.2.2.2.2.2.2.2 i j h2 hj; omega
  · have := hP.2.2.2.2.2.2.2.2 j i h2 hi; omega
theorem CP_.upd {i : Nat} {P' : PS} {h' : AH} (hP : CP_ P sp h) (hi : i < qn_ P) (f : FX_ [mk_ (sp i) 4 0, mk_ (sp i + 1) 16 8, mk_ (sp i + 2) 16 8, mk_ (sp i + 3) 16 3] [] h h') (hR : ∀ a, hR_ h' a = hR_ h a) (hV : PV_ P') (e1 : qn_ P' = qn_ P) (e2 : qf_ P' = qf_ P)
    (eo : ∀ q, q ≠ i → qr_ P' q = qr_ P q ∧ qd_ P' q = qd_ P q ∧ qk_ P' q = qk_ P q ∧ ql_ P' q = ql_ P q ∧ qb_ P' q = qb_ P q ∧ qt_ P' q = qt_ P q)
    (n1 : ∀ j, j < 4 → hI_ h' (mk_ (sp i) 4 0) j = hI_ h (mk_ (sp i) 4 0) j) (n4 : hI_ h' (mk_ (sp i) 4 0) 4 = Int32.ofNat (qr_ P' i)) (n5 : hI_ h' (mk_ (sp i) 4 0) 5 = Int32.ofNat (msk_ (qd_ P' i) (qr_ P' i))) (n8 : hI_ h' (mk_ (sp i) 4 0) 8 = Int32.ofNat (qb_ P' i))
    (nk : ∀ r, r < qr_ P' i → hI_ h' (mk_ (sp i + 1) 16 8) r = qk_ P' i r ∧ hI_ h' (mk_ (sp i + 2) 16 8) r = ql_ P' i r) (nt : ∀ j, j < qb_ P' i → hI_ h' (mk_ (sp i + 3) 16 3) j = qt_ P' i j) : CP_ P' sp h' := by
  obtain ⟨g1, -, g3, g4, g5, g6, g7, g8, g9⟩ := id hP
  have oth : ∀ q, q < qn_ P → q ≠ i → ∀ a k n, a < 4 → k < 64 → n < 4096 → hI_ h' (mk_ (sp q + a) k n) = hI_ h (mk_ (sp q + a) k n) := by
    intro q hq hqi a k n ha hk hn
    obtain ⟨u1, u2, u3, -⟩ := g3 q hq
    have hs : sr_ (mk_ (sp q + a) k n) = sp q + a := sr_mk hk hn
    refine (f.row _ (fun e => ?_) (fun e => ?_) (by omega)).1
    · rw [e] at hs; have : sr_ 25165831 = 96 := rfl; omega
    · rcases List.mem_cons.mp e with e | e
      · exact sp_ne (a := a) (b := 0) hP hq hi hqi ha (by omega) hk hn (by omega) (by omega) e
      rcases List.mem_cons.mp e with e | e
      · exact sp_ne (a := a) (b := 1) hP hq hi hqi ha (by omega) hk hn (by omega) (by omega) e
      rcases List.mem_cons.mp e with e | e
      · exact sp_ne (a := a) (b := 2) hP hq hi hqi ha (by omega) hk hn (by omega) (by omega) e
      rcases List.mem_cons.mp e with e | e
      · exact sp_ne (a := a) (b := 3) hP hq hi hqi ha (by omega) hk hn (by omega) (by omega) e
      · cases e
  have oth0 : ∀ q, q < qn_ P → q ≠ i → hI_ h' (mk_ (sp q) 4 0) = hI_ h (mk_ (sp q) 4 0) := fun q hq hqi => oth q hq hqi 0 4 0 (by omega) (by omega) (by omega)
  refine ⟨by rw [f.2.1 3 (by decide), e1]; exact g1, hV, fun q hq => ?_, fun q q1 q2 => by rw [hR]; exact g4 q (by omega) q2, fun q j hq hj => ?_, fun q hq => ?_, fun q r hq hr => ?_, fun q j hq hj => ?_, fun p q q1 q2 => g9 p q q1 (by omega)⟩
  · rw [hR, hR]
    obtain ⟨u1, u2, u3, u4⟩ := g3 q (by omega)
    have := f.2.2.2.2
    exact ⟨u1, u2, by omega, u4⟩
  · rw [e2]
    by_cases q1 : q = i
    · subst q1; rw [n1 j hj]; exact g5 q j hi hj
    · rw [oth0 q (by omega) q1]; exact g5 q j (by omega) hj
  · by_cases q1 : q = i
    · subst q1; exact ⟨n4, n5, n8⟩
    · obtain ⟨o1, o2, o3, o4, o5, o6⟩ := eo q q1
      rw [oth0 q (by omega) q1, o1, o2, o5]; exact g6 q (by omega)
  · by_cases q1 : q = i
    · subst q1; exact nk r hr
    · obtain ⟨o1, o2, o3, o4, o5, o6⟩ := eo q q1
      rw [oth q (by omega) q1 1 16 8 (by omega) (by omega) (by omega), oth q (by omega) q1 2 16 8 (by omega) (by omega) (by omega), o3, o4]
      rw [o1] at hr
      exact g7 q r (by omega) hr
  · by_cases q1 : q = i
    · subst q1; exact nt j hj
    · obtain ⟨o1, o2, o3, o4, o5, o6⟩ := eo q q1
      rw [oth q (by omega) q1 3 16 3 (by omega) (by omega) (by omega), o6]
      rw [o5] at hj
      exact g8 q j (by omega) hj
theorem c_addRole {i : Nat} {k g ne : Int32} (hP : CP_ P sp h) (hi : i < qn_ P) (hne : ne = 0 ∨ ne = 1) : ∃ h', FX_ [mk_ (sp i) 4 0, mk_ (sp i + 1) 16 8, mk_ (sp i + 2) 16 8, mk_ (sp i + 3) 16 3] [] h h' ∧ nx_ h' = nx_ h ∧ sl_ h' = sl_ h ∧
    (if qr_ P i < 8 then Do_ xs d 33 [vA (some (mk_ (sp i) 4 0)), vI k, vI g, vI ne] h (some (some (vI (Int32.ofNat (qr_ P i))))) h' ∧ CP_ (addR_ P i k g ne) sp h'
     else Do_ xs d 33 [vA (some (mk_ (sp i) 4 0)), vI k, vI g, vI ne] h (some (some (vI (-1)))) h' ∧ CP_ P sp h') := by
  obtain ⟨g1, ⟨v1, v2, v3, v4⟩, g3, g4, g5, g6, g7, g8, g9⟩ := id hP
  obtain ⟨u1, u2, u3, u4, u5, u6⟩ := g3 i hi
  obtain ⟨t1, t2, t3⟩ := g6 i hi
  have hk0 : kd_ (mk_ (sp i) 4 0) = 4 := kd_mk (by omega)
  have hk1 : kd_ (mk_ (sp i + 1) 16 8) = 16 := kd_mk (by omega)
  have hk2 : kd_ (mk_ (sp i + 2) 16 8) = 16 := kd_mk (by omega)
  have hl1 : ln_ (mk_ (sp i + 1) 16 8) = 8 := ln_mk (by omega) (by omega)
  have hl2 : ln_ (mk_ (sp i + 2) 16 8) = 8 := ln_mk (by omega) (by omega)
  by_cases c : qr_ P i < 8
  · simp only [if_pos c]
    have n1 : ¬ (mk_ (sp i) 4 0 = mk_ (sp i + 1) 16 8) := fun e => by have := mk_ser (by omega) (by omega) (by omega) (by omega) e; omega
    have n2 : ¬ (mk_ (sp i) 4 0 = mk_ (sp i + 2) 16 8) := fun e => by have := mk_ser (by omega) (by omega) (by omega) (by omega) e; omega
    have n3 : ¬ (mk_ (sp i + 2) 16 8 = mk_ (sp i + 1) 16 8) := fun e => by have := mk_ser (by omega) (by omega) (by omega) (by omega) e; omega
    have n3' : ¬ (mk_ (sp i + 1) 16 8 = mk_ (sp i + 2) 16 8) := fun e => n3 e.symm
    have n1' : ¬ (mk_ (sp i + 1) 16 8 = mk_ (sp i) 4 0) := fun e => n1 e.symm
    have n2' : ¬ (mk_ (sp i + 2) 16 8 = mk_ (sp i) 4 0) := fun e => n2 e.symm
    have m1 : ¬ (mk_ (sp i + 3) 16 3 = mk_ (sp i) 4 0) := fun e => by have := mk_ser (by omega) (by omega) (by omega) (by omega) e; omega
    have m2 : ¬ (mk_ (sp i + 3) 16 3 = mk_ (sp i + 2) 16 8) := fun e => by have := mk_ser (by omega) (by omega) (by omega) (by omega) e; omega
    have m3 : ¬ (mk_ (sp i + 3) 16 3 = mk_ (sp i + 1) 16 8) := fun e => by have := mk_ser (by omega) (by omega) (by omega) (by omega) e; omega
    have hlt : Int32.ofNat (qr_ P i) < 8 := (w8 (by omega)).mpr c
    have hsh := w_shl (qr_ P i) (by omega)
    have hor : Int32.ofNat (msk_ (qd_ P i) (qr_ P i)) ||| Int32.ofNat (2 ^ qr_ P i) = Int32.ofNat (msk_ (qd_ P i) (qr_ P i) + 2 ^ qr_ P i) := by rw [w_or, or_pow msk_lt]
    have eu : qr_ (addR_ P i k g ne) i = qr_ P i + 1 := by show up1_ _ _ _ _ = _; unfold up1_; rw [if_pos rfl]
    have ed : ∀ r, qd_ (addR_ P i k g ne) i r = if r = qr_ P i then decide (ne = 1) else qd_ P i r := fun r => by
      show up2_ _ _ _ _ _ _ = _
      unfold up2_
      by_cases q : r = qr_ P i
      · rw [if_pos ⟨rfl, q⟩, if_pos q]
      · rw [if_neg (fun z => q z.2), if_neg q]
    obtain ⟨mv, hmv⟩ : ∃ mv : Nat, mv = msk_ (qd_ (addR_ P i k g ne) i) (qr_ P i + 1) := ⟨_, rfl⟩
    have hmv2 : mv = msk_ (qd_ P i) (qr_ P i) + (if ne = 1 then 2 ^ qr_ P i else 0) := by
      rw [hmv]
      show msk_ (qd_ (addR_ P i k g ne) i) (qr_ P i) + (if qd_ (addR_ P i k g ne) i (qr_ P i) = true then 2 ^ qr_ P i else 0) = _
      rw [msk_congr (g := qd_ P i) (fun r hr => by rw [ed r, if_neg (by omega)]), ed, if_pos rfl]
      by_cases q : ne = 1
      · rw [if_pos q, if_pos (by rw [q]; rfl)]
      · rw [if_neg q, if_neg (by rw [decide_eq_true_iff]; exact q)]
    have hX : ∀ a k n, k < 64 → n < 4096 → mk_ (sp i + a) k n ≠ 25165831 := fun a k n q1 q2 e => ne_new (show sr_ 25165831 < sp i + a by show 96 < _; omega) q1 q2 e.symm
    have fr : FX_ [mk_ (sp i) 4 0, mk_ (sp i + 1) 16 8, mk_ (sp i + 2) 16 8, mk_ (sp i + 3) 16 3] [] h (uI_ (uI_ (uI_ h (mk_ (sp i + 1) 16 8) (st_ (hI_ h (mk_ (sp i + 1) 16 8)) (qr_ P i) (1 <<< (k &&& 31)))) (mk_ (sp i + 2) 16 8) (st_ (hI_ h (mk_ (sp i + 2) 16 8)) (qr_ P i) g)) (mk_ (sp i) 4 0) (st_ (st_ (hI_ h (mk_ (sp i) 4 0)) 5 (Int32.ofNat mv)) 4 (Int32.ofNat (qr_ P i + 1)))) :=
      ((FX_.rf.uI (Or.inl (by simp)) (hX 1 16 8 (by omega) (by omega))).uI (Or.inl (by simp)) (hX 2 16 8 (by omega) (by omega))).uI (Or.inl (by simp)) (hX 0 4 0 (by omega) (by omega))
    refine ⟨_, fr, rfl, rfl, fun Q => ?_, ?_⟩
    · have e5 : (ne = 1 → Int32.ofNat mv = Int32.ofNat (msk_ (qd_ P i) (qr_ P i) + 2 ^ qr_ P i)) ∧ (ne = 0 → Int32.ofNat mv = Int32.ofNat (msk_ (qd_ P i) (qr_ P i))) := ⟨fun q => by rw [hmv2, if_pos q], fun q => by rw [hmv2, if_neg (by rw [q]; decide), Nat.add_zero]⟩
      rcases hne with rfl | rfl
      · have e6 : st_ (hI_ h (mk_ (sp i) 4 0)) 4 (Int32.ofNat (qr_ P i + 1)) = st_ (st_ (hI_ h (mk_ (sp i) 4 0)) 5 (Int32.ofNat mv)) 4 (Int32.ofNat (qr_ P i + 1)) := by
          funext j
          simp only [st_eq]
          by_cases q : j = 4
          · rw [if_pos q, if_pos q]
          · rw [if_neg q, if_neg q]
            by_cases q5 : j = 5
            · rw [if_pos q5, q5, t2, e5.2 rfl]
            · rw [if_neg q5]
        simp (disch := first | omega | assumption | decide | (apply bT_; decide)) only [s33_0, s33_1, s33_4, s33_6, s33_9, s33_10, s33_11, s33_12, s33_15, s33_16, s33_19, s33_20, s33_21, s33_22, s33_23, s33_24, s33_27, s33_28, s33_31, s33_32, s33_33, s33_34, s33_37, s33_38, s33_38i, s33_39, s33_42, s33_43, s33_44, s33_47, s33_48, s33_49, s33_52, s33_53, s33_53i, s33_54, s33_57, s33_58, s33_59, s33_60, s33_63, K_v, K_0, acI, acA, acJ, acX, List.map_cons, List.map_nil, List.sum_cons, List.sum_nil, true_and, and_true, posT, b2_0, b2_1, bft, true_or, or_true, Nat.zero_le, Nat.reduceAdd, Nat.reduceLeDiff, hI_uI, hL_uI, hR_uI, nx_uI, sl_uI, hI_uL, hL_uL, hR_uL, nx_uL, sl_uL, hI_uR, hL_uR, hR_uR, nx_uR, sl_uR, st_eq, if_true, if_false, eq_self, Nat.reduceEqDiff, Nat.reduceMul, reduceIte, kdT, ixT, w_cl, w_ti, w_s1, w_a, w_m12, w_m8, w_m3, w_m4, t1, t2, u4, u5, hk0, hl1, hl2, n1, n2, n3, n1', n2', n3', if_pos hlt]
        rw [e6]
      · simp (disch := first | omega | assumption | decide | (apply bT_; decide)) only [s33_0, s33_1, s33_4, s33_6, s33_9, s33_10, s33_11, s33_12, s33_15, s33_16, s33_19, s33_20, s33_21, s33_22, s33_23, s33_24, s33_27, s33_28, s33_31, s33_32, s33_33, s33_34, s33_37, s33_38, s33_38i, s33_39, s33_42, s33_43, s33_44, s33_47, s33_48, s33_49, s33_52, s33_53, s33_53i, s33_54, s33_57, s33_58, s33_59, s33_60, s33_63, K_v, K_0, acI, acA, acJ, acX, List.map_cons, List.map_nil, List.sum_cons, List.sum_nil, true_and, and_true, posT, b2_0, b2_1, bft, true_or, or_true, Nat.zero_le, Nat.reduceAdd, Nat.reduceLeDiff, hI_uI, hL_uI, hR_uI, nx_uI, sl_uI, hI_uL, hL_uL, hR_uL, nx_uL, sl_uL, hI_uR, hL_uR, hR_uR, nx_uR, sl_uR, st_eq, if_true, if_false, eq_self, Nat.reduceEqDiff, Nat.reduceMul, reduceIte, kdT, ixT, w_cl, w_ti, w_s1, w_a, w_m12, w_m8, w_m3, w_m4, t1, t2, u4, u5, hk0, hl1, hl2, n1, n2, n3, n1', n2', n3', if_pos hlt, hsh, hor, uI_uI, show ¬ ((1 : Int32) = 0) by decide]
        rw [e5.1 rfl]
    · refine hP.upd hi fr (fun _ => rfl) ⟨v1, fun q hq => ?_, fun q => ?_, v4⟩ rfl rfl (fun q hq => ?_) (fun j hj => ?_) ?_ ?_ ?_ (fun r hr => ?_) (fun j hj => ?_)
      · have hq' : qn_ P ≤ q := hq
        show up1_ (qr_ P) i (qr_ P i + 1) q = 0 ∧ _
        unfold up1_
        rw [if_neg (by omega)]
        exact v2 q hq'
      · show up1_ (qr_ P) i (qr_ P i + 1) q ≤ 8
        unfold up1_
        split
        · omega
        · exact v3 q
      · refine ⟨?_, ?_, ?_, ?_, rfl, rfl⟩
        · show up1_ _ _ _ _ = _; unfold up1_; rw [if_neg hq]
        · show up2_ _ _ _ _ _ = _; funext r; unfold up2_; rw [if_neg (fun z => hq z.1)]
        · show up2_ _ _ _ _ _ = _; funext r; unfold up2_; rw [if_neg (fun z => hq z.1)]
        · show up2_ _ _ _ _ _ = _; funext r; unfold up2_; rw [if_neg (fun z => hq z.1)]
      · simp only [hI_uI, hL_uI, hR_uI, nx_uI, sl_uI, hI_uL, hL_uL, hR_uL, nx_uL, sl_uL, hI_uR, hL_uR, hR_uR, nx_uR, sl_uR, st_eq, if_true, if_false, eq_self, Nat.reduceEqDiff, Nat.reduceMul, reduceIte, kdT, ixT, w_cl, w_ti, w_s1, w_a, w_m12, w_m8, w_m3, w_m4, if_neg (show ¬ j = 4 by omega), if_neg (show ¬ j = 5 by omega)]
      · rw [eu]; simp only [hI_uI, hL_uI, hR_uI, nx_uI, sl_uI, hI_uL, hL_uL, hR_uL, nx_uL, sl_uL, hI_uR, hL_uR, hR_uR, nx_uR, sl_uR, st_eq, if_true, if_false, eq_self, Nat.reduceEqDiff, Nat.reduceMul, reduceIte, kdT, ixT, w_cl, w_ti, w_s1, w_a, w_m12, w_m8, w_m3, w_m4]
      · rw [eu, ← hmv]; simp only [hI_uI, hL_uI, hR_uI, nx_uI, sl_uI, hI_uL, hL_uL, hR_uL, nx_uL, sl_uL, hI_uR, hL_uR, hR_uR, nx_uR, sl_uR, st_eq, if_true, if_false, eq_self, Nat.reduceEqDiff, Nat.reduceMul, reduceIte, kdT, ixT, w_cl, w_ti, w_s1, w_a, w_m12, w_m8, w_m3, w_m4]
      · simp only [hI_uI, hL_uI, hR_uI, nx_uI, sl_uI, hI_uL, hL_uL, hR_uL, nx_uL, sl_uL, hI_uR, hL_uR, hR_uR, nx_uR, sl_uR, st_eq, if_true, if_false, eq_self, Nat.reduceEqDiff, Nat.reduceMul, reduceIte, kdT, ixT, w_cl, w_ti, w_s1, w_a, w_m12, w_m8, w_m3, w_m4]; exact t3
      · rw [eu] at hr
        show _ = up2_ (qk_ P) i (qr_ P i) (1 <<< (k &&& 31)) i r ∧ _ = up2_ (ql_ P) i (qr_ P i) g i r
        unfold up2_
        simp only [hI_uI, hL_uI, hR_uI, nx_uI, sl_uI, hI_uL, hL_uL, hR_uL, nx_uL, sl_uL, hI_uR, hL_uR, hR_uR, nx_uR, sl_uR, st_eq, if_true, if_false, eq_self, Nat.reduceEqDiff, Nat.reduceMul, reduceIte, kdT, ixT, w_cl, w_ti, w_s1, w_a, w_m12, w_m8, w_m3, w_m4, n1', n2', n3', n3, true_and]
        by_cases q2 : r = qr_ P i
        · simp only [if_pos q2, true_and]
        · simp only [if_neg q2]
          exact g7 i r hi (by omega)
      · simp only [hI_uI, hL_uI, hR_uI, nx_uI, sl_uI, hI_uL, hL_uL, hR_uL, nx_uL, sl_uL, hI_uR, hL_uR, hR_uR, nx_uR, sl_uR, st_eq, if_true, if_false, eq_self, Nat.reduceEqDiff, Nat.reduceMul, reduceIte, kdT, ixT, w_cl, w_ti, w_s1, w_a, w_m12, w_m8, w_m3, w_m4, m1, m2, m3]
        exact g8 i j hi hj
  · simp only [if_neg c]
    have hlt : ¬ (Int32.ofNat (qr_ P i) < 8) := by rw [w8 (by have := v3 i; omega)]; exact c
    refine ⟨h, FX_.rf, rfl, rfl, fun Q => ?_, hP⟩
    simp (disch := first | omega | assumption | decide | (apply bT_; decide)) only [s33_0, s33_1, s33_4, s33_6, s33_9, s33_10, s33_12, s33_15, s33_16, s33_19, s33_20, s33_21, s33_22, s33_23, s33_24, s33_27, s33_28, s33_31, s33_32, s33_33, s33_34, s33_37, s33_38, s33_38i, s33_39, s33_42, s33_43, s33_44, s33_47, s33_48, s33_49, s33_52, s33_53, s33_53i, s33_54, s33_57, s33_58, s33_59, s33_60, s33_63, K_v, K_0, acI, acA, acJ, acX, List.map_cons, List.map_nil, List.sum_cons, List.sum_nil, true_and, and_true, posT, b2_0, b2_1, bft, true_or, or_true, Nat.zero_le, Nat.reduceAdd, Nat.reduceLeDiff, hI_uI, hL_uI, hR_uI, nx_uI, sl_uI, hI_uL, hL_uL, hR_uL, nx_uL, sl_uL, hI_uR, hL_uR, hR_uR, nx_uR, sl_uR, st_eq, if_true, if_false, eq_self, Nat.reduceEqDiff, Nat.reduceMul, reduceIte, kdT, ixT, w_cl, w_ti, w_s1, w_a, w_m12, w_m8, w_m3, w_m4, t1, hk0, if_neg hlt]
end CPB
