/-! a search that ends a method -/
def an_ (c : Nat → Bool) : Nat → Nat → Bool
  | 0, _ => false
  | k + 1, i => c i || an_ c k (i + 1)
theorem an_iff {c : Nat → Bool} : ∀ {k i : Nat}, an_ c k i = true ↔ ∃ j, i ≤ j ∧ j < i + k ∧ c j = true := by
  intro k
  induction k with
  | zero => intro i; constructor
            · intro h; cases h
            · rintro ⟨j, h1, h2, -⟩; omega
  | succ k ih =>
    intro i
    show (c i || an_ c k (i + 1)) = true ↔ _
    rw [Bool.or_eq_true, ih]
    constructor
    · rintro (h | ⟨j, h1, h2, h3⟩)
      · exact ⟨i, by omega, by omega, h⟩
      · exact ⟨j, by omega, by omega, h3⟩
    · rintro ⟨j, h1, h2, h3⟩
      by_cases q : j = i
      · exact Or.inl (q ▸ h3)
      · exact Or.inr ⟨j, by omega, by omega, h3⟩
theorem loopE_ {P : Nat → Prop} {R : Prop} {c : Nat → Bool} {n : Nat} (hs : ∀ i, i < n → (P i ↔ if c i = true then R else P (i + 1))) : ∀ (k i : Nat), i + k = n → (P i ↔ if an_ c k i = true then R else P n) := by
  intro k
  induction k with
  | zero =>
    intro i hk
    have : i = n := by omega
    subst this
    show P i ↔ if false = true then R else P i
    rw [if_neg (by decide)]
  | succ k ih =>
    intro i hk
    rw [hs i (by omega), ih (i + 1) (by omega)]
    show _ ↔ if (c i || an_ c k (i + 1)) = true then R else P n
    cases hc : c i
    · rw [if_neg (by decide), Bool.false_or]
    · rw [if_pos rfl, Bool.true_or, if_pos rfl]
theorem an_congr {c c' : Nat → Bool} : ∀ {k i : Nat}, (∀ j, i ≤ j → j < i + k → c j = c' j) → an_ c k i = an_ c' k i := by
  intro k
  induction k with
  | zero => intro i _; rfl
  | succ k ih =>
    intro i h
    show (c i || an_ c k (i + 1)) = (c' i || an_ c' k (i + 1))
    rw [h i (by omega) (by omega), ih (fun j h1 h2 => h j (by omega) (by omega))]
section MPB
variable {xs : Nat → Int32} {d : Nat} {h : AH} {P : PS} {Q : OU_ → AH → Prop} {na : Nat} {F G : Nat → Nat → Int32}
def okR_ (P : PS) (p k g : Int32) : Bool := decide (0 ≤ p.toInt ∧ p.toInt < qn_ P ∧ qr_ P p.toNatClampNeg < 8) && (wi_ k 0 11 && wi_ g 1 9)
def addR_ (P : PS) (p : Nat) (k g ne : Int32) : PS := (qn_ P, qf_ P, up1_ (qr_ P) p (qr_ P p + 1), up2_ (qk_ P) p (qr_ P p) (1 <<< (k &&& 31)), up2_ (ql_ P) p (qr_ P p) g, up2_ (qd_ P) p (qr_ P p) (decide (ne = 1)), qb_ P, qt_ P)
theorem m_role {p k g ne : Int32} (hM : MS_ h) (hP : MP_ P h) (hne : ne = 0 ∨ ne = 1) (hd : 2 ≤ d) : ∃ h', FM_ [36438800, 36706320, 36968464, 37230610] [0] h h' ∧ hI_ h' 33554440 0 = 0 ∧
    (if okR_ P p k g = true then Do_ xs d 116 [vA (some 33554440), vI p, vI k, vI g, vI ne, vX 0] h (some (some (vI (Int32.ofNat (qr_ P p.toNatClampNeg))))) h' ∧ MP_ (addR_ P p.toNatClampNeg k g ne) h'
     else Do_ xs d 116 [vA (some 33554440), vI p, vI k, vI g, vI ne, vX 0] h (some (some (vI (-1)))) h' ∧ MP_ P h') := by
  obtain ⟨e1, ⟨e2, e8, e9, e10⟩, e3, e4, e5, e6⟩ := id hP
  have hb1 : kd_ 37230610 = 17 ∧ nb_ 4 ne = true ∨ kd_ 37230610 = 18 ∧ nb_ 3 ne = true := Or.inr ⟨rfl, nb_3.mpr hne⟩
  have hP0 : MP_ P (uI_ h 33554440 (st_ (hI_ h 33554440) 0 0)) := hP.u0
  by_cases c : okR_ P p k g = true
  · simp only [if_pos c]
    unfold okR_ at c
    rw [Bool.and_eq_true, Bool.and_eq_true, decide_eq_true_iff] at c
    obtain ⟨⟨c1, c2, c3⟩, c4, c5⟩ := c
    obtain ⟨n, rfl, hn1, hn2⟩ := w_of c1
    rw [w_cl hn2] at c3
    have hn : n < 12 := by omega
    have e7 := (e4 n hn).1
    have cd : decide (0 ≤ (Int32.ofNat n).toInt ∧ (Int32.ofNat n).toInt < (qn_ P : Int)) = true := decide_eq_true ⟨c1, c2⟩
    have cd2 : decide (0 ≤ (n : Int) ∧ (n : Int) < (qn_ P : Int)) = true := decide_eq_true (by omega)
    have hne8 : ¬ (Int32.ofNat (qr_ P n) = 8) := by rw [e8' (by omega)]; omega
    simp only [w_cl hn2]
    refine ⟨uI_ (uI_ (uI_ (uI_ (uI_ h 33554440 (st_ (hI_ h 33554440) 0 0)) 36706320 (st_ (hI_ h 36706320) (8 * n + qr_ P n) (1 <<< (k &&& 31)))) 36968464 (st_ (hI_ h 36968464) (8 * n + qr_ P n) g)) 37230610 (st_ (hI_ h 37230610) (8 * n + qr_ P n) ne)) 36438800 (st_ (hI_ h 36438800) n (Int32.ofNat (qr_ P n + 1))), ?_, ?_, fun Q => ?_, ?_⟩
    · exact ((((FM_.rf.uM (by decide)).uW (by decide) (by decide)).uW (by decide) (by decide)).uW (by decide) (by decide)).uW (by decide) (by decide)
    · simp only [hI_uI, hL_uI, hR_uI, nx_uI, sl_uI, hI_uL, hL_uL, hR_uL, nx_uL, sl_uL, hI_uR, hL_uR, hR_uR, nx_uR, sl_uR, st_eq, if_true, if_false, eq_self, Nat.reduceEqDiff, Nat.reduceMul, reduceIte, kdT, ixT, w_cl, w_ti, w_s1, w_a, w_m12, w_m8, w_m3, w_m4]
    · simp (disch := first | omega | assumption | decide) only [s116_0, s116_1, s116_2, s116_5, s116_6, s116_7, s116_10, s116_13, s116_14, s116_17, s116_18, s116_19, s116_21, s116_24, s116_25, s116_26, s116_28, s116_31, s116_34, s116_35, s116_36, s116_38, s116_41, s116_44, s116_45, s116_46, s116_48, s116_49, s116_50, s116_51, s116_54, s116_55, s116_56, s116_57, s116_59, s116_60, s116_63, s116_65, s116_66, s116_67, s116_68, s116_69, s116_70, s116_73, s116_75, s116_76, s116_77, s116_78, s116_81, s116_83, s116_85, s116_86, s116_87, s116_90, s116_91, s116_92, s116_93, s116_94, s116_95, s116_96, s116_97, s116_100, s116_101, s116_102, s116_103, s116_104, K_v, K_0, acI, acA, acJ, acX, List.map_cons, List.map_nil, List.sum_cons, List.sum_nil, true_and, and_true, posT, b2_0, b2_1, bft, true_or, or_true, Nat.zero_le, Nat.reduceAdd, Nat.reduceLeDiff, hI_uI, hL_uI, hR_uI, nx_uI, sl_uI, hI_uL, hL_uL, hR_uL, nx_uL, sl_uL, hI_uR, hL_uR, hR_uR, nx_uR, sl_uR, st_eq, if_true, if_false, eq_self, Nat.reduceEqDiff, Nat.reduceMul, reduceIte, kdT, ixT, w_cl, w_ti, w_s1, w_a, w_m12, w_m8, w_m3, w_m4, hM.r2, hM.r3, hM.r4, hM.r5, hM.r6, hM.r7, hM.r9, hM.r10, hM.r11, hM.r12, hM.r13, hM.r14, hM.r15, hM.r16, hM.r17, hM.r18, hM.r20, hM.r21, hM.r23, hM.r29, hM.r30, hM.r35, hM.r36, hM.r37, hM.r38, hM.r40, hM.r42, hM.r43, hM.r44, hM.r45, hM.r46, hM.r47, e1, e7, c_misPlay hP0, c_mwithin, cd, cd2, c4, c5, hne8, kd_mKinds, ln_mKinds, kd_mLeast, ln_mLeast, kd_mNeed, ln_mNeed, kd_mRoles, ln_mRoles, Bool.true_eq_false]
      rw [w_p1 (by omega)]
      rfl
    · refine ⟨by simp only [hI_uI, hL_uI, hR_uI, nx_uI, sl_uI, hI_uL, hL_uL, hR_uL, nx_uL, sl_uL, hI_uR, hL_uR, hR_uR, nx_uR, sl_uR, st_eq, if_true, if_false, eq_self, Nat.reduceEqDiff, Nat.reduceMul, reduceIte, kdT, ixT, w_cl, w_ti, w_s1, w_a, w_m12, w_m8, w_m3, w_m4]; exact e1, ⟨e2, fun q hq => ?_, fun q => ?_, e10⟩, fun q hq => ?_, fun q hq => ?_, fun q r hq hr => ?_, fun q i hq hi => ?_⟩
      · have hq' : qn_ P ≤ q := hq
        show up1_ (qr_ P) n (qr_ P n + 1) q = 0 ∧ _
        unfold up1_
        rw [if_neg (by omega)]
        exact e8 q hq'
      · show up1_ (qr_ P) n (qr_ P n + 1) q ≤ 8
        unfold up1_
        split
        · omega
        · exact e9 q
      · simp only [hI_uI, hL_uI, hR_uI, nx_uI, sl_uI, hI_uL, hL_uL, hR_uL, nx_uL, sl_uL, hI_uR, hL_uR, hR_uR, nx_uR, sl_uR, st_eq, if_true, if_false, eq_self, Nat.reduceEqDiff, Nat.reduceMul, reduceIte, kdT, ixT, w_cl, w_ti, w_s1, w_a, w_m12, w_m8, w_m3, w_m4]; exact e3 q hq
      · show _ = Int32.ofNat (up1_ (qr_ P) n (qr_ P n + 1) q) ∧ _
        simp only [hI_uI, hL_uI, hR_uI, nx_uI, sl_uI, hI_uL, hL_uL, hR_uL, nx_uL, sl_uL, hI_uR, hL_uR, hR_uR, nx_uR, sl_uR, st_eq, if_true, if_false, eq_self, Nat.reduceEqDiff, Nat.reduceMul, reduceIte, kdT, ixT, w_cl, w_ti, w_s1, w_a, w_m12, w_m8, w_m3, w_m4]
        unfold up1_
        refine ⟨?_, (e4 q hq).2⟩
        by_cases q1 : q = n
        · rw [if_pos q1, if_pos q1]
        · rw [if_neg q1, if_neg q1]; exact (e4 q hq).1
      · have hr' : r < up1_ (qr_ P) n (qr_ P n + 1) q := hr
        show _ = up2_ (qk_ P) n (qr_ P n) (1 <<< (k &&& 31)) q r ∧ _ = up2_ (ql_ P) n (qr_ P n) g q r ∧ _ = b2_ (up2_ (qd_ P) n (qr_ P n) (decide (ne = 1)) q r)
        simp only [hI_uI, hL_uI, hR_uI, nx_uI, sl_uI, hI_uL, hL_uL, hR_uL, nx_uL, sl_uL, hI_uR, hL_uR, hR_uR, nx_uR, sl_uR, st_eq, if_true, if_false, eq_self, Nat.reduceEqDiff, Nat.reduceMul, reduceIte, kdT, ixT, w_cl, w_ti, w_s1, w_a, w_m12, w_m8, w_m3, w_m4]
        unfold up1_ at hr'
        unfold up2_
        by_cases q1 : q = n ∧ r = qr_ P n
        · have h9 : 8 * q + r = 8 * n + qr_ P n := by omega
          simp only [if_pos h9, if_pos q1, true_and]
          rcases hne with rfl | rfl <;> rfl
        · have hr2 : r < qr_ P q := by
            split at hr'
            · rename_i q2
              rw [q2]
              have : ¬ r = qr_ P n := fun z => q1 ⟨q2, z⟩
              omega
            · exact hr'
          have h8 := e9 q
          have h9 : ¬ (8 * q + r = 8 * n + qr_ P n) := fun z => q1 (by omega)
          rw [if_neg h9, if_neg h9, if_neg h9, if_neg q1, if_neg q1, if_neg q1]
          exact e5 q r hq hr2
      · simp only [hI_uI, hL_uI, hR_uI, nx_uI, sl_uI, hI_uL, hL_uL, hR_uL, nx_uL, sl_uL, hI_uR, hL_uR, hR_uR, nx_uR, sl_uR, st_eq, if_true, if_false, eq_self, Nat.reduceEqDiff, Nat.reduceMul, reduceIte, kdT, ixT, w_cl, w_ti, w_s1, w_a, w_m12, w_m8, w_m3, w_m4]; exact e6 q i hq hi
  · simp only [if_neg c]
    refine ⟨uI_ h 33554440 (st_ (hI_ h 33554440) 0 0), FM_.rf.uM (by decide), by simp only [hI_uI, hL_uI, hR_uI, nx_uI, sl_uI, hI_uL, hL_uL, hR_uL, nx_uL, sl_uL, hI_uR, hL_uR, hR_uR, nx_uR, sl_uR, st_eq, if_true, if_false, eq_self, Nat.reduceEqDiff, Nat.reduceMul, reduceIte, kdT, ixT, w_cl, w_ti, w_s1, w_a, w_m12, w_m8, w_m3, w_m4], fun Q => ?_, hP0⟩
    unfold okR_ at c
    rw [Bool.and_eq_true, Bool.and_eq_true, decide_eq_true_iff] at c
    by_cases c1 : 0 ≤ p.toInt ∧ p.toInt < qn_ P
    · obtain ⟨n, rfl, hn1, hn2⟩ := w_of c1.1
      rw [w_cl hn2] at c
      have hn : n < 12 := by omega
      have e7 := (e4 n hn).1
      have e9' := e9 n
      have cd : decide (0 ≤ (Int32.ofNat n).toInt ∧ (Int32.ofNat n).toInt < (qn_ P : Int)) = true := decide_eq_true c1
      have cd2 : decide (0 ≤ (n : Int) ∧ (n : Int) < (qn_ P : Int)) = true := decide_eq_true (by omega)
      simp (disch := first | omega | assumption | decide) only [s116_0, s116_1, s116_2, s116_5, s116_6, s116_7, s116_10, s116_13, s116_14, s116_17, s116_18, s116_19, s116_21, s116_24, s116_25, s116_26, s116_28, s116_31, s116_34, s116_35, s116_36, s116_38, s116_41, s116_44, s116_45, s116_48, s116_49, s116_50, s116_51, s116_54, s116_55, s116_56, s116_57, s116_59, s116_60, s116_63, s116_65, s116_66, s116_67, s116_68, s116_69, s116_70, s116_73, s116_75, s116_76, s116_77, s116_78, s116_81, s116_83, s116_85, s116_86, s116_87, s116_90, s116_91, s116_92, s116_93, s116_94, s116_95, s116_96, s116_97, s116_100, s116_101, s116_102, s116_103, s116_104, K_v, K_0, acI, acA, acJ, acX, List.map_cons, List.map_nil, List.sum_cons, List.sum_nil, true_and, and_true, posT, b2_0, b2_1, bft, true_or, or_true, Nat.zero_le, Nat.reduceAdd, Nat.reduceLeDiff, hI_uI, hL_uI, hR_uI, nx_uI, sl_uI, hI_uL, hL_uL, hR_uL, nx_uL, sl_uL, hI_uR, hL_uR, hR_uR, nx_uR, sl_uR, st_eq, if_true, if_false, eq_self, Nat.reduceEqDiff, Nat.reduceMul, reduceIte, kdT, ixT, w_cl, w_ti, w_s1, w_a, w_m12, w_m8, w_m3, w_m4, hM.r2, hM.r3, hM.r4, hM.r5, hM.r6, hM.r7, hM.r9, hM.r10, hM.r11, hM.r12, hM.r13, hM.r14, hM.r15, hM.r16, hM.r17, hM.r18, hM.r20, hM.r21, hM.r23, hM.r29, hM.r30, hM.r35, hM.r36, hM.r37, hM.r38, hM.r40, hM.r42, hM.r43, hM.r44, hM.r45, hM.r46, hM.r47, e1, e7, c_misPlay hP0, c_mwithin, cd, cd2, e8', kd_mRoles, ln_mRoles, Bool.true_eq_false]
      by_cases q1 : qr_ P n = 8
      · rw [if_pos q1]
      · rw [if_neg q1]
        by_cases q2 : wi_ k 0 11 = false
        · rw [if_pos q2]
        · rw [if_neg q2]
          by_cases q3 : wi_ g 1 9 = false
          · rw [if_pos q3]
          · exact absurd ⟨⟨c1.1, c1.2, by omega⟩, by simpa using q2, by simpa using q3⟩ c
    · have cd : decide (0 ≤ p.toInt ∧ p.toInt < (qn_ P : Int)) = false := decide_eq_false c1
      simp (disch := first | omega | assumption | decide) only [s116_0, s116_1, s116_2, s116_5, s116_6, s116_7, s116_10, s116_14, s116_17, s116_18, s116_19, s116_21, s116_24, s116_25, s116_26, s116_28, s116_31, s116_34, s116_35, s116_36, s116_38, s116_41, s116_44, s116_45, s116_48, s116_49, s116_50, s116_51, s116_54, s116_55, s116_56, s116_57, s116_59, s116_60, s116_63, s116_65, s116_66, s116_67, s116_68, s116_69, s116_70, s116_73, s116_75, s116_76, s116_77, s116_78, s116_81, s116_83, s116_85, s116_86, s116_87, s116_90, s116_91, s116_92, s116_93, s116_94, s116_95, s116_96, s116_97, s116_100, s116_101, s116_102, s116_103, s116_104, K_v, K_0, acI, acA, acJ, acX, List.map_cons, List.map_nil, List.sum_cons, List.sum_nil, true_and, and_true, posT, b2_0, b2_1, bft, true_or, or_true, Nat.zero_le, Nat.reduceAdd, Nat.reduceLeDiff, hI_uI, hL_uI, hR_uI, nx_uI, sl_uI, hI_uL, hL_uL, hR_uL, nx_uL, sl_uL, hI_uR, hL_uR, hR_uR, nx_uR, sl_uR, st_eq, if_true, if_false, eq_self, Nat.reduceEqDiff, Nat.reduceMul, reduceIte, kdT, ixT, w_cl, w_ti, w_s1, w_a, w_m12, w_m8, w_m3, w_m4, c_misPlay hP0, cd]
theorem m_role_v {ne : Int32} (h : ne = 0 ∨ ne = 1) : b2_ (decide (ne = 1)) = ne := by rcases h with rfl | rfl <;> rfl
/-- an actor can a role -/
def abl_ (F G : Nat → Nat → Int32) (P : PS) (a p r : Nat) : Bool := (!decide (F a 4 = 0)) && an_ (fun k => decide (((qk_ P p r) >>> (Int32.ofNat k &&& 31)) &&& 1 = 1) && !decide (G a k < ql_ P p r)) 12 0
theorem c_misAble {a p r : Nat} (hM : MS_ h) (hA : MA_ na F G h) (hP : MP_ P h) (ha : a < na) (hp : p < 12) (hr : r < qr_ P p) : V_ xs d 119 0 [vA (some 33554440), vI (Int32.ofNat a), vI (Int32.ofNat p), vI (Int32.ofNat r), vX 0] [] h Q ↔ Q (some (some (vI (b2_ (abl_ F G P a p r))))) h := by
  obtain ⟨a1, a2, a3, a4⟩ := id hA
  obtain ⟨e1, ⟨e2, e8, e9, e10⟩, e3, e4, e5, e6⟩ := id hP
  have h8 := e9 p
  have f5 := (a3 a ha).2.2.2.2
  have hb : kd_ 34865938 = 17 ∨ kd_ 34865938 = 18 := Or.inr rfl
  obtain ⟨g1, g2, -⟩ := e5 p r hp hr
  unfold abl_
  by_cases c : F a 4 = 0
  · simp (disch := first | omega | assumption | decide) only [s119_0, s119_1, s119_4, s119_5, s119_6, s119_9, s119_10, s119_12, s119_14, s119_16, s119_18, s119_21, s119_22, s119_25, s119_27, s119_28, s119_29, s119_30, s119_31, s119_32, s119_34, s119_35, s119_36, s119_37, s119_38, s119_41, s119_42, s119_45, s119_47, s119_48, s119_49, s119_51, s119_52, s119_53, s119_54, s119_57, s119_59, s119_60, s119_61, s119_62, s119_63, s119_64, s119_67, s119_68, s119_69, s119_72, s119_75, s119_76, K_v, K_0, acI, acA, acJ, acX, List.map_cons, List.map_nil, List.sum_cons, List.sum_nil, true_and, and_true, posT, b2_0, b2_1, bft, true_or, or_true, Nat.zero_le, Nat.reduceAdd, Nat.reduceLeDiff, hI_uI, hL_uI, hR_uI, nx_uI, sl_uI, hI_uL, hL_uL, hR_uL, nx_uL, sl_uL, hI_uR, hL_uR, hR_uR, nx_uR, sl_uR, st_eq, if_true, if_false, eq_self, Nat.reduceEqDiff, Nat.reduceMul, reduceIte, kdT, ixT, w_cl, w_ti, w_s1, w_a, w_m12, w_m8, w_m3, w_m4, hM.r2, hM.r3, hM.r4, hM.r5, hM.r6, hM.r7, hM.r9, hM.r10, hM.r11, hM.r12, hM.r13, hM.r14, hM.r15, hM.r16, hM.r17, hM.r18, hM.r20, hM.r21, hM.r23, hM.r29, hM.r30, hM.r35, hM.r36, hM.r37, hM.r38, hM.r40, hM.r42, hM.r43, hM.r44, hM.r45, hM.r46, hM.r47, f5, c, kd_mIn, ln_mIn]
    rfl
  · have L := loopE_ (P := fun k => V_ xs d 119 14 [vA (some 33554440), vI (Int32.ofNat a), vI (Int32.ofNat p), vI (Int32.ofNat r), vI (Int32.ofNat k)] [] h Q) (R := Q (some (some (vI 1))) h) (c := fun k => decide (((qk_ P p r) >>> (Int32.ofNat k &&& 31)) &&& 1 = 1) && !decide (G a k < ql_ P p r)) (n := 12) (fun k hk => by
      have g3 := a4 a k ha hk
      rw [s119_14]
      simp (disch := first | omega | assumption | decide) only [s119_0, s119_1, s119_4, s119_5, s119_6, s119_9, s119_10, s119_11, s119_12, s119_16, s119_18, s119_21, s119_22, s119_25, s119_27, s119_28, s119_29, s119_30, s119_31, s119_32, s119_34, s119_35, s119_36, s119_37, s119_38, s119_41, s119_42, s119_45, s119_47, s119_48, s119_49, s119_51, s119_52, s119_53, s119_54, s119_57, s119_59, s119_60, s119_61, s119_62, s119_63, s119_64, s119_67, s119_68, s119_69, s119_72, s119_75, s119_76, K_v, K_0, acI, acA, acJ, acX, List.map_cons, List.map_nil, List.sum_cons, List.sum_nil, true_and, and_true, posT, b2_0, b2_1, bft, true_or, or_true, Nat.zero_le, Nat.reduceAdd, Nat.reduceLeDiff, hI_uI, hL_uI, hR_uI, nx_uI, sl_uI, hI_uL, hL_uL, hR_uL, nx_uL, sl_uL, hI_uR, hL_uR, hR_uR, nx_uR, sl_uR, st_eq, if_true, if_false, eq_self, Nat.reduceEqDiff, Nat.reduceMul, reduceIte, kdT, ixT, w_cl, w_ti, w_s1, w_a, w_m12, w_m8, w_m3, w_m4, hM.r2, hM.r3, hM.r4, hM.r5, hM.r6, hM.r7, hM.r9, hM.r10, hM.r11, hM.r12, hM.r13, hM.r14, hM.r15, hM.r16, hM.r17, hM.r18, hM.r20, hM.r21, hM.r23, hM.r29, hM.r30, hM.r35, hM.r36, hM.r37, hM.r38, hM.r40, hM.r42, hM.r43, hM.r44, hM.r45, hM.r46, hM.r47, g1, g2, g3, kd_mKinds, ln_mKinds, kd_mGrade, ln_mGrade, kd_mLeast, ln_mLeast, w12]
      rw [if_pos hk]
      by_cases q1 : ((qk_ P p r) >>> (Int32.ofNat k &&& 31)) &&& 1 = 1
      · rw [if_pos q1]
        by_cases q2 : G a k < ql_ P p r
        · rw [if_pos q2, if_neg (by simp [q2])]
        · rw [if_neg q2, if_pos (by simp [q1, q2])]
      · rw [if_neg q1, if_neg (by simp [q1])]) 12 0 rfl
    simp (disch := first | omega | assumption | decide) only [s119_0, s119_1, s119_4, s119_5, s119_6, s119_9, s119_10, s119_11, s119_12, s119_16, s119_18, s119_21, s119_22, s119_25, s119_27, s119_28, s119_29, s119_30, s119_31, s119_32, s119_34, s119_35, s119_36, s119_37, s119_38, s119_41, s119_42, s119_45, s119_47, s119_48, s119_49, s119_51, s119_52, s119_53, s119_54, s119_57, s119_59, s119_60, s119_61, s119_62, s119_63, s119_64, s119_67, s119_68, s119_69, s119_72, s119_75, s119_76, K_v, K_0, acI, acA, acJ, acX, List.map_cons, List.map_nil, List.sum_cons, List.sum_nil, true_and, and_true, posT, b2_0, b2_1, bft, true_or, or_true, Nat.zero_le, Nat.reduceAdd, Nat.reduceLeDiff, hI_uI, hL_uI, hR_uI, nx_uI, sl_uI, hI_uL, hL_uL, hR_uL, nx_uL, sl_uL, hI_uR, hL_uR, hR_uR, nx_uR, sl_uR, st_eq, if_true, if_false, eq_self, Nat.reduceEqDiff, Nat.reduceMul, reduceIte, kdT, ixT, w_cl, w_ti, w_s1, w_a, w_m12, w_m8, w_m3, w_m4, hM.r2, hM.r3, hM.r4, hM.r5, hM.r6, hM.r7, hM.r9, hM.r10, hM.r11, hM.r12, hM.r13, hM.r14, hM.r15, hM.r16, hM.r17, hM.r18, hM.r20, hM.r21, hM.r23, hM.r29, hM.r30, hM.r35, hM.r36, hM.r37, hM.r38, hM.r40, hM.r42, hM.r43, hM.r44, hM.r45, hM.r46, hM.r47, f5, c, kd_mIn, ln_mIn]
    refine (show V_ xs d 119 14 [vA (some 33554440), vI (Int32.ofNat a), vI (Int32.ofNat p), vI (Int32.ofNat r), vI (Int32.ofNat 0)] [] h Q ↔ _ from L).trans ?_
    simp only [decide_false, Bool.not_false, Bool.true_and]
    cases an_ (fun k => decide (((qk_ P p r) >>> (Int32.ofNat k &&& 31)) &&& 1 = 1) && !decide (G a k < ql_ P p r)) 12 0
    · rw [if_neg (by decide), s119_14]
      simp (disch := first | omega | assumption | decide) only [s119_0, s119_1, s119_4, s119_5, s119_6, s119_9, s119_10, s119_11, s119_12, s119_16, s119_18, s119_21, s119_22, s119_25, s119_27, s119_28, s119_29, s119_30, s119_31, s119_32, s119_34, s119_35, s119_36, s119_37, s119_38, s119_41, s119_42, s119_45, s119_47, s119_48, s119_49, s119_51, s119_52, s119_53, s119_54, s119_57, s119_59, s119_60, s119_61, s119_62, s119_63, s119_64, s119_67, s119_68, s119_69, s119_72, s119_75, s119_76, K_v, K_0, acI, acA, acJ, acX, List.map_cons, List.map_nil, List.sum_cons, List.sum_nil, true_and, and_true, posT, b2_0, b2_1, bft, true_or, or_true, Nat.zero_le, Nat.reduceAdd, Nat.reduceLeDiff, hI_uI, hL_uI, hR_uI, nx_uI, sl_uI, hI_uL, hL_uL, hR_uL, nx_uL, sl_uL, hI_uR, hL_uR, hR_uR, nx_uR, sl_uR, st_eq, if_true, if_false, eq_self, Nat.reduceEqDiff, Nat.reduceMul, reduceIte, kdT, ixT, w_cl, w_ti, w_s1, w_a, w_m12, w_m8, w_m3, w_m4, w12]
      rw [if_neg (by omega)]
      rfl
    · rw [if_pos rfl]
      rfl
end MPB
