/-! the model's plays -/
abbrev PS : Type := Nat × (Nat → Nat → Int32) × (Nat → Nat) × (Nat → Nat → Int32) × (Nat → Nat → Int32) × (Nat → Nat → Bool) × (Nat → Nat) × (Nat → Nat → Int32)
def qn_ (P : PS) : Nat := P.1
def qf_ (P : PS) : Nat → Nat → Int32 := P.2.1
def qr_ (P : PS) : Nat → Nat := P.2.2.1
def qk_ (P : PS) : Nat → Nat → Int32 := P.2.2.2.1
def ql_ (P : PS) : Nat → Nat → Int32 := P.2.2.2.2.1
def qd_ (P : PS) : Nat → Nat → Bool := P.2.2.2.2.2.1
def qb_ (P : PS) : Nat → Nat := P.2.2.2.2.2.2.1
def qt_ (P : PS) : Nat → Nat → Int32 := P.2.2.2.2.2.2.2
def up1_ {α : Type} (f : Nat → α) (i : Nat) (v : α) : Nat → α := fun a => if a = i then v else f a
def up2_ {α : Type} (f : Nat → Nat → α) (i j : Nat) (v : α) : Nat → Nat → α := fun a b => if a = i ∧ b = j then v else f a b
/-- what is always so of the plays -/
def PV_ (P : PS) : Prop := qn_ P ≤ 12 ∧ (∀ p, qn_ P ≤ p → qr_ P p = 0 ∧ qb_ P p = 0) ∧ (∀ p, qr_ P p ≤ 8) ∧ (∀ p, qb_ P p ≤ 3)
def MP_ (P : PS) (h : AH) : Prop := hI_ h 33554440 8 = Int32.ofNat (qn_ P) ∧ PV_ P ∧ (∀ p, p < qn_ P → hI_ h 35390224 p = qf_ P p 0 ∧ hI_ h 35652368 p = qf_ P p 1 ∧ hI_ h 35914512 p = qf_ P p 2 ∧ hI_ h 36176656 p = qf_ P p 3) ∧ (∀ p, p < 12 → hI_ h 36438800 p = Int32.ofNat (qr_ P p) ∧ hI_ h 37487376 p = Int32.ofNat (qb_ P p)) ∧
  (∀ p r, p < 12 → r < qr_ P p → hI_ h 36706320 (8 * p + r) = qk_ P p r ∧ hI_ h 36968464 (8 * p + r) = ql_ P p r ∧ hI_ h 37230610 (8 * p + r) = b2_ (qd_ P p r)) ∧ (∀ p i, p < 12 → i < qb_ P p → hI_ h 37751056 (3 * p + i) = qt_ P p i)
theorem MP_.eq {P : PS} {h h1 : AH} (e0 : hI_ h1 33554440 8 = hI_ h 33554440 8) (e1 : hI_ h1 35390224 = hI_ h 35390224) (e2 : hI_ h1 35652368 = hI_ h 35652368) (e3 : hI_ h1 35914512 = hI_ h 35914512) (e4 : hI_ h1 36176656 = hI_ h 36176656) (e5 : hI_ h1 36438800 = hI_ h 36438800) (e6 : hI_ h1 37487376 = hI_ h 37487376) (e7 : hI_ h1 36706320 = hI_ h 36706320) (e8 : hI_ h1 36968464 = hI_ h 36968464) (e9 : hI_ h1 37230610 = hI_ h 37230610) (e10 : hI_ h1 37751056 = hI_ h 37751056) (H : MP_ P h) : MP_ P h1 := by
  unfold MP_ at H ⊢
  rw [e0, e1, e2, e3, e4, e5, e6, e7, e8, e9, e10]
  exact H
section MPL
variable {xs : Nat → Int32} {d : Nat} {h : AH} {P : PS} {Q : OU_ → AH → Prop}
theorem MP_.u0 {v : Int32} (H : MP_ P h) : MP_ P (uI_ h 33554440 (st_ (hI_ h 33554440) 0 v)) := MP_.eq (by simp only [hI_uI, hL_uI, hR_uI, nx_uI, sl_uI, hI_uL, hL_uL, hR_uL, nx_uL, sl_uL, hI_uR, hL_uR, hR_uR, nx_uR, sl_uR, st_eq, if_true, if_false, eq_self, Nat.reduceEqDiff, Nat.reduceMul, reduceIte, kdT, ixT, w_cl, w_ti, w_s1, w_a, w_m12, w_m8, w_m3, w_m4]) (by simp only [hI_uI, hL_uI, hR_uI, nx_uI, sl_uI, hI_uL, hL_uL, hR_uL, nx_uL, sl_uL, hI_uR, hL_uR, hR_uR, nx_uR, sl_uR, st_eq, if_true, if_false, eq_self, Nat.reduceEqDiff, Nat.reduceMul, reduceIte, kdT, ixT, w_cl, w_ti, w_s1, w_a, w_m12, w_m8, w_m3, w_m4]) (by simp only [hI_uI, hL_uI, hR_uI, nx_uI, sl_uI, hI_uL, hL_uL, hR_uL, nx_uL, sl_uL, hI_uR, hL_uR, hR_uR, nx_uR, sl_uR, st_eq, if_true, if_false, eq_self, Nat.reduceEqDiff, Nat.reduceMul, reduceIte, kdT, ixT, w_cl, w_ti, w_s1, w_a, w_m12, w_m8, w_m3, w_m4]) (by simp only [hI_uI, hL_uI, hR_uI, nx_uI, sl_uI, hI_uL, hL_uL, hR_uL, nx_uL, sl_uL, hI_uR, hL_uR, hR_uR, nx_uR, sl_uR, st_eq, if_true, if_false, eq_self, Nat.reduceEqDiff, Nat.reduceMul, reduceIte, kdT, ixT, w_cl, w_ti, w_s1, w_a, w_m12, w_m8, w_m3, w_m4]) (by simp only [hI_uI, hL_uI, hR_uI, nx_uI, sl_uI, hI_uL, hL_uL, hR_uL, nx_uL, sl_uL, hI_uR, hL_uR, hR_uR, nx_uR, sl_uR, st_eq, if_true, if_false, eq_self, Nat.reduceEqDiff, Nat.reduceMul, reduceIte, kdT, ixT, w_cl, w_ti, w_s1, w_a, w_m12, w_m8, w_m3, w_m4]) (by simp only [hI_uI, hL_uI, hR_uI, nx_uI, sl_uI, hI_uL, hL_uL, hR_uL, nx_uL, sl_uL, hI_uR, hL_uR, hR_uR, nx_uR, sl_uR, st_eq, if_true, if_false, eq_self, Nat.reduceEqDiff, Nat.reduceMul, reduceIte, kdT, ixT, w_cl, w_ti, w_s1, w_a, w_m12, w_m8, w_m3, w_m4]) (by simp only [hI_uI, hL_uI, hR_uI, nx_uI, sl_uI, hI_uL, hL_uL, hR_uL, nx_uL, sl_uL, hI_uR, hL_uR, hR_uR, nx_uR, sl_uR, st_eq, if_true, if_false, eq_self, Nat.reduceEqDiff, Nat.reduceMul, reduceIte, kdT, ixT, w_cl, w_ti, w_s1, w_a, w_m12, w_m8, w_m3, w_m4]) (by simp only [hI_uI, hL_uI, hR_uI, nx_uI, sl_uI, hI_uL, hL_uL, hR_uL, nx_uL, sl_uL, hI_uR, hL_uR, hR_uR, nx_uR, sl_uR, st_eq, if_true, if_false, eq_self, Nat.reduceEqDiff, Nat.reduceMul, reduceIte, kdT, ixT, w_cl, w_ti, w_s1, w_a, w_m12, w_m8, w_m3, w_m4]) (by simp only [hI_uI, hL_uI, hR_uI, nx_uI, sl_uI, hI_uL, hL_uL, hR_uL, nx_uL, sl_uL, hI_uR, hL_uR, hR_uR, nx_uR, sl_uR, st_eq, if_true, if_false, eq_self, Nat.reduceEqDiff, Nat.reduceMul, reduceIte, kdT, ixT, w_cl, w_ti, w_s1, w_a, w_m12, w_m8, w_m3, w_m4]) (by simp only [hI_uI, hL_uI, hR_uI, nx_uI, sl_uI, hI_uL, hL_uL, hR_uL, nx_uL, sl_uL, hI_uR, hL_uR, hR_uR, nx_uR, sl_uR, st_eq, if_true, if_false, eq_self, Nat.reduceEqDiff, Nat.reduceMul, reduceIte, kdT, ixT, w_cl, w_ti, w_s1, w_a, w_m12, w_m8, w_m3, w_m4]) (by simp only [hI_uI, hL_uI, hR_uI, nx_uI, sl_uI, hI_uL, hL_uL, hR_uL, nx_uL, sl_uL, hI_uR, hL_uR, hR_uR, nx_uR, sl_uR, st_eq, if_true, if_false, eq_self, Nat.reduceEqDiff, Nat.reduceMul, reduceIte, kdT, ixT, w_cl, w_ti, w_s1, w_a, w_m12, w_m8, w_m3, w_m4]) H
theorem MA_.u0 {na : Nat} {F G : Nat → Nat → Int32} {v : Int32} (H : MA_ na F G h) : MA_ na F G (uI_ h 33554440 (st_ (hI_ h 33554440) 0 v)) := MA_.eq (by simp only [hI_uI, hL_uI, hR_uI, nx_uI, sl_uI, hI_uL, hL_uL, hR_uL, nx_uL, sl_uL, hI_uR, hL_uR, hR_uR, nx_uR, sl_uR, st_eq, if_true, if_false, eq_self, Nat.reduceEqDiff, Nat.reduceMul, reduceIte, kdT, ixT, w_cl, w_ti, w_s1, w_a, w_m12, w_m8, w_m3, w_m4]) (by simp only [hI_uI, hL_uI, hR_uI, nx_uI, sl_uI, hI_uL, hL_uL, hR_uL, nx_uL, sl_uL, hI_uR, hL_uR, hR_uR, nx_uR, sl_uR, st_eq, if_true, if_false, eq_self, Nat.reduceEqDiff, Nat.reduceMul, reduceIte, kdT, ixT, w_cl, w_ti, w_s1, w_a, w_m12, w_m8, w_m3, w_m4]) (by simp only [hI_uI, hL_uI, hR_uI, nx_uI, sl_uI, hI_uL, hL_uL, hR_uL, nx_uL, sl_uL, hI_uR, hL_uR, hR_uR, nx_uR, sl_uR, st_eq, if_true, if_false, eq_self, Nat.reduceEqDiff, Nat.reduceMul, reduceIte, kdT, ixT, w_cl, w_ti, w_s1, w_a, w_m12, w_m8, w_m3, w_m4]) (by simp only [hI_uI, hL_uI, hR_uI, nx_uI, sl_uI, hI_uL, hL_uL, hR_uL, nx_uL, sl_uL, hI_uR, hL_uR, hR_uR, nx_uR, sl_uR, st_eq, if_true, if_false, eq_self, Nat.reduceEqDiff, Nat.reduceMul, reduceIte, kdT, ixT, w_cl, w_ti, w_s1, w_a, w_m12, w_m8, w_m3, w_m4]) (by simp only [hI_uI, hL_uI, hR_uI, nx_uI, sl_uI, hI_uL, hL_uL, hR_uL, nx_uL, sl_uL, hI_uR, hL_uR, hR_uR, nx_uR, sl_uR, st_eq, if_true, if_false, eq_self, Nat.reduceEqDiff, Nat.reduceMul, reduceIte, kdT, ixT, w_cl, w_ti, w_s1, w_a, w_m12, w_m8, w_m3, w_m4]) (by simp only [hI_uI, hL_uI, hR_uI, nx_uI, sl_uI, hI_uL, hL_uL, hR_uL, nx_uL, sl_uL, hI_uR, hL_uR, hR_uR, nx_uR, sl_uR, st_eq, if_true, if_false, eq_self, Nat.reduceEqDiff, Nat.reduceMul, reduceIte, kdT, ixT, w_cl, w_ti, w_s1, w_a, w_m12, w_m8, w_m3, w_m4]) (by simp only [hI_uI, hL_uI, hR_uI, nx_uI, sl_uI, hI_uL, hL_uL, hR_uL, nx_uL, sl_uL, hI_uR, hL_uR, hR_uR, nx_uR, sl_uR, st_eq, if_true, if_false, eq_self, Nat.reduceEqDiff, Nat.reduceMul, reduceIte, kdT, ixT, w_cl, w_ti, w_s1, w_a, w_m12, w_m8, w_m3, w_m4]) H
theorem MS_.u {a : Nat} {f : Nat → Int32} (H : MS_ h) : MS_ (uI_ h a f) := H.eq rfl
theorem c_misPlay {a : Int32} (hP : MP_ P h) : V_ xs d 111 0 [vA (some 33554440), vI a] [] h Q ↔ Q (some (some (vI (b2_ (decide (0 ≤ a.toInt ∧ a.toInt < qn_ P)))))) h := by
  have e1 := hP.1
  have e2 := hP.2.1.1
  simp (disch := first | omega | assumption | decide) only [s111_0, s111_1, s111_4, s111_5, s111_6, s111_9, s111_12, s111_13, s111_16, s111_17, K_v, K_0, acI, acA, acJ, acX, List.map_cons, List.map_nil, List.sum_cons, List.sum_nil, true_and, and_true, posT, b2_0, b2_1, bft, true_or, or_true, Nat.zero_le, Nat.reduceAdd, Nat.reduceLeDiff, hI_uI, hL_uI, hR_uI, nx_uI, sl_uI, hI_uL, hL_uL, hR_uL, nx_uL, sl_uL, hI_uR, hL_uR, hR_uR, nx_uR, sl_uR, st_eq, if_true, if_false, eq_self, Nat.reduceEqDiff, Nat.reduceMul, reduceIte, kdT, ixT, w_cl, w_ti, w_s1, w_a, w_m12, w_m8, w_m3, w_m4, e1, Int32.lt_iff_toInt_lt]
  have z : (0 : Int32).toInt = 0 := rfl
  by_cases c1 : a.toInt < (0 : Int32).toInt
  · rw [if_pos c1, decide_eq_false (by omega)]; rfl
  · rw [if_neg c1]
    by_cases c2 : a.toInt < qn_ P
    · rw [if_pos c2, decide_eq_true (by omega)]; rfl
    · rw [if_neg c2, decide_eq_false (by omega)]; rfl
/-- the play and the role that two numbers are -/
def isR_ (P : PS) (p r : Int32) : Bool := decide (0 ≤ p.toInt ∧ p.toInt < qn_ P ∧ 0 ≤ r.toInt ∧ r.toInt < qr_ P p.toNatClampNeg)
theorem c_misRole {p r : Int32} (hM : MS_ h) (hP : MP_ P h) (hd : 1 ≤ d) : V_ xs d 112 0 [vA (some 33554440), vI p, vI r] [] h Q ↔ Q (some (some (vI (b2_ (isR_ P p r))))) h := by
  obtain ⟨e1, ⟨e2, -, e3, -⟩, -, e5, -⟩ := id hP
  unfold isR_
  by_cases c0 : 0 ≤ p.toInt ∧ p.toInt < qn_ P
  · obtain ⟨n, rfl, hn1, hn2⟩ := w_of c0.1
    have hn : n < 12 := by omega
    have e6 := (e5 n hn).1
    have e7 := e3 n
    have cd : decide (0 ≤ (Int32.ofNat n).toInt ∧ (Int32.ofNat n).toInt < (qn_ P : Int)) = true := decide_eq_true c0
    simp (disch := first | omega | assumption | decide) only [s112_0, s112_1, s112_2, s112_5, s112_8, s112_9, s112_12, s112_13, s112_14, s112_17, s112_18, s112_19, s112_22, s112_23, s112_26, s112_27, K_v, K_0, acI, acA, acJ, acX, List.map_cons, List.map_nil, List.sum_cons, List.sum_nil, true_and, and_true, posT, b2_0, b2_1, bft, true_or, or_true, Nat.zero_le, Nat.reduceAdd, Nat.reduceLeDiff, hI_uI, hL_uI, hR_uI, nx_uI, sl_uI, hI_uL, hL_uL, hR_uL, nx_uL, sl_uL, hI_uR, hL_uR, hR_uR, nx_uR, sl_uR, st_eq, if_true, if_false, eq_self, Nat.reduceEqDiff, Nat.reduceMul, reduceIte, kdT, ixT, w_cl, w_ti, w_s1, w_a, w_m12, w_m8, w_m3, w_m4, hM.r2, hM.r3, hM.r4, hM.r5, hM.r6, hM.r7, hM.r9, hM.r10, hM.r11, hM.r12, hM.r13, hM.r14, hM.r15, hM.r16, hM.r17, hM.r18, hM.r20, hM.r21, hM.r23, hM.r29, hM.r30, hM.r35, hM.r36, hM.r37, hM.r38, hM.r40, hM.r42, hM.r43, hM.r44, hM.r45, hM.r46, hM.r47, c_misPlay hP, cd, e6, kd_mRoles, ln_mRoles, Int32.lt_iff_toInt_lt, Bool.true_eq_false]
    have z : (0 : Int32).toInt = 0 := rfl
    rw [if_neg (by rw [decide_eq_false_iff_not]; omega)]
    by_cases c1 : r.toInt < (0 : Int32).toInt
    · rw [if_pos c1, decide_eq_false (by omega)]; rfl
    · rw [if_neg c1]
      by_cases c2 : r.toInt < qr_ P n
      · rw [if_pos c2, decide_eq_true (by omega)]; rfl
      · rw [if_neg c2, decide_eq_false (by omega)]; rfl
  · have cd : decide (0 ≤ p.toInt ∧ p.toInt < (qn_ P : Int)) = false := decide_eq_false c0
    simp (disch := first | omega | assumption | decide) only [s112_0, s112_1, s112_2, s112_5, s112_9, s112_12, s112_13, s112_14, s112_17, s112_18, s112_19, s112_22, s112_23, s112_26, s112_27, K_v, K_0, acI, acA, acJ, acX, List.map_cons, List.map_nil, List.sum_cons, List.sum_nil, true_and, and_true, posT, b2_0, b2_1, bft, true_or, or_true, Nat.zero_le, Nat.reduceAdd, Nat.reduceLeDiff, hI_uI, hL_uI, hR_uI, nx_uI, sl_uI, hI_uL, hL_uL, hR_uL, nx_uL, sl_uL, hI_uR, hL_uR, hR_uR, nx_uR, sl_uR, st_eq, if_true, if_false, eq_self, Nat.reduceEqDiff, Nat.reduceMul, reduceIte, kdT, ixT, w_cl, w_ti, w_s1, w_a, w_m12, w_m8, w_m3, w_m4, c_misPlay hP, cd]
    rw [decide_eq_false (by omega)]
    rfl
def okP_t (mi ta st we : Int32) : Bool := wi_ mi 1 240 && (wi_ ta 0 1000 && (wi_ st 0 11 && wi_ we 0 30))
def fp_ (mi ta st we : Int32) : Nat → Int32 := fun j => if j = 0 then mi else if j = 1 then ta else if j = 2 then st else we
theorem m_play {mi ta st we : Int32} (hM : MS_ h) (hP : MP_ P h) (hd : 2 ≤ d) : ∃ h', FM_ [35390224, 35652368, 35914512, 36176656] [0, 8] h h' ∧ hI_ h' 33554440 0 = 0 ∧
    (if qn_ P < 12 ∧ okP_t mi ta st we = true then Do_ xs d 115 [vA (some 33554440), vI mi, vI ta, vI st, vI we] h (some (some (vI (Int32.ofNat (qn_ P))))) h' ∧ MP_ (qn_ P + 1, upF_ (qf_ P) (qn_ P) (fp_ mi ta st we), P.2.2) h'
     else Do_ xs d 115 [vA (some 33554440), vI mi, vI ta, vI st, vI we] h (some (some (vI (-1)))) h' ∧ MP_ P h') := by
  obtain ⟨e1, ⟨e2, e8, e9, e10⟩, e3, e4, e5, e6⟩ := id hP
  by_cases c : qn_ P < 12 ∧ okP_t mi ta st we = true
  · simp only [if_pos c]
    obtain ⟨c1, c2⟩ := c
    unfold okP_t at c2
    rw [Bool.and_eq_true, Bool.and_eq_true, Bool.and_eq_true] at c2
    obtain ⟨c3, c4, c5, c6⟩ := c2
    have hne : ¬ (Int32.ofNat (qn_ P) = 12) := by rw [e12 (by omega)]; omega
    refine ⟨uI_ (uI_ (uI_ (uI_ (uI_ (uI_ h 33554440 (st_ (hI_ h 33554440) 0 0)) 35390224 (st_ (hI_ h 35390224) (qn_ P) mi)) 35652368 (st_ (hI_ h 35652368) (qn_ P) ta)) 35914512 (st_ (hI_ h 35914512) (qn_ P) st)) 36176656 (st_ (hI_ h 36176656) (qn_ P) we)) 33554440 (st_ (st_ (hI_ h 33554440) 0 0) 8 (Int32.ofNat (qn_ P + 1))), ?_, ?_, fun Q => ?_, ?_⟩
    · exact (((((FM_.rf.uM (by decide)).uW (by decide) (by decide)).uW (by decide) (by decide)).uW (by decide) (by decide)).uW (by decide) (by decide)).uM (j := 8) (by decide)
    · simp only [hI_uI, hL_uI, hR_uI, nx_uI, sl_uI, hI_uL, hL_uL, hR_uL, nx_uL, sl_uL, hI_uR, hL_uR, hR_uR, nx_uR, sl_uR, st_eq, if_true, if_false, eq_self, Nat.reduceEqDiff, Nat.reduceMul, reduceIte, kdT, ixT, w_cl, w_ti, w_s1, w_a, w_m12, w_m8, w_m3, w_m4]
    · simp (disch := first | omega | assumption | decide) only [s115_0, s115_1, s115_2, s115_5, s115_6, s115_9, s115_11, s115_14, s115_15, s115_16, s115_19, s115_22, s115_25, s115_26, s115_27, s115_30, s115_33, s115_36, s115_37, s115_38, s115_40, s115_43, s115_46, s115_48, s115_49, s115_51, s115_54, s115_57, s115_58, s115_59, s115_60, s115_63, s115_64, s115_67, s115_68, s115_69, s115_70, s115_73, s115_74, s115_77, s115_78, s115_79, s115_80, s115_83, s115_84, s115_87, s115_88, s115_89, s115_90, s115_93, s115_94, s115_97, s115_99, s115_100, s115_101, s115_101i, s115_102, s115_105, s115_106, s115_107, s115_110, s115_111, s115_114, s115_115, s115_116, K_v, K_0, acI, acA, acJ, acX, List.map_cons, List.map_nil, List.sum_cons, List.sum_nil, true_and, and_true, posT, b2_0, b2_1, bft, true_or, or_true, Nat.zero_le, Nat.reduceAdd, Nat.reduceLeDiff, hI_uI, hL_uI, hR_uI, nx_uI, sl_uI, hI_uL, hL_uL, hR_uL, nx_uL, sl_uL, hI_uR, hL_uR, hR_uR, nx_uR, sl_uR, st_eq, if_true, if_false, eq_self, Nat.reduceEqDiff, Nat.reduceMul, reduceIte, kdT, ixT, w_cl, w_ti, w_s1, w_a, w_m12, w_m8, w_m3, w_m4, hM.r2, hM.r3, hM.r4, hM.r5, hM.r6, hM.r7, hM.r9, hM.r10, hM.r11, hM.r12, hM.r13, hM.r14, hM.r15, hM.r16, hM.r17, hM.r18, hM.r20, hM.r21, hM.r23, hM.r29, hM.r30, hM.r35, hM.r36, hM.r37, hM.r38, hM.r40, hM.r42, hM.r43, hM.r44, hM.r45, hM.r46, hM.r47, e1, c_mwithin, c3, c4, c5, c6, hne, kd_mMin, ln_mMin, kd_mTak, ln_mTak, kd_mSto, ln_mSto, kd_mWei, ln_mWei, Bool.true_eq_false]
      rw [w_p1 (by omega)]
      rfl
    · refine ⟨by simp only [hI_uI, hL_uI, hR_uI, nx_uI, sl_uI, hI_uL, hL_uL, hR_uL, nx_uL, sl_uL, hI_uR, hL_uR, hR_uR, nx_uR, sl_uR, st_eq, if_true, if_false, eq_self, Nat.reduceEqDiff, Nat.reduceMul, reduceIte, kdT, ixT, w_cl, w_ti, w_s1, w_a, w_m12, w_m8, w_m3, w_m4]; rfl, ⟨c1, fun p hp => e8 p (by have : qn_ P + 1 ≤ p := hp; omega), e9, e10⟩, fun p hp => ?_, fun p hp => ?_, fun p r hp hr => ?_, fun p i hp hi => ?_⟩
      · have hp' : p < qn_ P + 1 := hp
        show _ = upF_ (qf_ P) (qn_ P) (fp_ mi ta st we) p 0 ∧ _ = upF_ (qf_ P) (qn_ P) (fp_ mi ta st we) p 1 ∧ _ = upF_ (qf_ P) (qn_ P) (fp_ mi ta st we) p 2 ∧ _ = upF_ (qf_ P) (qn_ P) (fp_ mi ta st we) p 3
        simp only [hI_uI, hL_uI, hR_uI, nx_uI, sl_uI, hI_uL, hL_uL, hR_uL, nx_uL, sl_uL, hI_uR, hL_uR, hR_uR, nx_uR, sl_uR, st_eq, if_true, if_false, eq_self, Nat.reduceEqDiff, Nat.reduceMul, reduceIte, kdT, ixT, w_cl, w_ti, w_s1, w_a, w_m12, w_m8, w_m3, w_m4, upF_, fp_]
        by_cases q : p = qn_ P
        · simp only [if_pos q, true_and]
        · simp only [if_neg q]
          exact e3 p (by omega)
      · simp only [hI_uI, hL_uI, hR_uI, nx_uI, sl_uI, hI_uL, hL_uL, hR_uL, nx_uL, sl_uL, hI_uR, hL_uR, hR_uR, nx_uR, sl_uR, st_eq, if_true, if_false, eq_self, Nat.reduceEqDiff, Nat.reduceMul, reduceIte, kdT, ixT, w_cl, w_ti, w_s1, w_a, w_m12, w_m8, w_m3, w_m4]; exact e4 p hp
      · simp only [hI_uI, hL_uI, hR_uI, nx_uI, sl_uI, hI_uL, hL_uL, hR_uL, nx_uL, sl_uL, hI_uR, hL_uR, hR_uR, nx_uR, sl_uR, st_eq, if_true, if_false, eq_self, Nat.reduceEqDiff, Nat.reduceMul, reduceIte, kdT, ixT, w_cl, w_ti, w_s1, w_a, w_m12, w_m8, w_m3, w_m4]; exact e5 p r hp hr
      · simp only [hI_uI, hL_uI, hR_uI, nx_uI, sl_uI, hI_uL, hL_uL, hR_uL, nx_uL, sl_uL, hI_uR, hL_uR, hR_uR, nx_uR, sl_uR, st_eq, if_true, if_false, eq_self, Nat.reduceEqDiff, Nat.reduceMul, reduceIte, kdT, ixT, w_cl, w_ti, w_s1, w_a, w_m12, w_m8, w_m3, w_m4]; exact e6 p i hp hi
  · simp only [if_neg c]
    refine ⟨uI_ h 33554440 (st_ (hI_ h 33554440) 0 0), FM_.rf.uM (by decide), by simp only [hI_uI, hL_uI, hR_uI, nx_uI, sl_uI, hI_uL, hL_uL, hR_uL, nx_uL, sl_uL, hI_uR, hL_uR, hR_uR, nx_uR, sl_uR, st_eq, if_true, if_false, eq_self, Nat.reduceEqDiff, Nat.reduceMul, reduceIte, kdT, ixT, w_cl, w_ti, w_s1, w_a, w_m12, w_m8, w_m3, w_m4], fun Q => ?_, hP.u0⟩
    simp (disch := first | omega | assumption | decide) only [s115_0, s115_1, s115_2, s115_5, s115_6, s115_9, s115_11, s115_14, s115_15, s115_16, s115_19, s115_22, s115_25, s115_26, s115_27, s115_30, s115_33, s115_36, s115_37, s115_38, s115_40, s115_43, s115_46, s115_48, s115_49, s115_51, s115_54, s115_57, s115_58, s115_60, s115_63, s115_64, s115_67, s115_68, s115_69, s115_70, s115_73, s115_74, s115_77, s115_78, s115_79, s115_80, s115_83, s115_84, s115_87, s115_88, s115_89, s115_90, s115_93, s115_94, s115_97, s115_99, s115_100, s115_101, s115_101i, s115_102, s115_105, s115_106, s115_107, s115_110, s115_111, s115_114, s115_115, s115_116, K_v, K_0, acI, acA, acJ, acX, List.map_cons, List.map_nil, List.sum_cons, List.sum_nil, true_and, and_true, posT, b2_0, b2_1, bft, true_or, or_true, Nat.zero_le, Nat.reduceAdd, Nat.reduceLeDiff, hI_uI, hL_uI, hR_uI, nx_uI, sl_uI, hI_uL, hL_uL, hR_uL, nx_uL, sl_uL, hI_uR, hL_uR, hR_uR, nx_uR, sl_uR, st_eq, if_true, if_false, eq_self, Nat.reduceEqDiff, Nat.reduceMul, reduceIte, kdT, ixT, w_cl, w_ti, w_s1, w_a, w_m12, w_m8, w_m3, w_m4, hM.r2, hM.r3, hM.r4, hM.r5, hM.r6, hM.r7, hM.r9, hM.r10, hM.r11, hM.r12, hM.r13, hM.r14, hM.r15, hM.r16, hM.r17, hM.r18, hM.r20, hM.r21, hM.r23, hM.r29, hM.r30, hM.r35, hM.r36, hM.r37, hM.r38, hM.r40, hM.r42, hM.r43, hM.r44, hM.r45, hM.r46, hM.r47, e1, c_mwithin, e12]
    by_cases q1 : qn_ P = 12
    · rw [if_pos q1]
    · rw [if_neg q1]
      unfold okP_t at c
      rw [Bool.and_eq_true, Bool.and_eq_true, Bool.and_eq_true] at c
      by_cases q2 : wi_ mi 1 240 = false
      · rw [if_pos q2]
      · rw [if_neg q2]
        by_cases q3 : wi_ ta 0 1000 = false
        · rw [if_pos q3]
        · rw [if_neg q3]
          by_cases q4 : wi_ st 0 11 = false
          · rw [if_pos q4]
          · rw [if_neg q4]
            by_cases q5 : wi_ we 0 30 = false
            · rw [if_pos q5]
            · exact absurd ⟨by omega, by simpa using q2, by simpa using q3, by simpa using q4, by simpa using q5⟩ c
end MPL
