/-! the model: hand, order, count, greatest, had -/
def MH_ (hp : Option Nat) (Hd : Nat → Int32) (h : AH) : Prop := hI_ h 33554440 19 = oi_ hp ∧ (∀ p, hp = some p → p < 12) ∧ ∀ r, r < 8 → hI_ h 38011408 r = Hd r
theorem MH_.eq {hp : Option Nat} {Hd : Nat → Int32} {h h1 : AH} (e0 : hI_ h1 33554440 19 = hI_ h 33554440 19) (e1 : hI_ h1 38011408 = hI_ h 38011408) (H : MH_ hp Hd h) : MH_ hp Hd h1 := by
  unfold MH_ at H ⊢
  rw [e0, e1]
  exact H
def MW_ (wn : Nat) (Or : Nat → Int32) (h : AH) : Prop := hI_ h 33554440 28 = Int32.ofNat wn ∧ wn ≤ 8 ∧ ∀ i, i < wn → hI_ h 39322128 i = Or i
theorem MW_.eq {wn : Nat} {Or : Nat → Int32} {h h1 : AH} (e0 : hI_ h1 33554440 28 = hI_ h 33554440 28) (e1 : hI_ h1 39322128 = hI_ h 39322128) (H : MW_ wn Or h) : MW_ wn Or h1 := by
  unfold MW_ at H ⊢
  rw [e0, e1]
  exact H
section MCN
variable {xs : Nat → Int32} {d : Nat} {h : AH} {P : PS} {Q : OU_ → AH → Prop} {na nf : Nat} {F G L : Nat → Nat → Int32} {hp : Option Nat} {Hd Or : Nat → Int32} {wn : Nat}
def hnd9_ (P : PS) (hp : Option Nat) (Hd : Nat → Int32) (r : Int32) : Int32 := match hp with
  | none => -1
  | some p => if 0 ≤ r.toInt ∧ r.toInt < qr_ P p then Hd r.toNatClampNeg else -1
theorem m_hand {r : Int32} (hM : MS_ h) (hP : MP_ P h) (hH : MH_ hp Hd h) : Do_ xs d 134 [vA (some 33554440), vI r] h (some (some (vI (hnd9_ P hp Hd r)))) (uI_ h 33554440 (st_ (hI_ h 33554440) 0 0)) := by
  obtain ⟨e1, e2, e3⟩ := id hH
  obtain ⟨p1, ⟨p2, p8, p9, p10⟩, p3, p4, p5, p6⟩ := id hP
  intro Q
  unfold hnd9_
  cases hp with
  | none => simp (disch := first | omega | assumption | decide | (apply bT_; decide)) only [s134_0, s134_1, s134_2, s134_5, s134_6, s134_9, s134_10, s134_13, s134_14, s134_17, s134_18, s134_19, s134_22, s134_23, s134_26, s134_27, s134_30, s134_31, s134_34, s134_35, s134_38, s134_39, s134_40, K_v, K_0, acI, acA, acJ, acX, List.map_cons, List.map_nil, List.sum_cons, List.sum_nil, true_and, and_true, posT, b2_0, b2_1, bft, true_or, or_true, Nat.zero_le, Nat.reduceAdd, Nat.reduceLeDiff, hI_uI, hL_uI, hR_uI, nx_uI, sl_uI, hI_uL, hL_uL, hR_uL, nx_uL, sl_uL, hI_uR, hL_uR, hR_uR, nx_uR, sl_uR, st_eq, if_true, if_false, eq_self, Nat.reduceEqDiff, Nat.reduceMul, reduceIte, kdT, ixT, w_cl, w_ti, w_s1, w_a, w_m12, w_m8, w_m3, w_m4, e1, oi_]
  | some p =>
    have hp12 := e2 p rfl
    have g1 := (p4 p hp12).1
    have h8 := p9 p
    have hm1 := oi_m1 (show p < 2147483648 by omega)
    have z : (0 : Int32).toInt = 0 := rfl
    by_cases c : 0 ≤ r.toInt ∧ r.toInt < qr_ P p
    · obtain ⟨k, rfl, hk1, hk2⟩ := w_of c.1
      have hk : k < qr_ P p := by omega
      have g2 := e3 k (by omega)
      simp only [if_pos c, w_cl hk2]
      simp (disch := first | omega | assumption | decide | (apply bT_; decide)) only [s134_0, s134_1, s134_2, s134_5, s134_6, s134_9, s134_10, s134_13, s134_14, s134_17, s134_18, s134_19, s134_22, s134_23, s134_26, s134_27, s134_30, s134_31, s134_34, s134_35, s134_38, s134_39, s134_40, K_v, K_0, acI, acA, acJ, acX, List.map_cons, List.map_nil, List.sum_cons, List.sum_nil, true_and, and_true, posT, b2_0, b2_1, bft, true_or, or_true, Nat.zero_le, Nat.reduceAdd, Nat.reduceLeDiff, hI_uI, hL_uI, hR_uI, nx_uI, sl_uI, hI_uL, hL_uL, hR_uL, nx_uL, sl_uL, hI_uR, hL_uR, hR_uR, nx_uR, sl_uR, st_eq, if_true, if_false, eq_self, Nat.reduceEqDiff, Nat.reduceMul, reduceIte, kdT, ixT, w_cl, w_ti, w_s1, w_a, w_m12, w_m8, w_m3, w_m4, hM.r2, hM.r3, hM.r4, hM.r5, hM.r6, hM.r7, hM.r9, hM.r10, hM.r11, hM.r12, hM.r13, hM.r14, hM.r15, hM.r16, hM.r17, hM.r18, hM.r20, hM.r21, hM.r23, hM.r29, hM.r30, hM.r35, hM.r36, hM.r37, hM.r38, hM.r40, hM.r42, hM.r43, hM.r44, hM.r45, hM.r46, hM.r47, e1, oi_, hm1, g1, g2, w_lt, kd_mRoles, ln_mRoles, kd_mHand, ln_mHand]
      rw [if_neg (w_n0 hk2), if_pos hk]
    · simp only [if_neg c]
      simp (disch := first | omega | assumption | decide | (apply bT_; decide)) only [s134_0, s134_1, s134_2, s134_5, s134_6, s134_9, s134_10, s134_13, s134_14, s134_17, s134_18, s134_19, s134_22, s134_23, s134_26, s134_27, s134_30, s134_31, s134_35, s134_38, s134_39, s134_40, K_v, K_0, acI, acA, acJ, acX, List.map_cons, List.map_nil, List.sum_cons, List.sum_nil, true_and, and_true, posT, b2_0, b2_1, bft, true_or, or_true, Nat.zero_le, Nat.reduceAdd, Nat.reduceLeDiff, hI_uI, hL_uI, hR_uI, nx_uI, sl_uI, hI_uL, hL_uL, hR_uL, nx_uL, sl_uL, hI_uR, hL_uR, hR_uR, nx_uR, sl_uR, st_eq, if_true, if_false, eq_self, Nat.reduceEqDiff, Nat.reduceMul, reduceIte, kdT, ixT, w_cl, w_ti, w_s1, w_a, w_m12, w_m8, w_m3, w_m4, hM.r2, hM.r3, hM.r4, hM.r5, hM.r6, hM.r7, hM.r9, hM.r10, hM.r11, hM.r12, hM.r13, hM.r14, hM.r15, hM.r16, hM.r17, hM.r18, hM.r20, hM.r21, hM.r23, hM.r29, hM.r30, hM.r35, hM.r36, hM.r37, hM.r38, hM.r40, hM.r42, hM.r43, hM.r44, hM.r45, hM.r46, hM.r47, e1, oi_, hm1, g1, kd_mRoles, ln_mRoles, Int32.lt_iff_toInt_lt]
      by_cases q1 : r.toInt < (0 : Int32).toInt
      · rw [if_pos q1]
      · rw [if_neg q1, if_neg (by omega)]
def ord_ (wn : Nat) (Or : Nat → Int32) (i : Int32) : Int32 := if 0 ≤ i.toInt ∧ i.toInt < wn then Or i.toNatClampNeg else -1
theorem m_order {i : Int32} (hM : MS_ h) (hW : MW_ wn Or h) : Do_ xs d 140 [vA (some 33554440), vI i] h (some (some (vI (ord_ wn Or i)))) (uI_ h 33554440 (st_ (hI_ h 33554440) 0 0)) := by
  obtain ⟨e1, e2, e3⟩ := id hW
  intro Q
  unfold ord_
  have z : (0 : Int32).toInt = 0 := rfl
  by_cases c : 0 ≤ i.toInt ∧ i.toInt < wn
  · obtain ⟨k, rfl, hk1, hk2⟩ := w_of c.1
    have hk : k < wn := by omega
    have g2 := e3 k hk
    simp only [if_pos c, w_cl hk2]
    simp (disch := first | omega | assumption | decide | (apply bT_; decide)) only [s140_0, s140_1, s140_2, s140_5, s140_6, s140_9, s140_10, s140_11, s140_14, s140_17, s140_18, s140_21, s140_22, s140_23, s140_26, s140_27, K_v, K_0, acI, acA, acJ, acX, List.map_cons, List.map_nil, List.sum_cons, List.sum_nil, true_and, and_true, posT, b2_0, b2_1, bft, true_or, or_true, Nat.zero_le, Nat.reduceAdd, Nat.reduceLeDiff, hI_uI, hL_uI, hR_uI, nx_uI, sl_uI, hI_uL, hL_uL, hR_uL, nx_uL, sl_uL, hI_uR, hL_uR, hR_uR, nx_uR, sl_uR, st_eq, if_true, if_false, eq_self, Nat.reduceEqDiff, Nat.reduceMul, reduceIte, kdT, ixT, w_cl, w_ti, w_s1, w_a, w_m12, w_m8, w_m3, w_m4, hM.r2, hM.r3, hM.r4, hM.r5, hM.r6, hM.r7, hM.r9, hM.r10, hM.r11, hM.r12, hM.r13, hM.r14, hM.r15, hM.r16, hM.r17, hM.r18, hM.r20, hM.r21, hM.r23, hM.r29, hM.r30, hM.r35, hM.r36, hM.r37, hM.r38, hM.r40, hM.r42, hM.r43, hM.r44, hM.r45, hM.r46, hM.r47, e1, g2, w_lt, kd_mOrder, ln_mOrder]
    rw [if_neg (w_n0 hk2), if_pos hk]
  · simp only [if_neg c]
    simp (disch := first | omega | assumption | decide | (apply bT_; decide)) only [s140_0, s140_1, s140_2, s140_5, s140_6, s140_9, s140_10, s140_11, s140_14, s140_18, s140_21, s140_22, s140_23, s140_26, s140_27, K_v, K_0, acI, acA, acJ, acX, List.map_cons, List.map_nil, List.sum_cons, List.sum_nil, true_and, and_true, posT, b2_0, b2_1, bft, true_or, or_true, Nat.zero_le, Nat.reduceAdd, Nat.reduceLeDiff, hI_uI, hL_uI, hR_uI, nx_uI, sl_uI, hI_uL, hL_uL, hR_uL, nx_uL, sl_uL, hI_uR, hL_uR, hR_uR, nx_uR, sl_uR, st_eq, if_true, if_false, eq_self, Nat.reduceEqDiff, Nat.reduceMul, reduceIte, kdT, ixT, w_cl, w_ti, w_s1, w_a, w_m12, w_m8, w_m3, w_m4, e1, Int32.lt_iff_toInt_lt]
    by_cases q1 : i.toInt < (0 : Int32).toInt
    · rw [if_pos q1]
    · rw [if_neg q1, if_neg (by omega)]
/-- those who are in -/
def inn_ (na : Nat) (F : Nat → Nat → Int32) : Nat := it_ (ctb_ (fun a => !decide (F a 4 = 0))) na 0 0
def cnt_ (na np nf nt : Nat) (hp : Option Nat) (wn tl : Nat) (F : Nat → Nat → Int32) (w : Int32) : Int32 := if w = 0 then Int32.ofNat na else if w = 1 then Int32.ofNat np else if w = 2 then Int32.ofNat nf else if w = 3 then Int32.ofNat nt else if w = 4 then oi_ hp else if w = 5 then Int32.ofNat wn else if w = 6 then Int32.ofNat tl else if w = 7 then Int32.ofNat (inn_ na F) else -1
theorem w_cases {w : Int32} (h : ¬ (w.toInt < 0 ∨ 7 < w.toInt)) : w = 0 ∨ w = 1 ∨ w = 2 ∨ w = 3 ∨ w = 4 ∨ w = 5 ∨ w = 6 ∨ w = 7 := by
  obtain ⟨k, rfl, hk1, hk2⟩ := w_of (x := w) (by omega)
  have hk : k ≤ 7 := by omega
  match k, hk with
  | 0, _ => exact Or.inl rfl
  | 1, _ => exact Or.inr (Or.inl rfl)
  | 2, _ => exact Or.inr (Or.inr (Or.inl rfl))
  | 3, _ => exact Or.inr (Or.inr (Or.inr (Or.inl rfl)))
  | 4, _ => exact Or.inr (Or.inr (Or.inr (Or.inr (Or.inl rfl))))
  | 5, _ => exact Or.inr (Or.inr (Or.inr (Or.inr (Or.inr (Or.inl rfl)))))
  | 6, _ => exact Or.inr (Or.inr (Or.inr (Or.inr (Or.inr (Or.inr (Or.inl rfl))))))
  | 7, _ => exact Or.inr (Or.inr (Or.inr (Or.inr (Or.inr (Or.inr (Or.inr rfl))))))
theorem m_count {np nt tl : Nat} {w : Int32} (hM : MS_ h) (hA : MA_ na F G h) (e8 : hI_ h 33554440 8 = Int32.ofNat np) (e34 : hI_ h 33554440 34 = Int32.ofNat nf) (e41 : hI_ h 33554440 41 = Int32.ofNat nt) (e19 : hI_ h 33554440 19 = oi_ hp) (e28 : hI_ h 33554440 28 = Int32.ofNat wn) (e39 : hI_ h 33554440 39 = Int32.ofNat tl) :
    Do_ xs d 173 [vA (some 33554440), vI w, vX 0, vX 0] h (some (some (vI (cnt_ na np nf nt hp wn tl F w)))) (uI_ h 33554440 (st_ (hI_ h 33554440) 0 0)) := by
  obtain ⟨a1, a2, a3, a4⟩ := id hA
  intro Q
  have hb : kd_ 34865938 = 17 ∨ kd_ 34865938 = 18 := Or.inr rfl
  by_cases c : w.toInt < 0 ∨ 7 < w.toInt
  · have hne : ∀ k : Nat, k ≤ 7 → ¬ (w = Int32.ofNat k) := fun k hk e => by rw [e, w_ti (by omega)] at c; omega
    unfold cnt_
    rw [if_neg (show ¬ w = 0 from hne 0 (by omega)), if_neg (show ¬ w = 1 from hne 1 (by omega)), if_neg (show ¬ w = 2 from hne 2 (by omega)), if_neg (show ¬ w = 3 from hne 3 (by omega)), if_neg (show ¬ w = 4 from hne 4 (by omega)), if_neg (show ¬ w = 5 from hne 5 (by omega)), if_neg (show ¬ w = 6 from hne 6 (by omega)), if_neg (show ¬ w = 7 from hne 7 (by omega))]
    simp (disch := first | omega | assumption | decide | (apply bT_; decide)) only [s173_0, s173_1, s173_2, s173_5, s173_6_0, s173_6_1, s173_6_2, s173_6_3, s173_6_4, s173_6_5, s173_6_6, s173_6_7, s173_6_d, s173_52, s173_53, s173_56, s173_57, s173_58, s173_61, s173_62, s173_63, s173_66, s173_67, s173_68, s173_71, s173_72, s173_73, s173_76, s173_77, s173_78, s173_81, s173_82, s173_83, s173_86, s173_87, s173_88, s173_89, s173_90, s173_91, s173_92, s173_93, s173_96, s173_99, s173_100, s173_103, s173_104, s173_105, s173_108, s173_111, s173_114, s173_117, s173_118, s173_119, s173_120, K_v, K_0, acI, acA, acJ, acX, List.map_cons, List.map_nil, List.sum_cons, List.sum_nil, true_and, and_true, posT, b2_0, b2_1, bft, true_or, or_true, Nat.zero_le, Nat.reduceAdd, Nat.reduceLeDiff, hI_uI, hL_uI, hR_uI, nx_uI, sl_uI, hI_uL, hL_uL, hR_uL, nx_uL, sl_uL, hI_uR, hL_uR, hR_uR, nx_uR, sl_uR, st_eq, if_true, if_false, eq_self, Nat.reduceEqDiff, Nat.reduceMul, reduceIte, kdT, ixT, w_cl, w_ti, w_s1, w_a, w_m12, w_m8, w_m3, w_m4]
  · rcases w_cases c with rfl | rfl | rfl | rfl | rfl | rfl | rfl | rfl
    · simp (disch := first | omega | assumption | decide | (apply bT_; decide)) only [s173_0, s173_1, s173_2, s173_5, s173_6_0, s173_6_1, s173_6_2, s173_6_3, s173_6_4, s173_6_5, s173_6_6, s173_6_7, s173_6_d, s173_52, s173_53, s173_56, s173_57, s173_58, s173_61, s173_62, s173_63, s173_66, s173_67, s173_68, s173_71, s173_72, s173_73, s173_76, s173_77, s173_78, s173_81, s173_82, s173_83, s173_86, s173_87, s173_88, s173_89, s173_90, s173_91, s173_92, s173_93, s173_96, s173_99, s173_100, s173_103, s173_104, s173_105, s173_108, s173_111, s173_114, s173_117, s173_118, s173_119, s173_120, K_v, K_0, acI, acA, acJ, acX, List.map_cons, List.map_nil, List.sum_cons, List.sum_nil, true_and, and_true, posT, b2_0, b2_1, bft, true_or, or_true, Nat.zero_le, Nat.reduceAdd, Nat.reduceLeDiff, hI_uI, hL_uI, hR_uI, nx_uI, sl_uI, hI_uL, hL_uL, hR_uL, nx_uL, sl_uL, hI_uR, hL_uR, hR_uR, nx_uR, sl_uR, st_eq, if_true, if_false, eq_self, Nat.reduceEqDiff, Nat.reduceMul, reduceIte, kdT, ixT, w_cl, w_ti, w_s1, w_a, w_m12, w_m8, w_m3, w_m4, a1]; rfl
    · simp (disch := first | omega | assumption | decide | (apply bT_; decide)) only [s173_0, s173_1, s173_2, s173_5, s173_6_0, s173_6_1, s173_6_2, s173_6_3, s173_6_4, s173_6_5, s173_6_6, s173_6_7, s173_6_d, s173_52, s173_53, s173_56, s173_57, s173_58, s173_61, s173_62, s173_63, s173_66, s173_67, s173_68, s173_71, s173_72, s173_73, s173_76, s173_77, s173_78, s173_81, s173_82, s173_83, s173_86, s173_87, s173_88, s173_89, s173_90, s173_91, s173_92, s173_93, s173_96, s173_99, s173_100, s173_103, s173_104, s173_105, s173_108, s173_111, s173_114, s173_117, s173_118, s173_119, s173_120, K_v, K_0, acI, acA, acJ, acX, List.map_cons, List.map_nil, List.sum_cons, List.sum_nil, true_and, and_true, posT, b2_0, b2_1, bft, true_or, or_true, Nat.zero_le, Nat.reduceAdd, Nat.reduceLeDiff, hI_uI, hL_uI, hR_uI, nx_uI, sl_uI, hI_uL, hL_uL, hR_uL, nx_uL, sl_uL, hI_uR, hL_uR, hR_uR, nx_uR, sl_uR, st_eq, if_true, if_false, eq_self, Nat.reduceEqDiff, Nat.reduceMul, reduceIte, kdT, ixT, w_cl, w_ti, w_s1, w_a, w_m12, w_m8, w_m3, w_m4, e8]; rfl
    · simp (disch := first | omega | assumption | decide | (apply bT_; decide)) only [s173_0, s173_1, s173_2, s173_5, s173_6_0, s173_6_1, s173_6_2, s173_6_3, s173_6_4, s173_6_5, s173_6_6, s173_6_7, s173_6_d, s173_52, s173_53, s173_56, s173_57, s173_58, s173_61, s173_62, s173_63, s173_66, s173_67, s173_68, s173_71, s173_72, s173_73, s173_76, s173_77, s173_78, s173_81, s173_82, s173_83, s173_86, s173_87, s173_88, s173_89, s173_90, s173_91, s173_92, s173_93, s173_96, s173_99, s173_100, s173_103, s173_104, s173_105, s173_108, s173_111, s173_114, s173_117, s173_118, s173_119, s173_120, K_v, K_0, acI, acA, acJ, acX, List.map_cons, List.map_nil, List.sum_cons, List.sum_nil, true_and, and_true, posT, b2_0, b2_1, bft, true_or, or_true, Nat.zero_le, Nat.reduceAdd, Nat.reduceLeDiff, hI_uI, hL_uI, hR_uI, nx_uI, sl_uI, hI_uL, hL_uL, hR_uL, nx_uL, sl_uL, hI_uR, hL_uR, hR_uR, nx_uR, sl_uR, st_eq, if_true, if_false, eq_self, Nat.reduceEqDiff, Nat.reduceMul, reduceIte, kdT, ixT, w_cl, w_ti, w_s1, w_a, w_m12, w_m8, w_m3, w_m4, e34]; rfl
    · simp (disch := first | omega | assumption | decide | (apply bT_; decide)) only [s173_0, s173_1, s173_2, s173_5, s173_6_0, s173_6_1, s173_6_2, s173_6_3, s173_6_4, s173_6_5, s173_6_6, s173_6_7, s173_6_d, s173_52, s173_53, s173_56, s173_57, s173_58, s173_61, s173_62, s173_63, s173_66, s173_67, s173_68, s173_71, s173_72, s173_73, s173_76, s173_77, s173_78, s173_81, s173_82, s173_83, s173_86, s173_87, s173_88, s173_89, s173_90, s173_91, s173_92, s173_93, s173_96, s173_99, s173_100, s173_103, s173_104, s173_105, s173_108, s173_111, s173_114, s173_117, s173_118, s173_119, s173_120, K_v, K_0, acI, acA, acJ, acX, List.map_cons, List.map_nil, List.sum_cons, List.sum_nil, true_and, and_true, posT, b2_0, b2_1, bft, true_or, or_true, Nat.zero_le, Nat.reduceAdd, Nat.reduceLeDiff, hI_uI, hL_uI, hR_uI, nx_uI, sl_uI, hI_uL, hL_uL, hR_uL, nx_uL, sl_uL, hI_uR, hL_uR, hR_uR, nx_uR, sl_uR, st_eq, if_true, if_false, eq_self, Nat.reduceEqDiff, Nat.reduceMul, reduceIte, kdT, ixT, w_cl, w_ti, w_s1, w_a, w_m12, w_m8, w_m3, w_m4, e41]; rfl
    · simp (disch := first | omega | assumption | decide | (apply bT_; decide)) only [s173_0, s173_1, s173_2, s173_5, s173_6_0, s173_6_1, s173_6_2, s173_6_3, s173_6_4, s173_6_5, s173_6_6, s173_6_7, s173_6_d, s173_52, s173_53, s173_56, s173_57, s173_58, s173_61, s173_62, s173_63, s173_66, s173_67, s173_68, s173_71, s173_72, s173_73, s173_76, s173_77, s173_78, s173_81, s173_82, s173_83, s173_86, s173_87, s173_88, s173_89, s173_90, s173_91, s173_92, s173_93, s173_96, s173_99, s173_100, s173_103, s173_104, s173_105, s173_108, s173_111, s173_114, s173_117, s173_118, s173_119, s173_120, K_v, K_0, acI, acA, acJ, acX, List.map_cons, List.map_nil, List.sum_cons, List.sum_nil, true_and, and_true, posT, b2_0, b2_1, bft, true_or, or_true, Nat.zero_le, Nat.reduceAdd, Nat.reduceLeDiff, hI_uI, hL_uI, hR_uI, nx_uI, sl_uI, hI_uL, hL_uL, hR_uL, nx_uL, sl_uL, hI_uR, hL_uR, hR_uR, nx_uR, sl_uR, st_eq, if_true, if_false, eq_self, Nat.reduceEqDiff, Nat.reduceMul, reduceIte, kdT, ixT, w_cl, w_ti, w_s1, w_a, w_m12, w_m8, w_m3, w_m4, e19]; rfl
    · simp (disch := first | omega | assumption | decide | (apply bT_; decide)) only [s173_0, s173_1, s173_2, s173_5, s173_6_0, s173_6_1, s173_6_2, s173_6_3, s173_6_4, s173_6_5, s173_6_6, s173_6_7, s173_6_d, s173_52, s173_53, s173_56, s173_57, s173_58, s173_61, s173_62, s173_63, s173_66, s173_67, s173_68, s173_71, s173_72, s173_73, s173_76, s173_77, s173_78, s173_81, s173_82, s173_83, s173_86, s173_87, s173_88, s173_89, s173_90, s173_91, s173_92, s173_93, s173_96, s173_99, s173_100, s173_103, s173_104, s173_105, s173_108, s173_111, s173_114, s173_117, s173_118, s173_119, s173_120, K_v, K_0, acI, acA, acJ, acX, List.map_cons, List.map_nil, List.sum_cons, List.sum_nil, true_and, and_true, posT, b2_0, b2_1, bft, true_or, or_true, Nat.zero_le, Nat.reduceAdd, Nat.reduceLeDiff, hI_uI, hL_uI, hR_uI, nx_uI, sl_uI, hI_uL, hL_uL, hR_uL, nx_uL, sl_uL, hI_uR, hL_uR, hR_uR, nx_uR, sl_uR, st_eq, if_true, if_false, eq_self, Nat.reduceEqDiff, Nat.reduceMul, reduceIte, kdT, ixT, w_cl, w_ti, w_s1, w_a, w_m12, w_m8, w_m3, w_m4, e28]; rfl
    · simp (disch := first | omega | assumption | decide | (apply bT_; decide)) only [s173_0, s173_1, s173_2, s173_5, s173_6_0, s173_6_1, s173_6_2, s173_6_3, s173_6_4, s173_6_5, s173_6_6, s173_6_7, s173_6_d, s173_52, s173_53, s173_56, s173_57, s173_58, s173_61, s173_62, s173_63, s173_66, s173_67, s173_68, s173_71, s173_72, s173_73, s173_76, s173_77, s173_78, s173_81, s173_82, s173_83, s173_86, s173_87, s173_88, s173_89, s173_90, s173_91, s173_92, s173_93, s173_96, s173_99, s173_100, s173_103, s173_104, s173_105, s173_108, s173_111, s173_114, s173_117, s173_118, s173_119, s173_120, K_v, K_0, acI, acA, acJ, acX, List.map_cons, List.map_nil, List.sum_cons, List.sum_nil, true_and, and_true, posT, b2_0, b2_1, bft, true_or, or_true, Nat.zero_le, Nat.reduceAdd, Nat.reduceLeDiff, hI_uI, hL_uI, hR_uI, nx_uI, sl_uI, hI_uL, hL_uL, hR_uL, nx_uL, sl_uL, hI_uR, hL_uR, hR_uR, nx_uR, sl_uR, st_eq, if_true, if_false, eq_self, Nat.reduceEqDiff, Nat.reduceMul, reduceIte, kdT, ixT, w_cl, w_ti, w_s1, w_a, w_m12, w_m8, w_m3, w_m4, e39]; rfl
    · have L9 := loop_ (P := fun k n => V_ xs d 173 91 [vA (some 33554440), vI 7, vI (Int32.ofNat n), vI (Int32.ofNat k)] [] (uI_ h 33554440 (st_ (hI_ h 33554440) 0 0)) Q) (f := ctb_ (fun a => !decide (F a 4 = 0))) (n := na) (fun _ _ => True) (fun k n hk _ => ⟨by
        have g1 := (a3 k hk).2.2.2.2
        rw [s173_91]
        simp (disch := first | omega | assumption | decide | (apply bT_; decide)) only [s173_0, s173_1, s173_2, s173_5, s173_6_0, s173_6_1, s173_6_2, s173_6_3, s173_6_4, s173_6_5, s173_6_6, s173_6_7, s173_6_d, s173_52, s173_53, s173_56, s173_57, s173_58, s173_61, s173_62, s173_63, s173_66, s173_67, s173_68, s173_71, s173_72, s173_73, s173_76, s173_77, s173_78, s173_81, s173_82, s173_83, s173_86, s173_87, s173_88, s173_89, s173_90, s173_92, s173_93, s173_96, s173_99, s173_100, s173_103, s173_104, s173_105, s173_108, s173_111, s173_114, s173_117, s173_118, s173_119, s173_120, K_v, K_0, acI, acA, acJ, acX, List.map_cons, List.map_nil, List.sum_cons, List.sum_nil, true_and, and_true, posT, b2_0, b2_1, bft, true_or, or_true, Nat.zero_le, Nat.reduceAdd, Nat.reduceLeDiff, hI_uI, hL_uI, hR_uI, nx_uI, sl_uI, hI_uL, hL_uL, hR_uL, nx_uL, sl_uL, hI_uR, hL_uR, hR_uR, nx_uR, sl_uR, st_eq, if_true, if_false, eq_self, Nat.reduceEqDiff, Nat.reduceMul, reduceIte, kdT, ixT, w_cl, w_ti, w_s1, w_a, w_m12, w_m8, w_m3, w_m4, hM.r2, hM.r3, hM.r4, hM.r5, hM.r6, hM.r7, hM.r9, hM.r10, hM.r11, hM.r12, hM.r13, hM.r14, hM.r15, hM.r16, hM.r17, hM.r18, hM.r20, hM.r21, hM.r23, hM.r29, hM.r30, hM.r35, hM.r36, hM.r37, hM.r38, hM.r40, hM.r42, hM.r43, hM.r44, hM.r45, hM.r46, hM.r47, a1, g1, w_lt, ctb_, kd_mIn, ln_mIn]
        rw [if_pos hk]
        by_cases q : F k 4 = 0
        · rw [if_pos q, if_neg (by simp [q])]
        · rw [if_neg q, if_pos (by simp [q])], trivial⟩) na 0 0 (by omega) trivial
      simp (disch := first | omega | assumption | decide | (apply bT_; decide)) only [s173_0, s173_1, s173_2, s173_5, s173_6_0, s173_6_1, s173_6_2, s173_6_3, s173_6_4, s173_6_5, s173_6_6, s173_6_7, s173_6_d, s173_52, s173_53, s173_56, s173_57, s173_58, s173_61, s173_62, s173_63, s173_66, s173_67, s173_68, s173_71, s173_72, s173_73, s173_76, s173_77, s173_78, s173_81, s173_82, s173_83, s173_86, s173_87, s173_88, s173_89, s173_90, s173_92, s173_93, s173_96, s173_99, s173_100, s173_103, s173_104, s173_105, s173_108, s173_111, s173_114, s173_117, s173_118, s173_119, s173_120, K_v, K_0, acI, acA, acJ, acX, List.map_cons, List.map_nil, List.sum_cons, List.sum_nil, true_and, and_true, posT, b2_0, b2_1, bft, true_or, or_true, Nat.zero_le, Nat.reduceAdd, Nat.reduceLeDiff, hI_uI, hL_uI, hR_uI, nx_uI, sl_uI, hI_uL, hL_uL, hR_uL, nx_uL, sl_uL, hI_uR, hL_uR, hR_uR, nx_uR, sl_uR, st_eq, if_true, if_false, eq_self, Nat.reduceEqDiff, Nat.reduceMul, reduceIte, kdT, ixT, w_cl, w_ti, w_s1, w_a, w_m12, w_m8, w_m3, w_m4]
      refine (show V_ xs d 173 91 [vA (some 33554440), vI 7, vI (Int32.ofNat 0), vI (Int32.ofNat 0)] [] _ Q ↔ _ from L9.1).trans ?_
      rw [s173_91]
      simp (disch := first | omega | assumption | decide | (apply bT_; decide)) only [s173_0, s173_1, s173_2, s173_5, s173_6_0, s173_6_1, s173_6_2, s173_6_3, s173_6_4, s173_6_5, s173_6_6, s173_6_7, s173_6_d, s173_52, s173_53, s173_56, s173_57, s173_58, s173_61, s173_62, s173_63, s173_66, s173_67, s173_68, s173_71, s173_72, s173_73, s173_76, s173_77, s173_78, s173_81, s173_82, s173_83, s173_86, s173_87, s173_88, s173_89, s173_90, s173_92, s173_93, s173_96, s173_99, s173_100, s173_103, s173_104, s173_105, s173_108, s173_111, s173_114, s173_117, s173_118, s173_119, s173_120, K_v, K_0, acI, acA, acJ, acX, List.map_cons, List.map_nil, List.sum_cons, List.sum_nil, true_and, and_true, posT, b2_0, b2_1, bft, true_or, or_true, Nat.zero_le, Nat.reduceAdd, Nat.reduceLeDiff, hI_uI, hL_uI, hR_uI, nx_uI, sl_uI, hI_uL, hL_uL, hR_uL, nx_uL, sl_uL, hI_uR, hL_uR, hR_uR, nx_uR, sl_uR, st_eq, if_true, if_false, eq_self, Nat.reduceEqDiff, Nat.reduceMul, reduceIte, kdT, ixT, w_cl, w_ti, w_s1, w_a, w_m12, w_m8, w_m3, w_m4, a1, w_lt]
      rw [if_neg (by omega)]
      rfl
/-- the greatest grade -/
def gre_ (G : Nat → Nat → Int32) (a : Nat) : Int32 := it_ (fun k g => if g < G a k then G a k else g) 12 0 0
theorem c_mgreatest {a : Nat} (hM : MS_ h) (hA : MA_ na F G h) (ha : a < na) (hd : 1 ≤ d) : V_ xs d 163 0 [vA (some 33554440), vI (Int32.ofNat a), vX 0, vX 0] [] h Q ↔ Q (some (some (vI (gre_ G a)))) h := by
  obtain ⟨a1, a2, a3, a4⟩ := id hA
  have L9 := loop_ (P := fun k g => V_ xs d 163 4 [vA (some 33554440), vI (Int32.ofNat a), vI g, vI (Int32.ofNat k)] [] h Q) (f := fun k g => if g < G a k then G a k else g) (n := 12) (fun _ _ => True) (fun k g hk _ => ⟨by
    have g1 := a4 a k ha hk
    rw [s163_4]
    simp (disch := first | omega | assumption | decide | (apply bT_; decide)) only [s163_0, s163_1, s163_2, s163_3, s163_5, s163_7, s163_10, s163_11, s163_12, s163_15, s163_17, s163_18, s163_19, s163_20, s163_21, s163_22, s163_25, s163_26, s163_29, s163_32, s163_33, K_v, K_0, acI, acA, acJ, acX, List.map_cons, List.map_nil, List.sum_cons, List.sum_nil, true_and, and_true, posT, b2_0, b2_1, bft, true_or, or_true, Nat.zero_le, Nat.reduceAdd, Nat.reduceLeDiff, hI_uI, hL_uI, hR_uI, nx_uI, sl_uI, hI_uL, hL_uL, hR_uL, nx_uL, sl_uL, hI_uR, hL_uR, hR_uR, nx_uR, sl_uR, st_eq, if_true, if_false, eq_self, Nat.reduceEqDiff, Nat.reduceMul, reduceIte, kdT, ixT, w_cl, w_ti, w_s1, w_a, w_m12, w_m8, w_m3, w_m4, hM.r2, hM.r3, hM.r4, hM.r5, hM.r6, hM.r7, hM.r9, hM.r10, hM.r11, hM.r12, hM.r13, hM.r14, hM.r15, hM.r16, hM.r17, hM.r18, hM.r20, hM.r21, hM.r23, hM.r29, hM.r30, hM.r35, hM.r36, hM.r37, hM.r38, hM.r40, hM.r42, hM.r43, hM.r44, hM.r45, hM.r46, hM.r47, g1, c_max, w12, kd_mGrade, ln_mGrade]
    rw [if_pos hk], trivial⟩) 12 0 0 rfl trivial
  simp (disch := first | omega | assumption | decide | (apply bT_; decide)) only [s163_0, s163_1, s163_2, s163_3, s163_5, s163_7, s163_10, s163_11, s163_12, s163_15, s163_17, s163_18, s163_19, s163_20, s163_21, s163_22, s163_25, s163_26, s163_29, s163_32, s163_33, K_v, K_0, acI, acA, acJ, acX, List.map_cons, List.map_nil, List.sum_cons, List.sum_nil, true_and, and_true, posT, b2_0, b2_1, bft, true_or, or_true, Nat.zero_le, Nat.reduceAdd, Nat.reduceLeDiff, hI_uI, hL_uI, hR_uI, nx_uI, sl_uI, hI_uL, hL_uL, hR_uL, nx_uL, sl_uL, hI_uR, hL_uR, hR_uR, nx_uR, sl_uR, st_eq, if_true, if_false, eq_self, Nat.reduceEqDiff, Nat.reduceMul, reduceIte, kdT, ixT, w_cl, w_ti, w_s1, w_a, w_m12, w_m8, w_m3, w_m4]
  refine (show V_ xs d 163 4 [vA (some 33554440), vI (Int32.ofNat a), vI 0, vI (Int32.ofNat 0)] [] _ Q ↔ _ from L9.1).trans ?_
  rw [s163_4]
  simp (disch := first | omega | assumption | decide | (apply bT_; decide)) only [s163_0, s163_1, s163_2, s163_3, s163_5, s163_7, s163_10, s163_11, s163_12, s163_15, s163_17, s163_18, s163_19, s163_20, s163_21, s163_22, s163_25, s163_26, s163_29, s163_32, s163_33, K_v, K_0, acI, acA, acJ, acX, List.map_cons, List.map_nil, List.sum_cons, List.sum_nil, true_and, and_true, posT, b2_0, b2_1, bft, true_or, or_true, Nat.zero_le, Nat.reduceAdd, Nat.reduceLeDiff, hI_uI, hL_uI, hR_uI, nx_uI, sl_uI, hI_uL, hL_uL, hR_uL, nx_uL, sl_uL, hI_uR, hL_uR, hR_uR, nx_uR, sl_uR, st_eq, if_true, if_false, eq_self, Nat.reduceEqDiff, Nat.reduceMul, reduceIte, kdT, ixT, w_cl, w_ti, w_s1, w_a, w_m12, w_m8, w_m3, w_m4, w12]
  rw [if_neg (by omega)]
  rfl
/-- how many roles of the cast at hand -/
def had_ (hp : Option Nat) (Hd : Nat → Int32) (a : Int32) : Nat := match hp with
  | none => 0
  | some _ => it_ (ctb_ (fun r => decide (Hd r = a))) 8 0 0
theorem c_mhad {a : Int32} (hM : MS_ h) (hH : MH_ hp Hd h) : V_ xs d 164 0 [vA (some 33554440), vI a, vX 0, vX 0] [] h Q ↔ Q (some (some (vI (Int32.ofNat (had_ hp Hd a))))) h := by
  obtain ⟨e1, e2, e3⟩ := id hH
  unfold had_
  cases hp with
  | none =>
    simp (disch := first | omega | assumption | decide | (apply bT_; decide)) only [s164_0, s164_1, s164_2, s164_3, s164_4, s164_5, s164_7, s164_10, s164_11, s164_14, s164_15, s164_18, s164_19, s164_22, s164_23, s164_24, s164_25, s164_28, s164_31, s164_34, s164_37, s164_38, K_v, K_0, acI, acA, acJ, acX, List.map_cons, List.map_nil, List.sum_cons, List.sum_nil, true_and, and_true, posT, b2_0, b2_1, bft, true_or, or_true, Nat.zero_le, Nat.reduceAdd, Nat.reduceLeDiff, hI_uI, hL_uI, hR_uI, nx_uI, sl_uI, hI_uL, hL_uL, hR_uL, nx_uL, sl_uL, hI_uR, hL_uR, hR_uR, nx_uR, sl_uR, st_eq, if_true, if_false, eq_self, Nat.reduceEqDiff, Nat.reduceMul, reduceIte, kdT, ixT, w_cl, w_ti, w_s1, w_a, w_m12, w_m8, w_m3, w_m4, e1, oi_]
    rw [if_pos (by decide)]
    rfl
  | some p =>
    have hm1 := oi_m1 (show p < 2147483648 by have := e2 p rfl; omega)
    have L9 := loop_ (P := fun k n => V_ xs d 164 4 [vA (some 33554440), vI a, vI (Int32.ofNat n), vI (Int32.ofNat k)] [] h Q) (f := ctb_ (fun r => decide (Hd r = a))) (n := 8) (fun _ _ => True) (fun k n hk _ => ⟨by
      have g1 := e3 k hk
      rw [s164_4]
      simp (disch := first | omega | assumption | decide | (apply bT_; decide)) only [s164_0, s164_1, s164_2, s164_3, s164_5, s164_7, s164_10, s164_11, s164_14, s164_15, s164_18, s164_19, s164_22, s164_23, s164_24, s164_25, s164_28, s164_31, s164_34, s164_37, s164_38, K_v, K_0, acI, acA, acJ, acX, List.map_cons, List.map_nil, List.sum_cons, List.sum_nil, true_and, and_true, posT, b2_0, b2_1, bft, true_or, or_true, Nat.zero_le, Nat.reduceAdd, Nat.reduceLeDiff, hI_uI, hL_uI, hR_uI, nx_uI, sl_uI, hI_uL, hL_uL, hR_uL, nx_uL, sl_uL, hI_uR, hL_uR, hR_uR, nx_uR, sl_uR, st_eq, if_true, if_false, eq_self, Nat.reduceEqDiff, Nat.reduceMul, reduceIte, kdT, ixT, w_cl, w_ti, w_s1, w_a, w_m12, w_m8, w_m3, w_m4, hM.r2, hM.r3, hM.r4, hM.r5, hM.r6, hM.r7, hM.r9, hM.r10, hM.r11, hM.r12, hM.r13, hM.r14, hM.r15, hM.r16, hM.r17, hM.r18, hM.r20, hM.r21, hM.r23, hM.r29, hM.r30, hM.r35, hM.r36, hM.r37, hM.r38, hM.r40, hM.r42, hM.r43, hM.r44, hM.r45, hM.r46, hM.r47, e1, oi_, hm1, g1, w8, ctb_, decide_eq_true_iff, kd_mHand, ln_mHand]
      rw [if_pos hk]
      by_cases q : Hd k = a
      · rw [if_pos q, if_pos q]
      · rw [if_neg q, if_neg q], trivial⟩) 8 0 0 rfl trivial
    simp (disch := first | omega | assumption | decide | (apply bT_; decide)) only [s164_0, s164_1, s164_2, s164_3, s164_5, s164_7, s164_10, s164_11, s164_14, s164_15, s164_18, s164_19, s164_22, s164_23, s164_24, s164_25, s164_28, s164_31, s164_34, s164_37, s164_38, K_v, K_0, acI, acA, acJ, acX, List.map_cons, List.map_nil, List.sum_cons, List.sum_nil, true_and, and_true, posT, b2_0, b2_1, bft, true_or, or_true, Nat.zero_le, Nat.reduceAdd, Nat.reduceLeDiff, hI_uI, hL_uI, hR_uI, nx_uI, sl_uI, hI_uL, hL_uL, hR_uL, nx_uL, sl_uL, hI_uR, hL_uR, hR_uR, nx_uR, sl_uR, st_eq, if_true, if_false, eq_self, Nat.reduceEqDiff, Nat.reduceMul, reduceIte, kdT, ixT, w_cl, w_ti, w_s1, w_a, w_m12, w_m8, w_m3, w_m4]
    refine (show V_ xs d 164 4 [vA (some 33554440), vI a, vI (Int32.ofNat 0), vI (Int32.ofNat 0)] [] _ Q ↔ _ from L9.1).trans ?_
    rw [s164_4]
    simp (disch := first | omega | assumption | decide | (apply bT_; decide)) only [s164_0, s164_1, s164_2, s164_3, s164_5, s164_7, s164_10, s164_11, s164_14, s164_15, s164_18, s164_19, s164_22, s164_23, s164_24, s164_25, s164_28, s164_31, s164_34, s164_37, s164_38, K_v, K_0, acI, acA, acJ, acX, List.map_cons, List.map_nil, List.sum_cons, List.sum_nil, true_and, and_true, posT, b2_0, b2_1, bft, true_or, or_true, Nat.zero_le, Nat.reduceAdd, Nat.reduceLeDiff, hI_uI, hL_uI, hR_uI, nx_uI, sl_uI, hI_uL, hL_uL, hR_uL, nx_uL, sl_uL, hI_uR, hL_uR, hR_uR, nx_uR, sl_uR, st_eq, if_true, if_false, eq_self, Nat.reduceEqDiff, Nat.reduceMul, reduceIte, kdT, ixT, w_cl, w_ti, w_s1, w_a, w_m12, w_m8, w_m3, w_m4, w8]
    rw [if_neg (by omega)]
end MCN
