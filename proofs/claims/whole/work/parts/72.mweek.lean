/-! the week: the model's search -/
def TR_ (m n : Nat) (T : Nat → Nat) (B v : Nat) (L : List Nat) (x0 x : AH) : Prop := if v < B then hI_ x 33554440 31 = Int32.ofNat v ∧ hI_ x 33554440 28 = Int32.ofNat n ∧ ∀ j, j < n → hI_ x 39322128 j = Int32.ofNat (if j < m then T j else L.getD (j - m) 0) else hI_ x 33554440 31 = Int32.ofNat B ∧ hI_ x 33554440 28 = hI_ x0 33554440 28 ∧ hI_ x 39322128 = hI_ x0 39322128
def cst_ (P : PS) (m : Nat) (T : Nat → Nat) : Nat → Nat := if m = 0 then wf_ P else wk_ P (T (m - 1))
theorem mem_st {s a : Nat} (hs : s < 2 ^ a) : ∀ {k : Nat}, mem_ s (a + k) = mem_ s a := by
  intro k
  induction k with
  | zero => rfl
  | succ k ih =>
    show mem_ s (a + k + 1) = _
    rw [mem_s, Nat.testBit_lt_two_pow (Nat.lt_of_lt_of_le hs (Nat.pow_le_pow_right (by omega) (by omega))), if_neg (by decide), ih]
theorem mem_st' {s a n : Nat} (hs : s < 2 ^ a) (h : a ≤ n) : mem_ s n = mem_ s a := by
  have := mem_st hs (k := n - a)
  rw [show a + (n - a) = n by omega] at this
  exact this
theorem w_andn {s p : Nat} (hp : s.testBit p = true) (h31 : p < 31) : Int32.ofNat s &&& (Int32.ofNat (2 ^ p) ^^^ (-1)) = Int32.ofNat (s ^^^ 2 ^ p) := by
  apply Int32.toBitVec_inj.mp
  apply BitVec.eq_of_getLsbD_eq
  intro i hi
  show ((BitVec.ofNat 32 s) &&& ((BitVec.ofNat 32 (2 ^ p)) ^^^ (-1))).getLsbD i = (BitVec.ofNat 32 (s ^^^ 2 ^ p)).getLsbD i
  have e1 : (-1 : BitVec 32).getLsbD i = true := by
    have : ∀ i, i < 32 → (-1 : BitVec 32).getLsbD i = true := by decide +kernel
    exact this i hi
  rw [BitVec.getLsbD_and, BitVec.getLsbD_xor, e1, BitVec.getLsbD_ofNat, BitVec.getLsbD_ofNat, BitVec.getLsbD_ofNat, tb_xor, Nat.testBit_two_pow, decide_eq_true hi]
  by_cases q : p = i
  · rw [← q, hp, decide_eq_true rfl]; rfl
  · rw [decide_eq_false q]
    cases s.testBit i <;> rfl
section MWK
variable {xs : Nat → Int32} {d : Nat} {h : AH} {P : PS}
theorem TR_.cg {m n B v : Nat} {T : Nat → Nat} {L : List Nat} {x0 x x' : AH} (H : TR_ m n T B v L x0 x) (e1 : hI_ x' 33554440 31 = hI_ x 33554440 31) (e2 : hI_ x' 33554440 28 = hI_ x 33554440 28) (e3 : hI_ x' 39322128 = hI_ x 39322128) : TR_ m n T B v L x0 x' := by
  unfold TR_ at H ⊢
  rw [e1, e2, e3]
  exact H
theorem TR_.lw {m n B v : Nat} {T : Nat → Nat} {L : List Nat} {x0 x : AH} (H : TR_ m n T B v L x0 x) : hI_ x 33554440 31 = Int32.ofNat (if v < B then v else B) := by
  unfold TR_ at H
  by_cases q : v < B
  · rw [if_pos q] at H ⊢; exact H.1
  · rw [if_neg q] at H ⊢; exact H.1
/-- one play more -/
theorem TR_.st {m n B v v' : Nat} {T T' : Nat → Nat} {L L' : List Nat} {x0 x x1 x' : AH} {p : Nat} (H : TR_ m n T B v L x0 x) (hT : ∀ j, j < m → T' j = T j) (hTm : T' m = p) (h1 : hI_ x1 33554440 28 = hI_ x 33554440 28) (h2 : hI_ x1 39322128 = hI_ x 39322128) (H' : TR_ (m + 1) n T' (if v < B then v else B) v' L' x1 x') : TR_ m n T B (if v' < v then v' else v) (if v' < v then p :: L' else L) x0 x' := by
  unfold TR_ at H'
  by_cases q : v' < (if v < B then v else B)
  · rw [if_pos q] at H'
    obtain ⟨a1, a2, a3⟩ := H'
    have q1 : v' < v := by split at q <;> omega
    have q2 : v' < B := by split at q <;> omega
    rw [if_pos q1, if_pos q1]
    unfold TR_
    rw [if_pos q2]
    refine ⟨a1, a2, fun j hj => ?_⟩
    rw [a3 j hj]
    by_cases c1 : j < m
    · rw [if_pos c1, if_pos (by omega), hT j c1]
    · rw [if_neg c1]
      by_cases c2 : j = m
      · rw [if_pos (by omega), c2, hTm, Nat.sub_self, List.getD_cons_zero]
      · rw [if_neg (by omega), show j - m = (j - (m + 1)) + 1 by omega, List.getD_cons_succ]
  · rw [if_neg q] at H'
    obtain ⟨a1, a2, a3⟩ := H'
    have Hx : TR_ m n T B v L x0 x' := H.cg (by rw [a1, H.lw]) (a2.trans h1) (a3.trans h2)
    by_cases q1 : v' < v
    · have q2 : ¬ (v < B) := fun z => by rw [if_pos z] at q; omega
      rw [if_neg q2] at q
      rw [if_pos q1, if_pos q1]
      unfold TR_ at Hx ⊢
      rw [if_neg q2] at Hx
      rw [if_neg q]
      exact Hx
    · rw [if_neg q1, if_neg q1]
      exact Hx
theorem m_tries {set : Int32} (hM : MS_ h) (hP : MP_ P h) (hB : PB_ P) : ∀ (k S m D B : Nat) (T : Nat → Nat) (x : AH) (d : Nat), FM_ [39584272, 39322128] [31, 28] h x → (mem_ S 12).length = k → S < 2 ^ qn_ P → m + k ≤ 8 → D < B → B ≤ 1000000 → hI_ x 33554440 31 = Int32.ofNat B → (∀ j, j < m → hI_ x 39584272 j = Int32.ofNat (T j) ∧ T j < qn_ P) → k + 1 ≤ d →
    ∃ x', FM_ [39584272, 39322128] [31, 28] h x' ∧ (∀ j, j < m → hI_ x' 39584272 j = Int32.ofNat (T j)) ∧ TR_ m (m + k) T B (D + (gdy_ (wk_ P) k (cst_ P m T) (mem_ S 12)).1) (gdy_ (wk_ P) k (cst_ P m T) (mem_ S 12)).2 x x' ∧ Do_ xs d 138 [vA (some 33554440), vI set, vI (Int32.ofNat S), vI (Int32.ofNat m), vI (Int32.ofNat D), vX 0, vX 0] x (some none) x' := by
  have h12 := hP.2.1.1
  have hp2 : 2 ^ qn_ P ≤ 2 ^ 12 := Nat.pow_le_pow_right (by omega) h12
  intro k
  induction k with
  | zero =>
    intro S m D B T x d hf hk hS hm hD hB2 hl hT hd
    have hMx := hf.MS hM
    have e0 : S = 0 := (mem_zero (s := S) (n := 12) (by omega)).mp (List.eq_nil_of_length_eq_zero hk)
    subst e0
    obtain ⟨r, k1, k2⟩ := loopX_ (P := fun Q i (r : Nat → Int32) => V_ xs d 138 18 [vA (some 33554440), vI set, vI (Int32.ofNat 0), vI (Int32.ofNat m), vI (Int32.ofNat D), vI (Int32.ofNat i), vX 0] [] (uI_ (uI_ x 33554440 (st_ (st_ (hI_ x 33554440) 31 (Int32.ofNat D)) 28 (Int32.ofNat m))) 39322128 r) Q) (n := m) (fun i r => ∀ j, j < i → r j = Int32.ofNat (T j)) (fun i r hi hI => by
      refine ⟨st_ r i (Int32.ofNat (T i)), fun j hj => ?_, fun Q => ?_⟩
      · rw [st_eq]
        by_cases q : j = i
        · rw [if_pos q, q]
        · rw [if_neg q]; exact hI j (by omega)
      · have e1 := (hT i hi).1
        rw [s138_18]
        simp (disch := first | omega | assumption | decide | (apply bT_; decide)) only [s138_0, s138_1, s138_4, s138_5, s138_7, s138_10, s138_11, s138_12, s138_15, s138_16, s138_20, s138_21, s138_24, s138_25, s138_28, s138_30, s138_31, s138_34, s138_36, s138_37, s138_38, s138_41, s138_45, s138_46, s138_48, s138_50, s138_51, s138_54, s138_57, s138_58, s138_60, s138_61, s138_62, s138_63, s138_66, s138_69, s138_71, s138_72, s138_75, s138_76, s138_79, s138_81, s138_82, s138_85, s138_86, s138_87, s138_90, s138_91, s138_92, s138_93, s138_94, s138_96, s138_99, s138_100, s138_102, s138_104, s138_105, s138_108, s138_111, s138_114, s138_115, s138_118, s138_119, s138_121, s138_122, s138_123, s138_124, s138_125, s138_126, s138_128, s138_129, s138_130, s138_131, s138_132, s138_133, s138_134, s138_135, s138_137, s138_140, s138_143, s138_146, K_v, K_0, acI, acA, acJ, acX, List.map_cons, List.map_nil, List.sum_cons, List.sum_nil, true_and, and_true, posT, b2_0, b2_1, bft, true_or, or_true, Nat.zero_le, Nat.reduceAdd, Nat.reduceLeDiff, hI_uI, hL_uI, hR_uI, nx_uI, sl_uI, hI_uL, hL_uL, hR_uL, nx_uL, sl_uL, hI_uR, hL_uR, hR_uR, nx_uR, sl_uR, st_eq, if_true, if_false, eq_self, Nat.reduceEqDiff, Nat.reduceMul, reduceIte, kdT, ixT, w_cl, w_ti, w_s1, w_a, w_m12, w_m8, w_m3, w_m4, hMx.r2, hMx.r3, hMx.r4, hMx.r5, hMx.r6, hMx.r7, hMx.r9, hMx.r10, hMx.r11, hMx.r12, hMx.r13, hMx.r14, hMx.r15, hMx.r16, hMx.r17, hMx.r18, hMx.r20, hMx.r21, hMx.r23, hMx.r29, hMx.r30, hMx.r35, hMx.r36, hMx.r37, hMx.r38, hMx.r40, hMx.r42, hMx.r43, hMx.r44, hMx.r45, hMx.r46, hMx.r47, hi, w_lt, e1, uI_uI, kd_M, ln_M, kd_mTried, ln_mTried, kd_mOrder, ln_mOrder]) m 0 (hI_ x 39322128) (by omega) (fun j hj => absurd hj (Nat.not_lt_zero _))
    refine ⟨uI_ (uI_ x 33554440 (st_ (st_ (hI_ x 33554440) 31 (Int32.ofNat D)) 28 (Int32.ofNat m))) 39322128 r, ?_, fun j hj => by simp only [hI_uI, hL_uI, hR_uI, nx_uI, sl_uI, hI_uL, hL_uL, hR_uL, nx_uL, sl_uL, hI_uR, hL_uR, hR_uR, nx_uR, sl_uR, st_eq, if_true, if_false, eq_self, Nat.reduceEqDiff, Nat.reduceMul, reduceIte, kdT, ixT, w_cl, w_ti, w_s1, w_a, w_m12, w_m8, w_m3, w_m4]; exact (hT j hj).1, ?_, fun Q => ?_⟩
    · refine FM_.uW ?_ (by decide) (by decide)
      have f1 := hf.uM (j := 31) (v := Int32.ofNat D) (by decide)
      have f2 := f1.uM (j := 28) (v := Int32.ofNat m) (by decide)
      simp only [hI_uI, hL_uI, hR_uI, nx_uI, sl_uI, hI_uL, hL_uL, hR_uL, nx_uL, sl_uL, hI_uR, hL_uR, hR_uR, nx_uR, sl_uR, st_eq, if_true, if_false, eq_self, Nat.reduceEqDiff, Nat.reduceMul, reduceIte, kdT, ixT, w_cl, w_ti, w_s1, w_a, w_m12, w_m8, w_m3, w_m4, uI_uI] at f2
      exact f2
    · unfold TR_
      have : D + (gdy_ (wk_ P) 0 (cst_ P m T) (mem_ 0 12)).1 = D := rfl
      rw [this, if_pos hD]
      refine ⟨by simp only [hI_uI, hL_uI, hR_uI, nx_uI, sl_uI, hI_uL, hL_uL, hR_uL, nx_uL, sl_uL, hI_uR, hL_uR, hR_uR, nx_uR, sl_uR, st_eq, if_true, if_false, eq_self, Nat.reduceEqDiff, Nat.reduceMul, reduceIte, kdT, ixT, w_cl, w_ti, w_s1, w_a, w_m12, w_m8, w_m3, w_m4], by simp only [hI_uI, hL_uI, hR_uI, nx_uI, sl_uI, hI_uL, hL_uL, hR_uL, nx_uL, sl_uL, hI_uR, hL_uR, hR_uR, nx_uR, sl_uR, st_eq, if_true, if_false, eq_self, Nat.reduceEqDiff, Nat.reduceMul, reduceIte, kdT, ixT, w_cl, w_ti, w_s1, w_a, w_m12, w_m8, w_m3, w_m4]; rfl, fun j hj => ?_⟩
      rw [if_pos (by omega)]
      simp only [hI_uI, hL_uI, hR_uI, nx_uI, sl_uI, hI_uL, hL_uL, hR_uL, nx_uL, sl_uL, hI_uR, hL_uR, hR_uR, nx_uR, sl_uR, st_eq, if_true, if_false, eq_self, Nat.reduceEqDiff, Nat.reduceMul, reduceIte, kdT, ixT, w_cl, w_ti, w_s1, w_a, w_m12, w_m8, w_m3, w_m4]
      exact k1 j (by omega)
    · have e12 := k2 Q
      rw [show uI_ (uI_ x 33554440 (st_ (st_ (hI_ x 33554440) 31 (Int32.ofNat D)) 28 (Int32.ofNat m))) 39322128 (hI_ x 39322128) = uI_ x 33554440 (st_ (st_ (hI_ x 33554440) 31 (Int32.ofNat D)) 28 (Int32.ofNat m)) from by
        have e : hI_ x 39322128 = hI_ (uI_ x 33554440 (st_ (st_ (hI_ x 33554440) 31 (Int32.ofNat D)) 28 (Int32.ofNat m))) 39322128 := by simp only [hI_uI, hL_uI, hR_uI, nx_uI, sl_uI, hI_uL, hL_uL, hR_uL, nx_uL, sl_uL, hI_uR, hL_uR, hR_uR, nx_uR, sl_uR, st_eq, if_true, if_false, eq_self, Nat.reduceEqDiff, Nat.reduceMul, reduceIte, kdT, ixT, w_cl, w_ti, w_s1, w_a, w_m12, w_m8, w_m3, w_m4]
        rw [e, uI_self]] at e12
      have z0 : Int32.ofNat 0 = 0 := rfl
      simp (disch := first | omega | assumption | decide | (apply bT_; decide)) only [s138_0, s138_1, s138_4, s138_5, s138_7, s138_10, s138_11, s138_12, s138_15, s138_16, s138_20, s138_21, s138_24, s138_25, s138_28, s138_30, s138_31, s138_34, s138_36, s138_37, s138_38, s138_41, s138_44, s138_46, s138_48, s138_50, s138_51, s138_54, s138_57, s138_58, s138_60, s138_61, s138_62, s138_63, s138_66, s138_69, s138_71, s138_72, s138_75, s138_76, s138_79, s138_81, s138_82, s138_85, s138_86, s138_87, s138_90, s138_91, s138_92, s138_93, s138_94, s138_96, s138_99, s138_100, s138_102, s138_104, s138_105, s138_108, s138_111, s138_114, s138_115, s138_118, s138_119, s138_121, s138_122, s138_123, s138_124, s138_125, s138_126, s138_128, s138_129, s138_130, s138_131, s138_132, s138_133, s138_134, s138_135, s138_137, s138_140, s138_143, s138_146, K_v, K_0, acI, acA, acJ, acX, List.map_cons, List.map_nil, List.sum_cons, List.sum_nil, true_and, and_true, posT, b2_0, b2_1, bft, true_or, or_true, Nat.zero_le, Nat.reduceAdd, Nat.reduceLeDiff, hI_uI, hL_uI, hR_uI, nx_uI, sl_uI, hI_uL, hL_uL, hR_uL, nx_uL, sl_uL, hI_uR, hL_uR, hR_uR, nx_uR, sl_uR, st_eq, if_true, if_false, eq_self, Nat.reduceEqDiff, Nat.reduceMul, reduceIte, kdT, ixT, w_cl, w_ti, w_s1, w_a, w_m12, w_m8, w_m3, w_m4, z0, uI_uI, kd_M, ln_M]
      refine Iff.trans (show V_ xs d 138 18 _ _ _ _ ↔ _ from e12) ?_
      have nl : ¬ (m < m) := by omega
      rw [s138_18]
      simp (disch := first | omega | assumption | decide | (apply bT_; decide)) only [s138_0, s138_1, s138_4, s138_5, s138_7, s138_10, s138_11, s138_12, s138_15, s138_16, s138_20, s138_21, s138_25, s138_28, s138_30, s138_31, s138_34, s138_36, s138_37, s138_38, s138_41, s138_44, s138_45, s138_46, s138_48, s138_50, s138_51, s138_54, s138_57, s138_58, s138_60, s138_61, s138_62, s138_63, s138_66, s138_69, s138_71, s138_72, s138_75, s138_76, s138_79, s138_81, s138_82, s138_85, s138_86, s138_87, s138_90, s138_91, s138_92, s138_93, s138_94, s138_96, s138_99, s138_100, s138_102, s138_104, s138_105, s138_108, s138_111, s138_114, s138_115, s138_118, s138_119, s138_121, s138_122, s138_123, s138_124, s138_125, s138_126, s138_128, s138_129, s138_130, s138_131, s138_132, s138_133, s138_134, s138_135, s138_137, s138_140, s138_143, s138_146, K_v, K_0, acI, acA, acJ, acX, List.map_cons, List.map_nil, List.sum_cons, List.sum_nil, true_and, and_true, posT, b2_0, b2_1, bft, true_or, or_true, Nat.zero_le, Nat.reduceAdd, Nat.reduceLeDiff, hI_uI, hL_uI, hR_uI, nx_uI, sl_uI, hI_uL, hL_uL, hR_uL, nx_uL, sl_uL, hI_uR, hL_uR, hR_uR, nx_uR, sl_uR, st_eq, if_true, if_false, eq_self, Nat.reduceEqDiff, Nat.reduceMul, reduceIte, kdT, ixT, w_cl, w_ti, w_s1, w_a, w_m12, w_m8, w_m3, w_m4, nl, w_lt]
  | succ k ih =>
    intro S m D B T x d hf hk hS hm hD hB2 hl hT hd
    have hne : S ≠ 0 := fun z => by rw [z] at hk; cases hk
    have hcst : ∀ y, y < qn_ P → cst_ P m T y ≤ 102 := by
      intro y hy
      unfold cst_
      by_cases q : m = 0
      · rw [if_pos q]
        obtain ⟨-, -, -, -, -, a3⟩ := hB y hy
        show nf_ P y 3 ≤ 102
        omega
      · rw [if_neg q]
        exact wk_le hB (hT (m - 1) (by omega)).2 hy
    obtain ⟨⟨x', v6⟩, k1, k2⟩ := loopX_ (P := fun Q p (z : AH × AV) => V_ xs d 138 48 [vA (some 33554440), vI set, vI (Int32.ofNat S), vI (Int32.ofNat m), vI (Int32.ofNat D), vI (Int32.ofNat p), z.2] [] z.1 Q) (n := qn_ P) (fun p z => FM_ [39584272, 39322128] [31, 28] h z.1 ∧ (∀ j, j < m → hI_ z.1 39584272 j = Int32.ofNat (T j)) ∧ TR_ m (m + (k + 1)) T B (D + (am_ S.testBit (fun y => cst_ P m T y + (gdy_ (wk_ P) k (wk_ P y) ((mem_ S 12).erase y)).1) p).2) ((am_ S.testBit (fun y => cst_ P m T y + (gdy_ (wk_ P) k (wk_ P y) ((mem_ S 12).erase y)).1) p).1 :: (gdy_ (wk_ P) k (wk_ P (am_ S.testBit (fun y => cst_ P m T y + (gdy_ (wk_ P) k (wk_ P y) ((mem_ S 12).erase y)).1) p).1) ((mem_ S 12).erase (am_ S.testBit (fun y => cst_ P m T y + (gdy_ (wk_ P) k (wk_ P y) ((mem_ S 12).erase y)).1) p).1)).2) x z.1) (fun p z hp hI => by
      obtain ⟨x1, v6⟩ := z
      obtain ⟨i1, i2, i3⟩ := hI
      dsimp only at i1 i2 i3
      have hbit := w_bit (M := S) (m := p) (by omega) (by omega)
      have hMx := i1.MS hM
      have hn : hI_ x1 33554440 8 = Int32.ofNat (qn_ P) := (i1.fld 8 (by decide)).trans hP.1
      have es : am_ S.testBit (fun y => cst_ P m T y + (gdy_ (wk_ P) k (wk_ P y) ((mem_ S 12).erase y)).1) (p + 1) = if S.testBit p = true ∧ cst_ P m T p + (gdy_ (wk_ P) k (wk_ P p) ((mem_ S 12).erase p)).1 < (am_ S.testBit (fun y => cst_ P m T y + (gdy_ (wk_ P) k (wk_ P y) ((mem_ S 12).erase y)).1) p).2 then (p, cst_ P m T p + (gdy_ (wk_ P) k (wk_ P p) ((mem_ S 12).erase p)).1) else am_ S.testBit (fun y => cst_ P m T y + (gdy_ (wk_ P) k (wk_ P y) ((mem_ S 12).erase y)).1) p := rfl
      generalize hr : am_ S.testBit (fun y => cst_ P m T y + (gdy_ (wk_ P) k (wk_ P y) ((mem_ S 12).erase y)).1) p = r at i3 es
      obtain ⟨r1, r2⟩ := r
      dsimp only at i3 es
      rw [es]
      cases hbt : S.testBit p
      · rw [hbt] at hbit
        refine ⟨(x1, v6), ⟨i1, i2, ?_⟩, fun Q => ?_⟩
        · rw [if_neg (fun z => by cases z.1)]
          exact i3
        · dsimp only
          rw [s138_48]
          simp (disch := first | omega | assumption | decide | (apply bT_; decide)) only [s138_0, s138_1, s138_4, s138_5, s138_7, s138_10, s138_11, s138_12, s138_15, s138_16, s138_18, s138_20, s138_21, s138_24, s138_25, s138_28, s138_30, s138_31, s138_34, s138_36, s138_37, s138_38, s138_41, s138_44, s138_45, s138_46, s138_50, s138_51, s138_54, s138_57, s138_58, s138_60, s138_61, s138_62, s138_63, s138_66, s138_71, s138_72, s138_75, s138_76, s138_79, s138_81, s138_82, s138_85, s138_86, s138_87, s138_90, s138_91, s138_92, s138_93, s138_94, s138_96, s138_99, s138_100, s138_102, s138_104, s138_105, s138_108, s138_111, s138_114, s138_115, s138_118, s138_119, s138_121, s138_122, s138_123, s138_124, s138_125, s138_126, s138_128, s138_129, s138_130, s138_131, s138_132, s138_133, s138_134, s138_135, s138_137, s138_140, s138_143, K_v, K_0, acI, acA, acJ, acX, List.map_cons, List.map_nil, List.sum_cons, List.sum_nil, true_and, and_true, posT, b2_0, b2_1, bft, true_or, or_true, Nat.zero_le, Nat.reduceAdd, Nat.reduceLeDiff, hI_uI, hL_uI, hR_uI, nx_uI, sl_uI, hI_uL, hL_uL, hR_uL, nx_uL, sl_uL, hI_uR, hL_uR, hR_uR, nx_uR, sl_uR, st_eq, if_true, if_false, eq_self, Nat.reduceEqDiff, Nat.reduceMul, reduceIte, kdT, ixT, w_cl, w_ti, w_s1, w_a, w_m12, w_m8, w_m3, w_m4, hn, hp, w_lt, hbit, kd_M, ln_M, Bool.false_eq_true]
      · rw [hbt] at hbit
        have hlw := i3.lw
        have hc := hcst p hp
        have hcur : (if D + r2 < B then D + r2 else B) ≤ 1000000 := by split <;> omega
        generalize hcu : (if D + r2 < B then D + r2 else B) = cur at hlw hcur
        have k10 : ¬ ((1 : Int32) = 0) := by decide
        have hPx : MP_ P x1 := MP_.eq (i1.fld 8 (by decide)) (i1.row _ (by decide) (by decide)) (i1.row _ (by decide) (by decide)) (i1.row _ (by decide) (by decide)) (i1.row _ (by decide) (by decide)) (i1.row _ (by decide) (by decide)) (i1.row _ (by decide) (by decide)) (i1.row _ (by decide) (by decide)) (i1.row _ (by decide) (by decide)) (i1.row _ (by decide) (by decide)) (i1.row _ (by decide) (by decide)) hP
        obtain ⟨a0, -, -, -, -, a3⟩ := hB p hp
        have hwe : hI_ x1 36176656 p = Int32.ofNat (wf_ P p) := (hPx.2.2.1 p hp).2.2.2.trans (a0 3 (by omega))
        -- the way to the test
        have way : ∀ Q, V_ xs d 138 48 [vA (some 33554440), vI set, vI (Int32.ofNat S), vI (Int32.ofNat m), vI (Int32.ofNat D), vI (Int32.ofNat p), v6] [] x1 Q ↔ V_ xs d 138 102 [vA (some 33554440), vI set, vI (Int32.ofNat S), vI (Int32.ofNat m), vI (Int32.ofNat D), vI (Int32.ofNat p), vI (Int32.ofNat (D + cst_ P m T p))] [] x1 Q := by
          intro Q
          by_cases q : m = 0
          · subst q
            have z0 : Int32.ofNat 0 = 0 := rfl
            have ec : cst_ P 0 T p = wf_ P p := rfl
            rw [s138_48, ec]
            simp (disch := first | omega | assumption | decide | (apply bT_; decide)) only [s138_0, s138_1, s138_4, s138_5, s138_7, s138_10, s138_11, s138_12, s138_15, s138_16, s138_18, s138_20, s138_21, s138_24, s138_25, s138_28, s138_30, s138_31, s138_34, s138_36, s138_37, s138_38, s138_41, s138_44, s138_45, s138_46, s138_50, s138_51, s138_54, s138_57, s138_58, s138_60, s138_61, s138_62, s138_63, s138_69, s138_71, s138_72, s138_75, s138_76, s138_79, s138_81, s138_82, s138_86, s138_87, s138_90, s138_91, s138_92, s138_93, s138_94, s138_96, s138_99, s138_100, s138_104, s138_105, s138_108, s138_111, s138_114, s138_115, s138_118, s138_119, s138_121, s138_122, s138_123, s138_124, s138_125, s138_126, s138_128, s138_129, s138_130, s138_131, s138_132, s138_133, s138_134, s138_135, s138_137, s138_140, s138_143, K_v, K_0, acI, acA, acJ, acX, List.map_cons, List.map_nil, List.sum_cons, List.sum_nil, true_and, and_true, posT, b2_0, b2_1, bft, true_or, or_true, Nat.zero_le, Nat.reduceAdd, Nat.reduceLeDiff, hI_uI, hL_uI, hR_uI, nx_uI, sl_uI, hI_uL, hL_uL, hR_uL, nx_uL, sl_uL, hI_uR, hL_uR, hR_uR, nx_uR, sl_uR, st_eq, if_true, if_false, eq_self, Nat.reduceEqDiff, Nat.reduceMul, reduceIte, kdT, ixT, w_cl, w_ti, w_s1, w_a, w_m12, w_m8, w_m3, w_m4, hMx.r2, hMx.r3, hMx.r4, hMx.r5, hMx.r6, hMx.r7, hMx.r9, hMx.r10, hMx.r11, hMx.r12, hMx.r13, hMx.r14, hMx.r15, hMx.r16, hMx.r17, hMx.r18, hMx.r20, hMx.r21, hMx.r23, hMx.r29, hMx.r30, hMx.r35, hMx.r36, hMx.r37, hMx.r38, hMx.r40, hMx.r42, hMx.r43, hMx.r44, hMx.r45, hMx.r46, hMx.r47, hn, hp, w_lt, hbit, k10, z0, hwe, kd_M, ln_M, kd_mWei, ln_mWei, Bool.true_eq_false]
          · have z0 : ¬ (Int32.ofNat m = 0) := fun z => q ((w_eq (b := 0) (by omega) (by omega)).mp z)
            have ec : cst_ P m T p = wk_ P (T (m - 1)) p := by unfold cst_; rw [if_neg q]
            have et := i2 (m - 1) (by omega)
            have em := w_p1 (a := m) (by omega)
            have hmw := fun Q => c_mwork (xs := xs) (d := d - 1) (Q := Q) hMx hPx hB (hT (m - 1) (by omega)).2 hp (by omega)
            rw [s138_48, ec]
            simp (disch := first | omega | assumption | decide | (apply bT_; decide)) only [s138_0, s138_1, s138_4, s138_5, s138_7, s138_10, s138_11, s138_12, s138_15, s138_16, s138_18, s138_20, s138_21, s138_24, s138_25, s138_28, s138_30, s138_31, s138_34, s138_36, s138_37, s138_38, s138_41, s138_44, s138_45, s138_46, s138_50, s138_51, s138_54, s138_57, s138_58, s138_60, s138_61, s138_62, s138_63, s138_69, s138_71, s138_72, s138_76, s138_79, s138_81, s138_82, s138_85, s138_86, s138_87, s138_90, s138_91, s138_92, s138_93, s138_94, s138_96, s138_99, s138_100, s138_104, s138_105, s138_108, s138_111, s138_114, s138_115, s138_118, s138_119, s138_121, s138_122, s138_123, s138_124, s138_125, s138_126, s138_128, s138_129, s138_130, s138_131, s138_132, s138_133, s138_134, s138_135, s138_137, s138_140, s138_143, K_v, K_0, acI, acA, acJ, acX, List.map_cons, List.map_nil, List.sum_cons, List.sum_nil, true_and, and_true, posT, b2_0, b2_1, bft, true_or, or_true, Nat.zero_le, Nat.reduceAdd, Nat.reduceLeDiff, hI_uI, hL_uI, hR_uI, nx_uI, sl_uI, hI_uL, hL_uL, hR_uL, nx_uL, sl_uL, hI_uR, hL_uR, hR_uR, nx_uR, sl_uR, st_eq, if_true, if_false, eq_self, Nat.reduceEqDiff, Nat.reduceMul, reduceIte, kdT, ixT, w_cl, w_ti, w_s1, w_a, w_m12, w_m8, w_m3, w_m4, hMx.r2, hMx.r3, hMx.r4, hMx.r5, hMx.r6, hMx.r7, hMx.r9, hMx.r10, hMx.r11, hMx.r12, hMx.r13, hMx.r14, hMx.r15, hMx.r16, hMx.r17, hMx.r18, hMx.r20, hMx.r21, hMx.r23, hMx.r29, hMx.r30, hMx.r35, hMx.r36, hMx.r37, hMx.r38, hMx.r40, hMx.r42, hMx.r43, hMx.r44, hMx.r45, hMx.r46, hMx.r47, hn, hp, w_lt, hbit, k10, z0, et, em, hmw, kd_M, ln_M, kd_mTried, ln_mTried, Bool.true_eq_false]
        by_cases q : D + cst_ P m T p < cur
        · -- deeper
          have hf1 : FM_ [39584272, 39322128] [31, 28] h (uI_ x1 39584272 (st_ (hI_ x1 39584272) m (Int32.ofNat p))) := i1.uW (by decide) (by decide)
          have hSx : S ^^^ 2 ^ p < 2 ^ qn_ P := xor_lt hS hp
          have hme : mem_ (S ^^^ 2 ^ p) 12 = (mem_ S 12).erase p := mem_xor hbt
          have hml : (mem_ (S ^^^ 2 ^ p) 12).length = k := by
            rw [hme, List.length_erase_of_mem (mem_mem.mpr ⟨by omega, hbt⟩), hk]; rfl
          obtain ⟨x2, g1, g2, g3, g4⟩ := ih (S ^^^ 2 ^ p) (m + 1) (D + cst_ P m T p) cur (fun j => if j = m then p else T j) (uI_ x1 39584272 (st_ (hI_ x1 39584272) m (Int32.ofNat p))) (d - 1) hf1 hml hSx (by omega) q hcur (by simp only [hI_uI, hL_uI, hR_uI, nx_uI, sl_uI, hI_uL, hL_uL, hR_uL, nx_uL, sl_uL, hI_uR, hL_uR, hR_uR, nx_uR, sl_uR, st_eq, if_true, if_false, eq_self, Nat.reduceEqDiff, Nat.reduceMul, reduceIte, kdT, ixT, w_cl, w_ti, w_s1, w_a, w_m12, w_m8, w_m3, w_m4]; exact hlw) (fun j hj => by
            simp only [hI_uI, hL_uI, hR_uI, nx_uI, sl_uI, hI_uL, hL_uL, hR_uL, nx_uL, sl_uL, hI_uR, hL_uR, hR_uR, nx_uR, sl_uR, st_eq, if_true, if_false, eq_self, Nat.reduceEqDiff, Nat.reduceMul, reduceIte, kdT, ixT, w_cl, w_ti, w_s1, w_a, w_m12, w_m8, w_m3, w_m4]
            by_cases c : j = m
            · rw [if_pos c, if_pos c]; exact ⟨rfl, hp⟩
            · rw [if_neg c, if_neg c]; exact ⟨i2 j (by omega), (hT j (by omega)).2⟩) (by omega)
          have ec : cst_ P (m + 1) (fun j => if j = m then p else T j) = wk_ P p := by
            unfold cst_
            rw [if_neg (by omega)]
            show wk_ P (if m + 1 - 1 = m then p else T (m + 1 - 1)) = _
            rw [if_pos (by omega)]
          rw [ec, hme, show m + 1 + k = m + (k + 1) by omega, ← hcu] at g3
          have hst := TR_.st i3 (T' := fun j => if j = m then p else T j) (p := p) (fun j hj => by show (if j = m then p else T j) = _; rw [if_neg (by omega)]) (by show (if m = m then p else T m) = _; rw [if_pos rfl]) (by simp only [hI_uI, hL_uI, hR_uI, nx_uI, sl_uI, hI_uL, hL_uL, hR_uL, nx_uL, sl_uL, hI_uR, hL_uR, hR_uR, nx_uR, sl_uR, st_eq, if_true, if_false, eq_self, Nat.reduceEqDiff, Nat.reduceMul, reduceIte, kdT, ixT, w_cl, w_ti, w_s1, w_a, w_m12, w_m8, w_m3, w_m4]) (by simp only [hI_uI, hL_uI, hR_uI, nx_uI, sl_uI, hI_uL, hL_uL, hR_uL, nx_uL, sl_uL, hI_uR, hL_uR, hR_uR, nx_uR, sl_uR, st_eq, if_true, if_false, eq_self, Nat.reduceEqDiff, Nat.reduceMul, reduceIte, kdT, ixT, w_cl, w_ti, w_s1, w_a, w_m12, w_m8, w_m3, w_m4]) g3
          refine ⟨(x2, vI (Int32.ofNat (D + cst_ P m T p))), ⟨g1, fun j hj => ?_, ?_⟩, fun Q => (way Q).trans ?_⟩
          · rw [g2 j (by omega), if_neg (by omega)]
          · by_cases c : cst_ P m T p + (gdy_ (wk_ P) k (wk_ P p) ((mem_ S 12).erase p)).1 < r2
            · rw [if_pos ⟨rfl, c⟩]
              rw [if_pos (by omega), if_pos (by omega)] at hst
              dsimp only
              rw [show D + (cst_ P m T p + (gdy_ (wk_ P) k (wk_ P p) ((mem_ S 12).erase p)).1) = D + cst_ P m T p + (gdy_ (wk_ P) k (wk_ P p) ((mem_ S 12).erase p)).1 by omega]
              exact hst
            · rw [if_neg (fun z => c z.2)]
              rw [if_neg (by omega), if_neg (by omega)] at hst
              exact hst
          · have hsh := w_shl p (by omega)
            have han := w_andn hbt (by omega)
            dsimp only
            rw [s138_102]
            simp (disch := first | omega | assumption | decide | (apply bT_; decide)) only [s138_0, s138_1, s138_4, s138_5, s138_7, s138_10, s138_11, s138_12, s138_15, s138_16, s138_18, s138_20, s138_21, s138_24, s138_25, s138_28, s138_30, s138_31, s138_34, s138_36, s138_37, s138_38, s138_41, s138_44, s138_45, s138_46, s138_50, s138_51, s138_54, s138_57, s138_58, s138_60, s138_61, s138_62, s138_63, s138_66, s138_69, s138_71, s138_72, s138_75, s138_76, s138_79, s138_81, s138_82, s138_85, s138_86, s138_87, s138_90, s138_91, s138_92, s138_93, s138_94, s138_96, s138_99, s138_100, s138_104, s138_105, s138_108, s138_114, s138_115, s138_118, s138_119, s138_121, s138_122, s138_123, s138_124, s138_125, s138_126, s138_128, s138_129, s138_130, s138_131, s138_132, s138_133, s138_134, s138_135, s138_137, s138_140, s138_143, s138_146, K_v, K_0, acI, acA, acJ, acX, List.map_cons, List.map_nil, List.sum_cons, List.sum_nil, true_and, and_true, posT, b2_0, b2_1, bft, true_or, or_true, Nat.zero_le, Nat.reduceAdd, Nat.reduceLeDiff, hI_uI, hL_uI, hR_uI, nx_uI, sl_uI, hI_uL, hL_uL, hR_uL, nx_uL, sl_uL, hI_uR, hL_uR, hR_uR, nx_uR, sl_uR, st_eq, if_true, if_false, eq_self, Nat.reduceEqDiff, Nat.reduceMul, reduceIte, kdT, ixT, w_cl, w_ti, w_s1, w_a, w_m12, w_m8, w_m3, w_m4, hMx.r2, hMx.r3, hMx.r4, hMx.r5, hMx.r6, hMx.r7, hMx.r9, hMx.r10, hMx.r11, hMx.r12, hMx.r13, hMx.r14, hMx.r15, hMx.r16, hMx.r17, hMx.r18, hMx.r20, hMx.r21, hMx.r23, hMx.r29, hMx.r30, hMx.r35, hMx.r36, hMx.r37, hMx.r38, hMx.r40, hMx.r42, hMx.r43, hMx.r44, hMx.r45, hMx.r46, hMx.r47, hlw, q, w_lt, hsh, han, g4, kd_M, ln_M, kd_mTried, ln_mTried]
        · refine ⟨(x1, vI (Int32.ofNat (D + cst_ P m T p))), ⟨i1, i2, ?_⟩, fun Q => (way Q).trans ?_⟩
          · by_cases c : cst_ P m T p + (gdy_ (wk_ P) k (wk_ P p) ((mem_ S 12).erase p)).1 < r2
            · rw [if_pos ⟨rfl, c⟩]
              have c2 : ¬ (D + r2 < B) := fun z => by rw [if_pos z] at hcu; omega
              rw [if_neg c2] at hcu
              dsimp only
              unfold TR_ at i3 ⊢
              rw [if_neg c2] at i3
              rw [if_neg (by omega)]
              exact i3
            · rw [if_neg (fun z => c z.2)]
              exact i3
          · dsimp only
            rw [s138_102]
            simp (disch := first | omega | assumption | decide | (apply bT_; decide)) only [s138_0, s138_1, s138_4, s138_5, s138_7, s138_10, s138_11, s138_12, s138_15, s138_16, s138_18, s138_20, s138_21, s138_24, s138_25, s138_28, s138_30, s138_31, s138_34, s138_36, s138_37, s138_38, s138_41, s138_44, s138_45, s138_46, s138_50, s138_51, s138_54, s138_57, s138_58, s138_60, s138_61, s138_62, s138_63, s138_66, s138_69, s138_71, s138_72, s138_75, s138_76, s138_79, s138_81, s138_82, s138_85, s138_86, s138_87, s138_90, s138_91, s138_92, s138_93, s138_94, s138_96, s138_99, s138_100, s138_104, s138_105, s138_108, s138_111, s138_115, s138_118, s138_119, s138_121, s138_122, s138_123, s138_124, s138_125, s138_126, s138_128, s138_129, s138_130, s138_131, s138_132, s138_133, s138_134, s138_135, s138_137, s138_140, s138_143, s138_146, K_v, K_0, acI, acA, acJ, acX, List.map_cons, List.map_nil, List.sum_cons, List.sum_nil, true_and, and_true, posT, b2_0, b2_1, bft, true_or, or_true, Nat.zero_le, Nat.reduceAdd, Nat.reduceLeDiff, hI_uI, hL_uI, hR_uI, nx_uI, sl_uI, hI_uL, hL_uL, hR_uL, nx_uL, sl_uL, hI_uR, hL_uR, hR_uR, nx_uR, sl_uR, st_eq, if_true, if_false, eq_self, Nat.reduceEqDiff, Nat.reduceMul, reduceIte, kdT, ixT, w_cl, w_ti, w_s1, w_a, w_m12, w_m8, w_m3, w_m4, hlw, q, w_lt, kd_M, ln_M]) (qn_ P) 0 (x, vX 0) (by omega) ⟨hf, fun j hj => (hT j hj).1, by
        unfold TR_
        have am0 : ∀ (c : Nat → Bool) (g : Nat → Nat), am_ c g 0 = (0, 1000000) := fun _ _ => rfl
        rw [am0, if_neg (show ¬ (D + 1000000 < B) by omega)]
        exact ⟨hl, rfl, rfl⟩⟩
    obtain ⟨j1, j2, j3⟩ := k1
    rw [am_amL, ← mem_st' hS h12] at j3
    refine ⟨x', j1, j2, j3, fun Q => ?_⟩
    have z0 : ¬ (Int32.ofNat S = 0) := fun z => hne ((w_eq (b := 0) (by omega) (by omega)).mp z)
    have hn : hI_ x' 33554440 8 = Int32.ofNat (qn_ P) := (j1.fld 8 (by decide)).trans hP.1
    simp (disch := first | omega | assumption | decide | (apply bT_; decide)) only [s138_0, s138_1, s138_5, s138_7, s138_10, s138_11, s138_12, s138_15, s138_16, s138_18, s138_20, s138_21, s138_24, s138_25, s138_28, s138_30, s138_31, s138_34, s138_36, s138_37, s138_38, s138_41, s138_44, s138_45, s138_46, s138_50, s138_51, s138_54, s138_57, s138_58, s138_60, s138_61, s138_62, s138_63, s138_66, s138_69, s138_71, s138_72, s138_75, s138_76, s138_79, s138_81, s138_82, s138_85, s138_86, s138_87, s138_90, s138_91, s138_92, s138_93, s138_94, s138_96, s138_99, s138_100, s138_102, s138_104, s138_105, s138_108, s138_111, s138_114, s138_115, s138_118, s138_119, s138_121, s138_122, s138_123, s138_124, s138_125, s138_126, s138_128, s138_129, s138_130, s138_131, s138_132, s138_133, s138_134, s138_135, s138_137, s138_140, s138_143, s138_146, K_v, K_0, acI, acA, acJ, acX, List.map_cons, List.map_nil, List.sum_cons, List.sum_nil, true_and, and_true, posT, b2_0, b2_1, bft, true_or, or_true, Nat.zero_le, Nat.reduceAdd, Nat.reduceLeDiff, hI_uI, hL_uI, hR_uI, nx_uI, sl_uI, hI_uL, hL_uL, hR_uL, nx_uL, sl_uL, hI_uR, hL_uR, hR_uR, nx_uR, sl_uR, st_eq, if_true, if_false, eq_self, Nat.reduceEqDiff, Nat.reduceMul, reduceIte, kdT, ixT, w_cl, w_ti, w_s1, w_a, w_m12, w_m8, w_m3, w_m4, z0]
    refine Iff.trans (show V_ xs d 138 48 _ _ _ _ ↔ _ from k2 Q) ?_
    have nl : ¬ (qn_ P < qn_ P) := by omega
    rw [s138_48]
    simp (disch := first | omega | assumption | decide | (apply bT_; decide)) only [s138_0, s138_1, s138_4, s138_5, s138_7, s138_10, s138_11, s138_12, s138_15, s138_16, s138_18, s138_20, s138_21, s138_24, s138_25, s138_28, s138_30, s138_31, s138_34, s138_36, s138_37, s138_38, s138_41, s138_44, s138_45, s138_46, s138_50, s138_51, s138_54, s138_58, s138_60, s138_61, s138_62, s138_63, s138_66, s138_69, s138_71, s138_72, s138_75, s138_76, s138_79, s138_81, s138_82, s138_85, s138_86, s138_87, s138_90, s138_91, s138_92, s138_93, s138_94, s138_96, s138_99, s138_100, s138_102, s138_104, s138_105, s138_108, s138_111, s138_114, s138_115, s138_118, s138_119, s138_121, s138_122, s138_123, s138_124, s138_125, s138_126, s138_128, s138_129, s138_130, s138_131, s138_132, s138_133, s138_134, s138_135, s138_137, s138_140, s138_143, s138_146, K_v, K_0, acI, acA, acJ, acX, List.map_cons, List.map_nil, List.sum_cons, List.sum_nil, true_and, and_true, posT, b2_0, b2_1, bft, true_or, or_true, Nat.zero_le, Nat.reduceAdd, Nat.reduceLeDiff, hI_uI, hL_uI, hR_uI, nx_uI, sl_uI, hI_uL, hL_uL, hR_uL, nx_uL, sl_uL, hI_uR, hL_uR, hR_uR, nx_uR, sl_uR, st_eq, if_true, if_false, eq_self, Nat.reduceEqDiff, Nat.reduceMul, reduceIte, kdT, ixT, w_cl, w_ti, w_s1, w_a, w_m12, w_m8, w_m3, w_m4, hn, nl, w_lt, kd_M, ln_M]
theorem m_week {v : Int32} (hM : MS_ h) (hP : MP_ P h) (hB : PB_ P) (hd : 10 ≤ d) : ∃ h', FM_ [39584272, 39322128] [0, 31, 28] h h' ∧ (if okWk_ P v = true then Do_ xs d 139 [vA (some 33554440), vI v] h (some (some (vI (Int32.ofNat (wkv_ P v).1)))) h' ∧ MW_ (wkn_ v) (fun j => Int32.ofNat ((wkv_ P v).2.getD j 0)) h' else h' = uI_ h 33554440 (st_ (hI_ h 33554440) 0 0) ∧ Do_ xs d 139 [vA (some 33554440), vI v] h (some (some (vI (-1)))) h') := by
  have h12 := hP.2.1.1
  have u3 := hP.1
  have hp2 : 2 ^ qn_ P ≤ 2 ^ 12 := Nat.pow_le_pow_right (by omega) h12
  have hsh := w_shl (qn_ P) (by omega)
  have f0 : FM_ [39584272, 39322128] [0, 31, 28] h (uI_ h 33554440 (st_ (hI_ h 33554440) 0 0)) := FM_.rf.uM (by decide)
  have hpw : (Int32.ofNat (2 ^ qn_ P)).toInt = ((2 ^ qn_ P : Nat) : Int) := w_ti (by omega)
  by_cases q : 0 < v.toInt ∧ v.toInt < (2 ^ qn_ P : Nat)
  · obtain ⟨s, rfl, e2, e3⟩ := w_of (x := v) (by omega)
    have hs : s < 2 ^ qn_ P := by omega
    have hcl : (Int32.ofNat s).toNatClampNeg = s := w_cl e3
    have hbc := bc_12 s (by omega)
    have hle := mem_le (s := s) (n := 12)
    have n1 : 0 < Int32.ofNat s := by rw [Int32.lt_iff_toInt_lt]; exact q.1
    have n2 : Int32.ofNat s < Int32.ofNat (2 ^ qn_ P) := by rw [Int32.lt_iff_toInt_lt, hpw]; exact q.2
    by_cases q2 : (mem_ s 12).length ≤ 8
    · have ok : okWk_ P (Int32.ofNat s) = true := by
        unfold okWk_
        rw [hcl, decide_eq_true q.1, decide_eq_true q.2, decide_eq_true q2]
        rfl
      have n3 : ¬ (8 < Int32.ofNat (mem_ s 12).length) := fun z => by
        have := (w_lt (a := 8) (by omega) (by omega)).mp z
        omega
      obtain ⟨h', g1, g2, g3, g4⟩ := m_tries (xs := xs) (h := uI_ h 33554440 (st_ (st_ (hI_ h 33554440) 0 0) 31 (Int32.ofNat 1000000))) (P := P) (set := Int32.ofNat s) hM.u (hP.um (by simp only [hI_uI, hL_uI, hR_uI, nx_uI, sl_uI, hI_uL, hL_uL, hR_uL, nx_uL, sl_uL, hI_uR, hL_uR, hR_uR, nx_uR, sl_uR, st_eq, if_true, if_false, eq_self, Nat.reduceEqDiff, Nat.reduceMul, reduceIte, kdT, ixT, w_cl, w_ti, w_s1, w_a, w_m12, w_m8, w_m3, w_m4])) hB (mem_ s 12).length s 0 0 1000000 (fun _ => 0) _ (d - 1) FM_.rf rfl hs (by omega) (by omega) (by omega) (by simp only [hI_uI, hL_uI, hR_uI, nx_uI, sl_uI, hI_uL, hL_uL, hR_uL, nx_uL, sl_uL, hI_uR, hL_uR, hR_uR, nx_uR, sl_uR, st_eq, if_true, if_false, eq_self, Nat.reduceEqDiff, Nat.reduceMul, reduceIte, kdT, ixT, w_cl, w_ti, w_s1, w_a, w_m12, w_m8, w_m3, w_m4]) (fun j hj => absurd hj (Nat.not_lt_zero _)) (by omega)
      have hw := gdy_le (w := wk_ P) (N := qn_ P) (fun a b ha hb => wk_le hB ha hb) (k := (mem_ s 12).length) (c := wf_ P) (L := mem_ s 12) rfl (fun x hx => by
          have hb := (mem_mem.mp hx).2
          rcases Nat.lt_or_ge x (qn_ P) with z | z
          · exact z
          · rw [Nat.testBit_lt_two_pow (Nat.lt_of_lt_of_le hs (Nat.pow_le_pow_right (by omega) z))] at hb; cases hb) (fun x hx => by
          have hb := (mem_mem.mp hx).2
          have hx : x < qn_ P := by
            rcases Nat.lt_or_ge x (qn_ P) with z | z
            · exact z
            · rw [Nat.testBit_lt_two_pow (Nat.lt_of_lt_of_le hs (Nat.pow_le_pow_right (by omega) z))] at hb; cases hb
          obtain ⟨-, -, -, -, -, a3⟩ := hB x hx
          show nf_ P x 3 ≤ 102
          omega) (by omega)
      have ec : cst_ P 0 (fun _ => 0) = wf_ P := rfl
      rw [ec] at g3
      unfold TR_ at g3
      rw [if_pos (by omega), Nat.zero_add, Nat.zero_add] at g3
      obtain ⟨a1, a2, a3⟩ := g3
      refine ⟨h', ?_, ?_⟩
      · have f2 := f0.uM (j := 31) (v := Int32.ofNat 1000000) (by decide)
        simp only [hI_uI, hL_uI, hR_uI, nx_uI, sl_uI, hI_uL, hL_uL, hR_uL, nx_uL, sl_uL, hI_uR, hL_uR, hR_uR, nx_uR, sl_uR, st_eq, if_true, if_false, eq_self, Nat.reduceEqDiff, Nat.reduceMul, reduceIte, kdT, ixT, w_cl, w_ti, w_s1, w_a, w_m12, w_m8, w_m3, w_m4, uI_uI] at f2
        exact f2.tr (g1.mono (by decide) (by decide))
      · rw [if_pos ok]
        unfold wkv_ wkn_
        rw [hcl]
        refine ⟨fun Q => ?_, a2, q2, fun i hi => ?_⟩
        · have em : Int32.ofNat 1000000 = 1000000 := rfl
          have e0 : Int32.ofNat 0 = 0 := rfl
          rw [em, e0] at g4
          simp (disch := first | omega | assumption | decide | (apply bT_; decide)) only [s139_0, s139_1, s139_2, s139_5, s139_6, s139_9, s139_10, s139_11, s139_12, s139_15, s139_16, s139_19, s139_20, s139_23, s139_25, s139_29, s139_30, s139_31, s139_33, s139_36, s139_37, s139_38, s139_39, s139_40, s139_41, s139_44, s139_45, s139_48, K_v, K_0, acI, acA, acJ, acX, List.map_cons, List.map_nil, List.sum_cons, List.sum_nil, true_and, and_true, posT, b2_0, b2_1, bft, true_or, or_true, Nat.zero_le, Nat.reduceAdd, Nat.reduceLeDiff, hI_uI, hL_uI, hR_uI, nx_uI, sl_uI, hI_uL, hL_uL, hR_uL, nx_uL, sl_uL, hI_uR, hL_uR, hR_uR, nx_uR, sl_uR, st_eq, if_true, if_false, eq_self, Nat.reduceEqDiff, Nat.reduceMul, reduceIte, kdT, ixT, w_cl, w_ti, w_s1, w_a, w_m12, w_m8, w_m3, w_m4, u3, hsh, n1, n2, c_bitCountA, hbc, n3, uI_uI, g4, a1, kd_M, ln_M]
        · rw [a3 i hi, if_neg (by omega), Nat.sub_zero]
    · have ok : ¬ (okWk_ P (Int32.ofNat s) = true) := by
        unfold okWk_
        rw [hcl]
        intro z
        rw [Bool.and_eq_true, Bool.and_eq_true, decide_eq_true_eq, decide_eq_true_eq, decide_eq_true_eq] at z
        exact q2 z.2
      have n3 : 8 < Int32.ofNat (mem_ s 12).length := (w_lt (a := 8) (by omega) (by omega)).mpr (by omega)
      refine ⟨_, f0, ?_⟩
      rw [if_neg ok]
      refine ⟨rfl, fun Q => ?_⟩
      simp (disch := first | omega | assumption | decide | (apply bT_; decide)) only [s139_0, s139_1, s139_2, s139_5, s139_6, s139_9, s139_10, s139_11, s139_12, s139_15, s139_16, s139_19, s139_20, s139_23, s139_25, s139_28, s139_29, s139_31, s139_33, s139_36, s139_37, s139_38, s139_39, s139_40, s139_41, s139_44, s139_45, s139_48, K_v, K_0, acI, acA, acJ, acX, List.map_cons, List.map_nil, List.sum_cons, List.sum_nil, true_and, and_true, posT, b2_0, b2_1, bft, true_or, or_true, Nat.zero_le, Nat.reduceAdd, Nat.reduceLeDiff, hI_uI, hL_uI, hR_uI, nx_uI, sl_uI, hI_uL, hL_uL, hR_uL, nx_uL, sl_uL, hI_uR, hL_uR, hR_uR, nx_uR, sl_uR, st_eq, if_true, if_false, eq_self, Nat.reduceEqDiff, Nat.reduceMul, reduceIte, kdT, ixT, w_cl, w_ti, w_s1, w_a, w_m12, w_m8, w_m3, w_m4, u3, hsh, n1, n2, c_bitCountA, hbc, n3, kd_M, ln_M]
  · have ok : ¬ (okWk_ P v = true) := by
      unfold okWk_
      intro z
      rw [Bool.and_eq_true, Bool.and_eq_true, decide_eq_true_eq, decide_eq_true_eq] at z
      exact q ⟨z.1.1, z.1.2⟩
    refine ⟨_, f0, ?_⟩
    rw [if_neg ok]
    refine ⟨rfl, fun Q => ?_⟩
    by_cases c1 : 0 < v
    · have c2 : ¬ (v < Int32.ofNat (2 ^ qn_ P)) := fun z => by
        rw [Int32.lt_iff_toInt_lt, hpw] at z
        rw [Int32.lt_iff_toInt_lt] at c1
        exact q ⟨c1, z⟩
      simp (disch := first | omega | assumption | decide | (apply bT_; decide)) only [s139_0, s139_1, s139_2, s139_5, s139_6, s139_9, s139_10, s139_11, s139_12, s139_15, s139_16, s139_20, s139_23, s139_25, s139_28, s139_29, s139_31, s139_33, s139_36, s139_37, s139_38, s139_39, s139_40, s139_41, s139_44, s139_45, s139_48, K_v, K_0, acI, acA, acJ, acX, List.map_cons, List.map_nil, List.sum_cons, List.sum_nil, true_and, and_true, posT, b2_0, b2_1, bft, true_or, or_true, Nat.zero_le, Nat.reduceAdd, Nat.reduceLeDiff, hI_uI, hL_uI, hR_uI, nx_uI, sl_uI, hI_uL, hL_uL, hR_uL, nx_uL, sl_uL, hI_uR, hL_uR, hR_uR, nx_uR, sl_uR, st_eq, if_true, if_false, eq_self, Nat.reduceEqDiff, Nat.reduceMul, reduceIte, kdT, ixT, w_cl, w_ti, w_s1, w_a, w_m12, w_m8, w_m3, w_m4, u3, hsh, c1, c2, kd_M, ln_M]
    · simp (disch := first | omega | assumption | decide | (apply bT_; decide)) only [s139_0, s139_1, s139_2, s139_5, s139_6, s139_10, s139_11, s139_12, s139_15, s139_16, s139_19, s139_20, s139_23, s139_25, s139_28, s139_29, s139_31, s139_33, s139_36, s139_37, s139_38, s139_39, s139_40, s139_41, s139_44, s139_45, s139_48, K_v, K_0, acI, acA, acJ, acX, List.map_cons, List.map_nil, List.sum_cons, List.sum_nil, true_and, and_true, posT, b2_0, b2_1, bft, true_or, or_true, Nat.zero_le, Nat.reduceAdd, Nat.reduceLeDiff, hI_uI, hL_uI, hR_uI, nx_uI, sl_uI, hI_uL, hL_uL, hR_uL, nx_uL, sl_uL, hI_uR, hL_uR, hR_uR, nx_uR, sl_uR, st_eq, if_true, if_false, eq_self, Nat.reduceEqDiff, Nat.reduceMul, reduceIte, kdT, ixT, w_cl, w_ti, w_s1, w_a, w_m12, w_m8, w_m3, w_m4, u3, hsh, c1, kd_M, ln_M]
end MWK
