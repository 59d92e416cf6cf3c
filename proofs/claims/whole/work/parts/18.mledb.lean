/-! the model: where, held; the tape; hand, order, count -/
def ctb_ (c : Nat → Bool) (i n : Nat) : Nat := if c i = true then n + 1 else n
theorem ct_le {c : Nat → Bool} : ∀ {k i n : Nat}, it_ (ctb_ c) k i n ≤ n + k := by
  intro k
  induction k with
  | zero => intro i n; exact Nat.le_refl _
  | succ k ih =>
    intro i n
    have := @ih (i + 1) (ctb_ c i n)
    have h2 : ctb_ c i n ≤ n + 1 := by unfold ctb_; split <;> omega
    show it_ (ctb_ c) k (i + 1) (ctb_ c i n) ≤ _
    omega
theorem it_congr {α : Type} {f g : Nat → α → α} : ∀ {k i : Nat} {x : α}, (∀ j y, i ≤ j → j < i + k → f j y = g j y) → it_ f k i x = it_ g k i x := by
  intro k
  induction k with
  | zero => intro i x _; rfl
  | succ k ih =>
    intro i x h
    show it_ f k (i + 1) (f i x) = it_ g k (i + 1) (g i x)
    rw [h i x (by omega) (by omega), ih (fun j y h1 h2 => h j y (by omega) (by omega))]
section MLE
variable {xs : Nat → Int32} {d : Nat} {h : AH} {P : PS} {Q : OU_ → AH → Prop} {na nf : Nat} {F G L : Nat → Nat → Int32}
def okW_ (nf : Nat) (it n : Int32) : Bool := wi_ it 0 19 && wi_ n 0 (Int32.ofNat nf)
theorem ML_.u0 {v : Int32} (H : ML_ nf L h) : ML_ nf L (uI_ h 33554440 (st_ (hI_ h 33554440) 0 v)) := ML_.eq (by simp only [hI_uI, hL_uI, hR_uI, nx_uI, sl_uI, hI_uL, hL_uL, hR_uL, nx_uL, sl_uL, hI_uR, hL_uR, hR_uR, nx_uR, sl_uR, st_eq, if_true, if_false, eq_self, Nat.reduceEqDiff, Nat.reduceMul, reduceIte, kdT, ixT, w_cl, w_ti, w_s1, w_a, w_m12, w_m8, w_m3, w_m4]) (by simp only [hI_uI, hL_uI, hR_uI, nx_uI, sl_uI, hI_uL, hL_uL, hR_uL, nx_uL, sl_uL, hI_uR, hL_uR, hR_uR, nx_uR, sl_uR, st_eq, if_true, if_false, eq_self, Nat.reduceEqDiff, Nat.reduceMul, reduceIte, kdT, ixT, w_cl, w_ti, w_s1, w_a, w_m12, w_m8, w_m3, w_m4]) (by simp only [hI_uI, hL_uI, hR_uI, nx_uI, sl_uI, hI_uL, hL_uL, hR_uL, nx_uL, sl_uL, hI_uR, hL_uR, hR_uR, nx_uR, sl_uR, st_eq, if_true, if_false, eq_self, Nat.reduceEqDiff, Nat.reduceMul, reduceIte, kdT, ixT, w_cl, w_ti, w_s1, w_a, w_m12, w_m8, w_m3, w_m4]) (by simp only [hI_uI, hL_uI, hR_uI, nx_uI, sl_uI, hI_uL, hL_uL, hR_uL, nx_uL, sl_uL, hI_uR, hL_uR, hR_uR, nx_uR, sl_uR, st_eq, if_true, if_false, eq_self, Nat.reduceEqDiff, Nat.reduceMul, reduceIte, kdT, ixT, w_cl, w_ti, w_s1, w_a, w_m12, w_m8, w_m3, w_m4]) H
theorem m_where {it da n : Int32} (hM : MS_ h) (hL : ML_ nf L h) (hd : 2 ≤ d) : 
    (if okW_ nf it n = true then Do_ xs d 145 [vA (some 33554440), vI it, vI da, vI n] h (some (some (vI (hol_ L it da n.toNatClampNeg)))) (uI_ h 33554440 (st_ (hI_ h 33554440) 0 0))
     else Do_ xs d 145 [vA (some 33554440), vI it, vI da, vI n] h (some (some (vI 0))) (uI_ h 33554440 (st_ (hI_ h 33554440) 0 1))) := by
  obtain ⟨e1, e2, e3⟩ := id hL
  have hM0 : MS_ (uI_ h 33554440 (st_ (hI_ h 33554440) 0 0)) := hM.u
  by_cases c : okW_ nf it n = true
  · rw [if_pos c]
    unfold okW_ at c
    rw [Bool.and_eq_true] at c
    obtain ⟨c1, c2⟩ := c
    have c3 := wi_t.mp c2
    obtain ⟨k, rfl, hk1, hk2⟩ := w_of (x := n) (by have : (0 : Int32).toInt = 0 := rfl; omega)
    have hk : k ≤ nf := by rw [w_ti (by omega : nf < 2147483648)] at c3; omega
    rw [w_cl hk2]
    intro Q
    simp (disch := first | omega | assumption | decide | (apply bT_; decide)) only [s145_0, s145_1, s145_2, s145_3, s145_5, s145_8, s145_11, s145_12, s145_13, s145_14, s145_17, s145_20, s145_23, s145_24, s145_27, s145_28, s145_31, s145_32, s145_35, s145_38, s145_39, s145_42, s145_43, s145_44, s145_45, s145_46, s145_49, K_v, K_0, acI, acA, acJ, acX, List.map_cons, List.map_nil, List.sum_cons, List.sum_nil, true_and, and_true, posT, b2_0, b2_1, bft, true_or, or_true, Nat.zero_le, Nat.reduceAdd, Nat.reduceLeDiff, hI_uI, hL_uI, hR_uI, nx_uI, sl_uI, hI_uL, hL_uL, hR_uL, nx_uL, sl_uL, hI_uR, hL_uR, hR_uR, nx_uR, sl_uR, st_eq, if_true, if_false, eq_self, Nat.reduceEqDiff, Nat.reduceMul, reduceIte, kdT, ixT, w_cl, w_ti, w_s1, w_a, w_m12, w_m8, w_m3, w_m4, e1, c_mwithin, c1, c2, c_mholder hM0 hL.u0 hk, Bool.true_eq_false]
    rw [if_neg (by decide)]
  · rw [if_neg c]
    unfold okW_ at c
    rw [Bool.and_eq_true] at c
    intro Q
    by_cases q1 : wi_ it 0 19 = false
    · simp (disch := first | omega | assumption | decide | (apply bT_; decide)) only [s145_0, s145_1, s145_2, s145_3, s145_5, s145_8, s145_11, s145_12, s145_13, s145_14, s145_17, s145_20, s145_23, s145_24, s145_27, s145_28, s145_31, s145_32, s145_35, s145_38, s145_39, s145_43, s145_44, s145_45, s145_46, s145_49, K_v, K_0, acI, acA, acJ, acX, List.map_cons, List.map_nil, List.sum_cons, List.sum_nil, true_and, and_true, posT, b2_0, b2_1, bft, true_or, or_true, Nat.zero_le, Nat.reduceAdd, Nat.reduceLeDiff, hI_uI, hL_uI, hR_uI, nx_uI, sl_uI, hI_uL, hL_uL, hR_uL, nx_uL, sl_uL, hI_uR, hL_uR, hR_uR, nx_uR, sl_uR, st_eq, if_true, if_false, eq_self, Nat.reduceEqDiff, Nat.reduceMul, reduceIte, kdT, ixT, w_cl, w_ti, w_s1, w_a, w_m12, w_m8, w_m3, w_m4, c_mwithin, q1]
      rw [if_pos (by decide)]
    · have q2 : wi_ it 0 19 = true := by simpa using q1
      have q3 : wi_ n 0 (Int32.ofNat nf) = false := by
        cases hq : wi_ n 0 (Int32.ofNat nf)
        · rfl
        · exact absurd ⟨q2, hq⟩ c
      simp (disch := first | omega | assumption | decide | (apply bT_; decide)) only [s145_0, s145_1, s145_2, s145_3, s145_5, s145_8, s145_11, s145_12, s145_13, s145_14, s145_17, s145_20, s145_23, s145_24, s145_27, s145_28, s145_31, s145_32, s145_35, s145_38, s145_39, s145_43, s145_44, s145_45, s145_46, s145_49, K_v, K_0, acI, acA, acJ, acX, List.map_cons, List.map_nil, List.sum_cons, List.sum_nil, true_and, and_true, posT, b2_0, b2_1, bft, true_or, or_true, Nat.zero_le, Nat.reduceAdd, Nat.reduceLeDiff, hI_uI, hL_uI, hR_uI, nx_uI, sl_uI, hI_uL, hL_uL, hR_uL, nx_uL, sl_uL, hI_uR, hL_uR, hR_uR, nx_uR, sl_uR, st_eq, if_true, if_false, eq_self, Nat.reduceEqDiff, Nat.reduceMul, reduceIte, kdT, ixT, w_cl, w_ti, w_s1, w_a, w_m12, w_m8, w_m3, w_m4, e1, c_mwithin, q2, q3, Bool.true_eq_false]
      rw [if_pos (by decide)]
def hld_ (nf : Nat) (L : Nat → Nat → Int32) (ho da : Int32) : Nat := if wi_ ho (-2) 11 = true then it_ (ctb_ (fun i => decide (hol_ L (Int32.ofNat i) da nf = ho))) 20 0 0 else 0
theorem m_held {ho da : Int32} (hM : MS_ h) (hL : ML_ nf L h) (hd : 2 ≤ d) : Do_ xs d 146 [vA (some 33554440), vI ho, vI da, vX 0, vX 0] h (some (some (vI (Int32.ofNat (hld_ nf L ho da))))) (uI_ h 33554440 (st_ (hI_ h 33554440) 0 0)) := by
  obtain ⟨e1, e2, e3⟩ := id hL
  have hM0 : MS_ (uI_ h 33554440 (st_ (hI_ h 33554440) 0 0)) := hM.u
  intro Q
  unfold hld_
  by_cases c : wi_ ho (-2) 11 = true
  · rw [if_pos c]
    have L9 := loop_ (P := fun k n => V_ xs d 146 10 [vA (some 33554440), vI ho, vI da, vI (Int32.ofNat n), vI (Int32.ofNat k)] [] (uI_ h 33554440 (st_ (hI_ h 33554440) 0 0)) Q) (f := ctb_ (fun i => decide (hol_ L (Int32.ofNat i) da nf = ho))) (n := 20) (fun _ _ => True) (fun k n hk _ => ⟨by
      rw [s146_10]
      simp (disch := first | omega | assumption | decide | (apply bT_; decide)) only [s146_0, s146_1, s146_2, s146_5, s146_6, s146_7, s146_8, s146_12, s146_14, s146_17, s146_18, s146_20, s146_22, s146_25, s146_28, s146_29, s146_31, s146_32, s146_33, s146_36, s146_39, s146_40, s146_43, s146_46, s146_49, s146_52, s146_53, K_v, K_0, acI, acA, acJ, acX, List.map_cons, List.map_nil, List.sum_cons, List.sum_nil, true_and, and_true, posT, b2_0, b2_1, bft, true_or, or_true, Nat.zero_le, Nat.reduceAdd, Nat.reduceLeDiff, hI_uI, hL_uI, hR_uI, nx_uI, sl_uI, hI_uL, hL_uL, hR_uL, nx_uL, sl_uL, hI_uR, hL_uR, hR_uR, nx_uR, sl_uR, st_eq, if_true, if_false, eq_self, Nat.reduceEqDiff, Nat.reduceMul, reduceIte, kdT, ixT, w_cl, w_ti, w_s1, w_a, w_m12, w_m8, w_m3, w_m4, e1, c_mwithin, c, c_mholder hM0 hL.u0 (Nat.le_refl nf), w20, ctb_, decide_eq_true_iff, Bool.true_eq_false]
      rw [if_pos hk]
      by_cases q : hol_ L (Int32.ofNat k) da nf = ho
      · rw [if_pos q, if_pos q]
      · rw [if_neg q, if_neg q], trivial⟩) 20 0 0 rfl trivial
    simp (disch := first | omega | assumption | decide | (apply bT_; decide)) only [s146_0, s146_1, s146_2, s146_5, s146_6, s146_7, s146_8, s146_12, s146_14, s146_17, s146_18, s146_20, s146_22, s146_25, s146_28, s146_29, s146_31, s146_32, s146_33, s146_36, s146_39, s146_40, s146_43, s146_46, s146_49, s146_52, s146_53, K_v, K_0, acI, acA, acJ, acX, List.map_cons, List.map_nil, List.sum_cons, List.sum_nil, true_and, and_true, posT, b2_0, b2_1, bft, true_or, or_true, Nat.zero_le, Nat.reduceAdd, Nat.reduceLeDiff, hI_uI, hL_uI, hR_uI, nx_uI, sl_uI, hI_uL, hL_uL, hR_uL, nx_uL, sl_uL, hI_uR, hL_uR, hR_uR, nx_uR, sl_uR, st_eq, if_true, if_false, eq_self, Nat.reduceEqDiff, Nat.reduceMul, reduceIte, kdT, ixT, w_cl, w_ti, w_s1, w_a, w_m12, w_m8, w_m3, w_m4]
    refine (show V_ xs d 146 10 [vA (some 33554440), vI ho, vI da, vI (Int32.ofNat 0), vI (Int32.ofNat 0)] [] _ Q ↔ _ from L9.1).trans ?_
    rw [s146_10]
    simp (disch := first | omega | assumption | decide | (apply bT_; decide)) only [s146_0, s146_1, s146_2, s146_5, s146_6, s146_7, s146_8, s146_12, s146_14, s146_17, s146_18, s146_20, s146_22, s146_25, s146_28, s146_29, s146_31, s146_32, s146_33, s146_36, s146_39, s146_40, s146_43, s146_46, s146_49, s146_52, s146_53, K_v, K_0, acI, acA, acJ, acX, List.map_cons, List.map_nil, List.sum_cons, List.sum_nil, true_and, and_true, posT, b2_0, b2_1, bft, true_or, or_true, Nat.zero_le, Nat.reduceAdd, Nat.reduceLeDiff, hI_uI, hL_uI, hR_uI, nx_uI, sl_uI, hI_uL, hL_uL, hR_uL, nx_uL, sl_uL, hI_uR, hL_uR, hR_uR, nx_uR, sl_uR, st_eq, if_true, if_false, eq_self, Nat.reduceEqDiff, Nat.reduceMul, reduceIte, kdT, ixT, w_cl, w_ti, w_s1, w_a, w_m12, w_m8, w_m3, w_m4, w20]
    rw [if_neg (by omega)]
  · have c' : wi_ ho (-2) 11 = false := by simpa using c
    rw [if_neg c]
    simp (disch := first | omega | assumption | decide | (apply bT_; decide)) only [s146_0, s146_1, s146_2, s146_5, s146_6, s146_7, s146_8, s146_10, s146_12, s146_14, s146_17, s146_18, s146_20, s146_22, s146_25, s146_28, s146_29, s146_31, s146_32, s146_33, s146_36, s146_39, s146_40, s146_43, s146_46, s146_49, s146_52, s146_53, K_v, K_0, acI, acA, acJ, acX, List.map_cons, List.map_nil, List.sum_cons, List.sum_nil, true_and, and_true, posT, b2_0, b2_1, bft, true_or, or_true, Nat.zero_le, Nat.reduceAdd, Nat.reduceLeDiff, hI_uI, hL_uI, hR_uI, nx_uI, sl_uI, hI_uL, hL_uL, hR_uL, nx_uL, sl_uL, hI_uR, hL_uR, hR_uR, nx_uR, sl_uR, st_eq, if_true, if_false, eq_self, Nat.reduceEqDiff, Nat.reduceMul, reduceIte, kdT, ixT, w_cl, w_ti, w_s1, w_a, w_m12, w_m8, w_m3, w_m4, c_mwithin, c']
    rw [if_pos (by decide)]
    rfl
/-! the tape -/
def MT_ (tl : Nat) (T : Nat → Int32) (h : AH) : Prop := hI_ h 33554440 39 = Int32.ofNat tl ∧ tl ≤ 800 ∧ ∀ i, i < tl → hI_ h 40683537 i = T i
theorem MT_.eq {tl : Nat} {T : Nat → Int32} {h h1 : AH} (e0 : hI_ h1 33554440 39 = hI_ h 33554440 39) (e1 : hI_ h1 40683537 = hI_ h 40683537) (H : MT_ tl T h) : MT_ tl T h1 := by
  unfold MT_ at H ⊢
  rw [e0, e1]
  exact H
/-- the byte at a place of five numbers -/
def sel_ (a b c e f : Int32) (k : Nat) : Int32 := if k < 4 then a else if k < 8 then b else if k < 12 then c else if k < 16 then e else f
def byn_ (a b c e f : Int32) (k : Nat) : Int32 := (sel_ a b c e f k >>> ((24 - 8 * (Int32.ofNat k - Int32.ofNat k / 4 * 4)) &&& 31)).toInt8.toInt32
theorem w4 {a : Nat} (ha : a < 2147483648) : (Int32.ofNat a < 4) ↔ a < 4 := w_ltl rfl ha (by omega)
theorem w16 {a : Nat} (ha : a < 2147483648) : (Int32.ofNat a < 16) ↔ a < 16 := w_ltl rfl ha (by omega)
def fdT_ (T : Nat → Int32) (tl : Nat) (v : Nat → Int32) : Nat → Int32 := fun i => if tl ≤ i then v (i - tl) else T i
theorem m_feed {tl : Nat} {T : Nat → Int32} {a b c e f : Int32} (hM : MS_ h) (hT : MT_ tl T h) (hd : 2 ≤ d) : ∃ h', FM_ [40683537] [0, 39] h h' ∧ hI_ h' 33554440 0 = 0 ∧
    (if tl + 20 ≤ 800 then Do_ xs d 147 [vA (some 33554440), vI a, vI b, vI c, vI e, vI f, vX 0, vX 0] h (some (some (vI (Int32.ofNat (tl + 20))))) h' ∧ MT_ (tl + 20) (fdT_ T tl (byn_ a b c e f)) h'
     else Do_ xs d 147 [vA (some 33554440), vI a, vI b, vI c, vI e, vI f, vX 0, vX 0] h (some (some (vI (-1)))) h' ∧ MT_ tl T h') := by
  obtain ⟨e1, e2, e3⟩ := id hT
  have w800 : ∀ {a : Nat}, a < 2147483648 → ((800 : Int32) < Int32.ofNat a ↔ 800 < a) := fun {a} ha => by rw [show (800 : Int32) = Int32.ofNat 800 from rfl, w_lt (by omega) ha]
  have wp20 : ∀ {a : Nat}, Int32.ofNat a + 20 = Int32.ofNat (a + 20) := fun {a} => by rw [Int32.ofNat_add]; rfl
  by_cases hc : tl + 20 ≤ 800
  · simp only [if_pos hc]
    have L9 := fun Q => loop_ (P := fun k (x : (Nat → Int32) × AV) => V_ xs d 147 23 [vA (some 33554440), vI a, vI b, vI c, vI e, vI f, vI (Int32.ofNat k), x.2] [] (uI_ (uI_ h 40683537 x.1) 33554440 (st_ (st_ (hI_ h 33554440) 0 0) 39 (Int32.ofNat (tl + k)))) Q) (f := fun k x => (st_ x.1 (tl + k) (byn_ a b c e f k), vI (sel_ a b c e f k))) (n := 20) (fun _ _ => True) (fun k x hk _ => ⟨by
      obtain ⟨r, v⟩ := x
      have hw : ∀ r' : Nat → Int32, uI_ (uI_ (uI_ (uI_ h 40683537 r) 33554440 (st_ (st_ (hI_ h 33554440) 0 0) 39 (Int32.ofNat (tl + k)))) 40683537 r') 33554440 (st_ (st_ (st_ (hI_ h 33554440) 0 0) 39 (Int32.ofNat (tl + k))) 39 (Int32.ofNat (tl + k + 1))) = uI_ (uI_ h 40683537 r') 33554440 (st_ (st_ (hI_ h 33554440) 0 0) 39 (Int32.ofNat (tl + (k + 1)))) := by
        intro r'
        rw [uI_comm (a := 33554440) (b := 40683537) (by decide), uI_uI, uI_uI]
        congr 1
        funext j
        simp only [st_eq]
        by_cases q : j = 39
        · rw [if_pos q, if_pos q]; rfl
        · rw [if_neg q, if_neg q, if_neg q]
      dsimp only
      rw [s147_23]
      simp (disch := first | omega | assumption | decide | (apply bT_; decide)) only [s147_0, s147_1, s147_2, s147_5, s147_6, s147_9, s147_11, s147_12, s147_15, s147_18, s147_19, s147_20, s147_21, s147_25, s147_27, s147_30, s147_32, s147_33, s147_36, s147_37, s147_40, s147_42, s147_44, s147_47, s147_48, s147_51, s147_53, s147_55, s147_58, s147_59, s147_62, s147_64, s147_66, s147_69, s147_71, s147_74, s147_76, s147_78, s147_79, s147_82, s147_83, s147_86, s147_88, s147_90, s147_92, s147_94, s147_95, s147_96, s147_97, s147_98, s147_99, s147_100, s147_101, s147_102, s147_102i, s147_103, s147_106, s147_107, s147_108, s147_111, s147_114, s147_117, s147_118, s147_121, K_v, K_0, acI, acA, acJ, acX, List.map_cons, List.map_nil, List.sum_cons, List.sum_nil, true_and, and_true, posT, b2_0, b2_1, bft, true_or, or_true, Nat.zero_le, Nat.reduceAdd, Nat.reduceLeDiff, hI_uI, hL_uI, hR_uI, nx_uI, sl_uI, hI_uL, hL_uL, hR_uL, nx_uL, sl_uL, hI_uR, hL_uR, hR_uR, nx_uR, sl_uR, st_eq, if_true, if_false, eq_self, Nat.reduceEqDiff, Nat.reduceMul, reduceIte, kdT, ixT, w_cl, w_ti, w_s1, w_a, w_m12, w_m8, w_m3, w_m4, hM.r2, hM.r3, hM.r4, hM.r5, hM.r6, hM.r7, hM.r9, hM.r10, hM.r11, hM.r12, hM.r13, hM.r14, hM.r15, hM.r16, hM.r17, hM.r18, hM.r20, hM.r21, hM.r23, hM.r29, hM.r30, hM.r35, hM.r36, hM.r37, hM.r38, hM.r40, hM.r42, hM.r43, hM.r44, hM.r45, hM.r46, hM.r47, w20, w4, w8, w12, w16, kd_mTape, ln_mTape, byn_, sel_]
      rw [if_pos hk]
      by_cases k4 : k < 4
      · simp only [if_pos k4, hw]
      · by_cases k8 : k < 8
        · simp only [if_neg k4, if_pos k8, hw]
        · by_cases k12 : k < 12
          · simp only [if_neg k4, if_neg k8, if_pos k12, hw]
          · by_cases k16 : k < 16
            · simp only [if_neg k4, if_neg k8, if_neg k12, if_pos k16, hw]
            · simp only [if_neg k4, if_neg k8, if_neg k12, if_neg k16, hw], trivial⟩) 20 0 (hI_ h 40683537, vX 0) rfl trivial
    have hrow : ∀ (k i : Nat) (r : Nat → Int32) (v : AV) (j : Nat), (it_ (fun k (x : (Nat → Int32) × AV) => (st_ x.1 (tl + k) (byn_ a b c e f k), vI (sel_ a b c e f k))) k i (r, v)).1 j = if tl + i ≤ j ∧ j < tl + i + k then byn_ a b c e f (j - tl) else r j := by
      intro k
      induction k with
      | zero => intro i r v j; rw [if_neg (by omega)]; rfl
      | succ k ih =>
        intro i r v j
        show (it_ _ k (i + 1) (st_ r (tl + i) (byn_ a b c e f i), vI (sel_ a b c e f i))).1 j = _
        rw [ih, st_eq]
        by_cases q : tl + (i + 1) ≤ j ∧ j < tl + (i + 1) + k
        · rw [if_pos q, if_pos (by omega)]
        · rw [if_neg q]
          by_cases q2 : j = tl + i
          · rw [if_pos q2, if_pos (by omega), q2, Nat.add_sub_cancel_left]
          · rw [if_neg q2, if_neg (by omega)]
    refine ⟨uI_ (uI_ h 40683537 (it_ (fun k (x : (Nat → Int32) × AV) => (st_ x.1 (tl + k) (byn_ a b c e f k), vI (sel_ a b c e f k))) 20 0 (hI_ h 40683537, vX 0)).1) 33554440 (st_ (st_ (hI_ h 33554440) 0 0) 39 (Int32.ofNat (tl + 20))), ?_, by simp only [hI_uI, hL_uI, hR_uI, nx_uI, sl_uI, hI_uL, hL_uL, hR_uL, nx_uL, sl_uL, hI_uR, hL_uR, hR_uR, nx_uR, sl_uR, st_eq, if_true, if_false, eq_self, Nat.reduceEqDiff, Nat.reduceMul, reduceIte, kdT, ixT, w_cl, w_ti, w_s1, w_a, w_m12, w_m8, w_m3, w_m4], fun Q => ?_, by simp only [hI_uI, hL_uI, hR_uI, nx_uI, sl_uI, hI_uL, hL_uL, hR_uL, nx_uL, sl_uL, hI_uR, hL_uR, hR_uR, nx_uR, sl_uR, st_eq, if_true, if_false, eq_self, Nat.reduceEqDiff, Nat.reduceMul, reduceIte, kdT, ixT, w_cl, w_ti, w_s1, w_a, w_m12, w_m8, w_m3, w_m4], hc, fun i hi => ?_⟩
    · have f1 := ((FM_.rf (W := [40683537]) (J := [0, 39]) (h := h)).uW (a := 40683537) (r := (it_ (fun k (x : (Nat → Int32) × AV) => (st_ x.1 (tl + k) (byn_ a b c e f k), vI (sel_ a b c e f k))) 20 0 (hI_ h 40683537, vX 0)).1) (by decide) (by decide)).uM (j := 0) (v := 0) (by decide)
      have f2 := f1.uM (j := 39) (v := Int32.ofNat (tl + 20)) (by decide)
      simp only [hI_uI, if_true, uI_uI, Nat.reduceEqDiff, reduceIte] at f2
      exact f2
    · have h1 := L9 Q
      dsimp only at h1
      have e39 : st_ (st_ (hI_ h 33554440) 0 0) 39 (Int32.ofNat (tl + 0)) = st_ (hI_ h 33554440) 0 0 := by
        funext j
        simp only [st_eq]
        by_cases q : j = 39
        · rw [if_pos q, q, if_neg (by decide), e1, Nat.add_zero]
        · rw [if_neg q]
      rw [e39, uI_self] at h1
      have hA1 : ¬ (800 < tl + 20) := by omega
      simp (disch := first | omega | assumption | decide | (apply bT_; decide)) only [s147_0, s147_1, s147_2, s147_5, s147_6, s147_9, s147_11, s147_12, s147_15, s147_18, s147_19, s147_20, s147_21, s147_25, s147_27, s147_30, s147_32, s147_33, s147_36, s147_37, s147_40, s147_42, s147_44, s147_47, s147_48, s147_51, s147_53, s147_55, s147_58, s147_59, s147_62, s147_64, s147_66, s147_69, s147_71, s147_74, s147_76, s147_78, s147_79, s147_82, s147_83, s147_86, s147_88, s147_90, s147_92, s147_94, s147_95, s147_96, s147_97, s147_98, s147_99, s147_100, s147_101, s147_102, s147_102i, s147_103, s147_106, s147_107, s147_108, s147_111, s147_114, s147_117, s147_118, s147_121, K_v, K_0, acI, acA, acJ, acX, List.map_cons, List.map_nil, List.sum_cons, List.sum_nil, true_and, and_true, posT, b2_0, b2_1, bft, true_or, or_true, Nat.zero_le, Nat.reduceAdd, Nat.reduceLeDiff, hI_uI, hL_uI, hR_uI, nx_uI, sl_uI, hI_uL, hL_uL, hR_uL, nx_uL, sl_uL, hI_uR, hL_uR, hR_uR, nx_uR, sl_uR, st_eq, if_true, if_false, eq_self, Nat.reduceEqDiff, Nat.reduceMul, reduceIte, kdT, ixT, w_cl, w_ti, w_s1, w_a, w_m12, w_m8, w_m3, w_m4, e1, wp20, w800, if_neg hA1]
      refine (show V_ xs d 147 23 [vA (some 33554440), vI a, vI b, vI c, vI e, vI f, vI (Int32.ofNat 0), vX 0] [] _ Q ↔ _ from h1.1).trans ?_
      rw [s147_23]
      simp (disch := first | omega | assumption | decide | (apply bT_; decide)) only [s147_0, s147_1, s147_2, s147_5, s147_6, s147_9, s147_11, s147_12, s147_15, s147_18, s147_19, s147_20, s147_21, s147_25, s147_27, s147_30, s147_32, s147_33, s147_36, s147_37, s147_40, s147_42, s147_44, s147_47, s147_48, s147_51, s147_53, s147_55, s147_58, s147_59, s147_62, s147_64, s147_66, s147_69, s147_71, s147_74, s147_76, s147_78, s147_79, s147_82, s147_83, s147_86, s147_88, s147_90, s147_92, s147_94, s147_95, s147_96, s147_97, s147_98, s147_99, s147_100, s147_101, s147_102, s147_102i, s147_103, s147_106, s147_107, s147_108, s147_111, s147_114, s147_117, s147_118, s147_121, K_v, K_0, acI, acA, acJ, acX, List.map_cons, List.map_nil, List.sum_cons, List.sum_nil, true_and, and_true, posT, b2_0, b2_1, bft, true_or, or_true, Nat.zero_le, Nat.reduceAdd, Nat.reduceLeDiff, hI_uI, hL_uI, hR_uI, nx_uI, sl_uI, hI_uL, hL_uL, hR_uL, nx_uL, sl_uL, hI_uR, hL_uR, hR_uR, nx_uR, sl_uR, st_eq, if_true, if_false, eq_self, Nat.reduceEqDiff, Nat.reduceMul, reduceIte, kdT, ixT, w_cl, w_ti, w_s1, w_a, w_m12, w_m8, w_m3, w_m4, w20]
      rw [if_neg (by omega)]
    · simp only [hI_uI, hL_uI, hR_uI, nx_uI, sl_uI, hI_uL, hL_uL, hR_uL, nx_uL, sl_uL, hI_uR, hL_uR, hR_uR, nx_uR, sl_uR, st_eq, if_true, if_false, eq_self, Nat.reduceEqDiff, Nat.reduceMul, reduceIte, kdT, ixT, w_cl, w_ti, w_s1, w_a, w_m12, w_m8, w_m3, w_m4]
      rw [hrow]
      unfold fdT_
      by_cases q : tl ≤ i
      · rw [if_pos (by omega), if_pos q]
      · rw [if_neg (by omega), if_neg q]
        exact e3 i (by omega)
  · simp only [if_neg hc]
    refine ⟨uI_ h 33554440 (st_ (hI_ h 33554440) 0 0), FM_.rf.uM (by decide), by simp only [hI_uI, hL_uI, hR_uI, nx_uI, sl_uI, hI_uL, hL_uL, hR_uL, nx_uL, sl_uL, hI_uR, hL_uR, hR_uR, nx_uR, sl_uR, st_eq, if_true, if_false, eq_self, Nat.reduceEqDiff, Nat.reduceMul, reduceIte, kdT, ixT, w_cl, w_ti, w_s1, w_a, w_m12, w_m8, w_m3, w_m4], fun Q => ?_, MT_.eq (by simp only [hI_uI, hL_uI, hR_uI, nx_uI, sl_uI, hI_uL, hL_uL, hR_uL, nx_uL, sl_uL, hI_uR, hL_uR, hR_uR, nx_uR, sl_uR, st_eq, if_true, if_false, eq_self, Nat.reduceEqDiff, Nat.reduceMul, reduceIte, kdT, ixT, w_cl, w_ti, w_s1, w_a, w_m12, w_m8, w_m3, w_m4]) (by simp only [hI_uI, hL_uI, hR_uI, nx_uI, sl_uI, hI_uL, hL_uL, hR_uL, nx_uL, sl_uL, hI_uR, hL_uR, hR_uR, nx_uR, sl_uR, st_eq, if_true, if_false, eq_self, Nat.reduceEqDiff, Nat.reduceMul, reduceIte, kdT, ixT, w_cl, w_ti, w_s1, w_a, w_m12, w_m8, w_m3, w_m4]) hT⟩
    simp (disch := first | omega | assumption | decide | (apply bT_; decide)) only [s147_0, s147_1, s147_2, s147_5, s147_6, s147_9, s147_11, s147_12, s147_15, s147_18, s147_19, s147_21, s147_23, s147_25, s147_27, s147_30, s147_32, s147_33, s147_36, s147_37, s147_40, s147_42, s147_44, s147_47, s147_48, s147_51, s147_53, s147_55, s147_58, s147_59, s147_62, s147_64, s147_66, s147_69, s147_71, s147_74, s147_76, s147_78, s147_79, s147_82, s147_83, s147_86, s147_88, s147_90, s147_92, s147_94, s147_95, s147_96, s147_97, s147_98, s147_99, s147_100, s147_101, s147_102, s147_102i, s147_103, s147_106, s147_107, s147_108, s147_111, s147_114, s147_117, s147_118, s147_121, K_v, K_0, acI, acA, acJ, acX, List.map_cons, List.map_nil, List.sum_cons, List.sum_nil, true_and, and_true, posT, b2_0, b2_1, bft, true_or, or_true, Nat.zero_le, Nat.reduceAdd, Nat.reduceLeDiff, hI_uI, hL_uI, hR_uI, nx_uI, sl_uI, hI_uL, hL_uL, hR_uL, nx_uL, sl_uL, hI_uR, hL_uR, hR_uR, nx_uR, sl_uR, st_eq, if_true, if_false, eq_self, Nat.reduceEqDiff, Nat.reduceMul, reduceIte, kdT, ixT, w_cl, w_ti, w_s1, w_a, w_m12, w_m8, w_m3, w_m4, e1, wp20, w800]
    rw [if_pos (by omega)]
theorem m_end {tl : Nat} {T : Nat → Int32} {n : Int32} (hT : MT_ tl T h) : ∃ h', FM_ [] [0, 39] h h' ∧ hI_ h' 33554440 0 = 0 ∧
    (if 0 ≤ n.toInt ∧ n.toInt ≤ tl then Do_ xs d 148 [vA (some 33554440), vI n] h (some (some (vI n))) h' ∧ MT_ n.toNatClampNeg T h'
     else Do_ xs d 148 [vA (some 33554440), vI n] h (some (some (vI (-1)))) h' ∧ MT_ tl T h') := by
  obtain ⟨e1, e2, e3⟩ := id hT
  have z : (0 : Int32).toInt = 0 := rfl
  by_cases c : 0 ≤ n.toInt ∧ n.toInt ≤ tl
  · simp only [if_pos c]
    obtain ⟨k, rfl, hk1, hk2⟩ := w_of c.1
    rw [w_cl hk2]
    refine ⟨uI_ h 33554440 (st_ (st_ (hI_ h 33554440) 0 0) 39 (Int32.ofNat k)), ?_, by simp only [hI_uI, hL_uI, hR_uI, nx_uI, sl_uI, hI_uL, hL_uL, hR_uL, nx_uL, sl_uL, hI_uR, hL_uR, hR_uR, nx_uR, sl_uR, st_eq, if_true, if_false, eq_self, Nat.reduceEqDiff, Nat.reduceMul, reduceIte, kdT, ixT, w_cl, w_ti, w_s1, w_a, w_m12, w_m8, w_m3, w_m4], fun Q => ?_, by simp only [hI_uI, hL_uI, hR_uI, nx_uI, sl_uI, hI_uL, hL_uL, hR_uL, nx_uL, sl_uL, hI_uR, hL_uR, hR_uR, nx_uR, sl_uR, st_eq, if_true, if_false, eq_self, Nat.reduceEqDiff, Nat.reduceMul, reduceIte, kdT, ixT, w_cl, w_ti, w_s1, w_a, w_m12, w_m8, w_m3, w_m4], by omega, fun i hi => by simp only [hI_uI, hL_uI, hR_uI, nx_uI, sl_uI, hI_uL, hL_uL, hR_uL, nx_uL, sl_uL, hI_uR, hL_uR, hR_uR, nx_uR, sl_uR, st_eq, if_true, if_false, eq_self, Nat.reduceEqDiff, Nat.reduceMul, reduceIte, kdT, ixT, w_cl, w_ti, w_s1, w_a, w_m12, w_m8, w_m3, w_m4]; exact e3 i (by omega)⟩
    · have f1 := (FM_.rf (W := []) (J := [0, 39]) (h := h)).uM (j := 0) (v := 0) (by decide)
      have f2 := f1.uM (j := 39) (v := Int32.ofNat k) (by decide)
      simp only [hI_uI, if_true, uI_uI] at f2
      exact f2
    · simp (disch := first | omega | assumption | decide | (apply bT_; decide)) only [s148_0, s148_1, s148_2, s148_5, s148_6, s148_9, s148_10, s148_11, s148_14, s148_17, s148_18, s148_19, s148_20, s148_21, s148_24, s148_25, K_v, K_0, acI, acA, acJ, acX, List.map_cons, List.map_nil, List.sum_cons, List.sum_nil, true_and, and_true, posT, b2_0, b2_1, bft, true_or, or_true, Nat.zero_le, Nat.reduceAdd, Nat.reduceLeDiff, hI_uI, hL_uI, hR_uI, nx_uI, sl_uI, hI_uL, hL_uL, hR_uL, nx_uL, sl_uL, hI_uR, hL_uR, hR_uR, nx_uR, sl_uR, st_eq, if_true, if_false, eq_self, Nat.reduceEqDiff, Nat.reduceMul, reduceIte, kdT, ixT, w_cl, w_ti, w_s1, w_a, w_m12, w_m8, w_m3, w_m4, e1, uI_uI, w_lt]
      rw [if_neg (w_n0 hk2), if_neg (by omega)]
  · simp only [if_neg c]
    refine ⟨uI_ h 33554440 (st_ (hI_ h 33554440) 0 0), FM_.rf.uM (by decide), by simp only [hI_uI, hL_uI, hR_uI, nx_uI, sl_uI, hI_uL, hL_uL, hR_uL, nx_uL, sl_uL, hI_uR, hL_uR, hR_uR, nx_uR, sl_uR, st_eq, if_true, if_false, eq_self, Nat.reduceEqDiff, Nat.reduceMul, reduceIte, kdT, ixT, w_cl, w_ti, w_s1, w_a, w_m12, w_m8, w_m3, w_m4], fun Q => ?_, MT_.eq (by simp only [hI_uI, hL_uI, hR_uI, nx_uI, sl_uI, hI_uL, hL_uL, hR_uL, nx_uL, sl_uL, hI_uR, hL_uR, hR_uR, nx_uR, sl_uR, st_eq, if_true, if_false, eq_self, Nat.reduceEqDiff, Nat.reduceMul, reduceIte, kdT, ixT, w_cl, w_ti, w_s1, w_a, w_m12, w_m8, w_m3, w_m4]) (by simp only [hI_uI, hL_uI, hR_uI, nx_uI, sl_uI, hI_uL, hL_uL, hR_uL, nx_uL, sl_uL, hI_uR, hL_uR, hR_uR, nx_uR, sl_uR, st_eq, if_true, if_false, eq_self, Nat.reduceEqDiff, Nat.reduceMul, reduceIte, kdT, ixT, w_cl, w_ti, w_s1, w_a, w_m12, w_m8, w_m3, w_m4]) hT⟩
    simp (disch := first | omega | assumption | decide | (apply bT_; decide)) only [s148_0, s148_1, s148_2, s148_5, s148_6, s148_9, s148_10, s148_11, s148_14, s148_17, s148_18, s148_20, s148_21, s148_24, s148_25, K_v, K_0, acI, acA, acJ, acX, List.map_cons, List.map_nil, List.sum_cons, List.sum_nil, true_and, and_true, posT, b2_0, b2_1, bft, true_or, or_true, Nat.zero_le, Nat.reduceAdd, Nat.reduceLeDiff, hI_uI, hL_uI, hR_uI, nx_uI, sl_uI, hI_uL, hL_uL, hR_uL, nx_uL, sl_uL, hI_uR, hL_uR, hR_uR, nx_uR, sl_uR, st_eq, if_true, if_false, eq_self, Nat.reduceEqDiff, Nat.reduceMul, reduceIte, kdT, ixT, w_cl, w_ti, w_s1, w_a, w_m12, w_m8, w_m3, w_m4, e1, Int32.lt_iff_toInt_lt]
    by_cases q1 : n.toInt < (0 : Int32).toInt
    · rw [if_pos q1]
    · rw [if_neg q1, if_pos (by omega)]
end MLE
