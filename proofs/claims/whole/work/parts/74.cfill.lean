/-! the fill: the class -/
def sb_ (P : PS) (f s : Nat) : Nat := sm_ (fun p => if s.testBit p = true then nf_ P p f else 0) (qn_ P)
def fo_ (c : Nat → Bool) : Nat → Nat
  | 0 => 0
  | n + 1 => if (mem_ (fo_ c n) 12).length < 8 ∧ c n = true then fo_ c n + 2 ^ n else fo_ c n
def FE_ (P : PS) (ch L s : Nat) : Prop := s &&& ch = s ∧ sb_ P 0 s ≤ L
def OPT_ (P : PS) (A : Nat → Prop) (s : Nat) : Prop := A s ∧ ∀ t, A t → sb_ P 1 t < sb_ P 1 s ∨ (sb_ P 1 t = sb_ P 1 s ∧ key12_ s ≤ key12_ t)
noncomputable def fil_ (P : PS) (ch L : Nat) : Nat := Classical.epsilon (fun s => OPT_ P (FE_ P ch L) s)
section FIL
variable {xs : Nat → Int32} {d : Nat} {h : AH} {Q : OU_ → AH → Prop} {P : PS} {sp : Nat → Nat}
theorem fo_lt {c : Nat → Bool} : ∀ {n : Nat}, fo_ c n < 2 ^ n := by
  intro n
  induction n with
  | zero => exact Nat.one_pos
  | succ n ih =>
    show (if (mem_ (fo_ c n) 12).length < 8 ∧ c n = true then fo_ c n + 2 ^ n else fo_ c n) < _
    have h2 : 2 ^ (n + 1) = 2 ^ n + 2 ^ n := by rw [Nat.pow_succ]; omega
    split <;> omega
theorem fo_congr {c c' : Nat → Bool} : ∀ {n : Nat}, (∀ i, i < n → c i = c' i) → fo_ c n = fo_ c' n := by
  intro n
  induction n with
  | zero => intro _; rfl
  | succ n ih =>
    intro h
    show (if (mem_ (fo_ c n) 12).length < 8 ∧ c n = true then fo_ c n + 2 ^ n else fo_ c n) = (if (mem_ (fo_ c' n) 12).length < 8 ∧ c' n = true then fo_ c' n + 2 ^ n else fo_ c' n)
    rw [ih (fun i hi => h i (by omega)), h n (by omega)]
theorem fo_stop {c : Nat → Bool} {n : Nat} (h8 : ¬ ((mem_ (fo_ c n) 12).length < 8)) : ∀ {k : Nat}, fo_ c (n + k) = fo_ c n := by
  intro k
  induction k with
  | zero => rfl
  | succ k ih =>
    show (if (mem_ (fo_ c (n + k)) 12).length < 8 ∧ c (n + k) = true then fo_ c (n + k) + 2 ^ (n + k) else fo_ c (n + k)) = _
    rw [ih, if_neg (fun z => h8 z.1)]
theorem OPT_un {A : Nat → Prop} {s t : Nat} (hA : ∀ x, A x → x < 4096) (hs : OPT_ P A s) (ht : OPT_ P A t) : s = t := by
  obtain ⟨s1, s2⟩ := hs
  obtain ⟨t1, t2⟩ := ht
  apply key_inj (hA s s1) (hA t t1)
  rcases s2 t t1 with a | a <;> rcases t2 s s1 with b | b <;> omega
theorem fil_eq {ch L s : Nat} (hc : ch < 4096) (hs : OPT_ P (FE_ P ch L) s) : fil_ P ch L = s := by
  have := Classical.epsilon_spec (p := fun s => OPT_ P (FE_ P ch L) s) ⟨s, hs⟩
  exact OPT_un (fun x hx => by have h1 : x &&& ch = x := hx.1; have := Nat.and_le_right (n := x) (m := ch); omega) this hs
theorem sb_bd (hB : PB_ P) {f s : Nat} (hf : f < 2) : sb_ P f s ≤ qn_ P * 1000 := by
  unfold sb_
  have : ∀ n, n ≤ qn_ P → sm_ (fun p => if s.testBit p = true then nf_ P p f else 0) n ≤ n * 1000 := by
    intro n
    induction n with
    | zero => intro _; exact Nat.zero_le _
    | succ n ih =>
      intro hn
      have h1 := ih (by omega)
      obtain ⟨-, -, a0, a1, -, -⟩ := hB n (by omega)
      have h2 : (if s.testBit n = true then nf_ P n f else 0) ≤ 1000 := by
        split
        · rcases (show f = 0 ∨ f = 1 by omega) with z | z <;> subst z <;> omega
        · omega
      show sm_ (fun p => if s.testBit p = true then nf_ P p f else 0) n + (if s.testBit n = true then nf_ P n f else 0) ≤ _
      omega
  exact this _ (Nat.le_refl _)
theorem c_minutesOf {s : Nat} (hC : CS_ h) (hP : CP_ P sp h) (hB : PB_ P) (hs : s < 4096) : V_ xs d 95 0 [vA (some 25165831), vI (Int32.ofNat s), vX 0, vX 0, vX 0] [] h Q ↔ Q (some (some (vI (Int32.ofNat (sb_ P 0 s))))) h := by
  have h12 := hP.2.1.1
  have u3 := hP.1
  have hb : kd_ 25690901 = 20 ∨ kd_ 25690901 = 21 ∨ kd_ 25690901 = 22 := Or.inr (Or.inl rfl)
  obtain ⟨v4, -, k2⟩ := loopX_ (P := fun Q i (v4 : AV) => V_ xs d 95 4 [vA (some 25165831), vI (Int32.ofNat s), vI (Int32.ofNat (sm_ (fun p => if s.testBit p = true then nf_ P p 0 else 0) i)), vI (Int32.ofNat i), v4] [] h Q) (n := qn_ P) (fun _ _ => True) (fun i v4 hi _ => by
    refine ⟨vA (some (mk_ (sp i) 4 0)), trivial, fun Q => ?_⟩
    have hbit := w_bit (M := s) (m := i) (by omega) (by omega)
    have k1 : ¬ ((0 : Int32) = 1) := by decide
    have e1 := (hP.2.2.1 i hi).1
    have e5 := hP.2.2.2.2.1 i 0 hi (by omega)
    rw [(hB i hi).1 0 (by omega)] at e5
    have hkp : kd_ (mk_ (sp i) 4 0) = 4 := kd_mk (by omega)
    have es : sm_ (fun p => if s.testBit p = true then nf_ P p 0 else 0) (i + 1) = sm_ (fun p => if s.testBit p = true then nf_ P p 0 else 0) i + (if s.testBit i = true then nf_ P i 0 else 0) := rfl
    rw [s95_4, es]
    cases hbt : s.testBit i
    · rw [hbt] at hbit
      simp (disch := first | omega | assumption | decide | (apply bT_; decide)) only [s95_0, s95_1, s95_2, s95_3, s95_5, s95_6, s95_9, s95_12, s95_13, s95_16, s95_17, s95_18, s95_20, s95_22, s95_25, s95_26, s95_27, s95_28, s95_29, s95_30, s95_31, s95_35, s95_37, s95_40, s95_41, s95_42, s95_45, s95_49, K_v, K_0, acI, acA, acJ, acX, List.map_cons, List.map_nil, List.sum_cons, List.sum_nil, true_and, and_true, posT, b2_0, b2_1, bft, true_or, or_true, Nat.zero_le, Nat.reduceAdd, Nat.reduceLeDiff, hI_uI, hL_uI, hR_uI, nx_uI, sl_uI, hI_uL, hL_uL, hR_uL, nx_uL, sl_uL, hI_uR, hL_uR, hR_uR, nx_uR, sl_uR, st_eq, if_true, if_false, eq_self, Nat.reduceEqDiff, Nat.reduceMul, reduceIte, kdT, ixT, w_cl, w_ti, w_s1, w_a, w_m12, w_m8, w_m3, w_m4, hC.x0, hC.x2, hC.x4, hC.x7, hC.x8, hC.x9, hC.x11, hC.f0, hC.f1, hC.f2, hC.p0, hC.p1, hC.p2, hC.p3, hC.l1, hC.l2, hC.l3, hC.l4, hC.d0, hC.d1, hC.d2, hC.g1, hC.g2, hC.g3, hC.g4, hC.k1, hC.k2, hC.k3, hC.k4, u3, hi, w_lt, e1, hbit, k1, hkp, Nat.add_zero, kd_X, ln_X, kd_REP, ln_REP, reduceCtorEq, Bool.false_eq_true]
    · rw [hbt] at hbit
      simp (disch := first | omega | assumption | decide | (apply bT_; decide)) only [s95_0, s95_1, s95_2, s95_3, s95_5, s95_6, s95_9, s95_12, s95_13, s95_16, s95_17, s95_18, s95_20, s95_22, s95_25, s95_26, s95_27, s95_28, s95_29, s95_30, s95_31, s95_34, s95_35, s95_37, s95_40, s95_41, s95_42, s95_45, s95_49, K_v, K_0, acI, acA, acJ, acX, List.map_cons, List.map_nil, List.sum_cons, List.sum_nil, true_and, and_true, posT, b2_0, b2_1, bft, true_or, or_true, Nat.zero_le, Nat.reduceAdd, Nat.reduceLeDiff, hI_uI, hL_uI, hR_uI, nx_uI, sl_uI, hI_uL, hL_uL, hR_uL, nx_uL, sl_uL, hI_uR, hL_uR, hR_uR, nx_uR, sl_uR, st_eq, if_true, if_false, eq_self, Nat.reduceEqDiff, Nat.reduceMul, reduceIte, kdT, ixT, w_cl, w_ti, w_s1, w_a, w_m12, w_m8, w_m3, w_m4, hC.x0, hC.x2, hC.x4, hC.x7, hC.x8, hC.x9, hC.x11, hC.f0, hC.f1, hC.f2, hC.p0, hC.p1, hC.p2, hC.p3, hC.l1, hC.l2, hC.l3, hC.l4, hC.d0, hC.d1, hC.d2, hC.g1, hC.g2, hC.g3, hC.g4, hC.k1, hC.k2, hC.k3, hC.k4, u3, hi, w_lt, e1, hbit, e5, hkp, kd_X, ln_X, kd_REP, ln_REP, reduceCtorEq, Bool.true_eq_false]) (qn_ P) 0 (vX 0) (by omega) trivial
  have nl : ¬ (qn_ P < qn_ P) := by omega
  simp (disch := first | omega | assumption | decide | (apply bT_; decide)) only [s95_0, s95_1, s95_2, s95_3, s95_5, s95_6, s95_9, s95_12, s95_13, s95_16, s95_17, s95_18, s95_20, s95_22, s95_25, s95_26, s95_27, s95_28, s95_29, s95_30, s95_31, s95_34, s95_35, s95_37, s95_40, s95_41, s95_42, s95_45, s95_48, s95_49, K_v, K_0, acI, acA, acJ, acX, List.map_cons, List.map_nil, List.sum_cons, List.sum_nil, true_and, and_true, posT, b2_0, b2_1, bft, true_or, or_true, Nat.zero_le, Nat.reduceAdd, Nat.reduceLeDiff, hI_uI, hL_uI, hR_uI, nx_uI, sl_uI, hI_uL, hL_uL, hR_uL, nx_uL, sl_uL, hI_uR, hL_uR, hR_uR, nx_uR, sl_uR, st_eq, if_true, if_false, eq_self, Nat.reduceEqDiff, Nat.reduceMul, reduceIte, kdT, ixT, w_cl, w_ti, w_s1, w_a, w_m12, w_m8, w_m3, w_m4]
  refine Iff.trans (show V_ xs d 95 4 _ _ _ _ ↔ _ from k2 Q) ?_
  rw [s95_4]
  simp (disch := first | omega | assumption | decide | (apply bT_; decide)) only [s95_0, s95_1, s95_2, s95_3, s95_5, s95_6, s95_9, s95_13, s95_16, s95_17, s95_18, s95_20, s95_22, s95_25, s95_26, s95_27, s95_28, s95_29, s95_30, s95_31, s95_34, s95_35, s95_37, s95_40, s95_41, s95_42, s95_45, s95_48, s95_49, K_v, K_0, acI, acA, acJ, acX, List.map_cons, List.map_nil, List.sum_cons, List.sum_nil, true_and, and_true, posT, b2_0, b2_1, bft, true_or, or_true, Nat.zero_le, Nat.reduceAdd, Nat.reduceLeDiff, hI_uI, hL_uI, hR_uI, nx_uI, sl_uI, hI_uL, hL_uL, hR_uL, nx_uL, sl_uL, hI_uR, hL_uR, hR_uR, nx_uR, sl_uR, st_eq, if_true, if_false, eq_self, Nat.reduceEqDiff, Nat.reduceMul, reduceIte, kdT, ixT, w_cl, w_ti, w_s1, w_a, w_m12, w_m8, w_m3, w_m4, u3, nl, w_lt, kd_X, ln_X]
  exact Iff.rfl
theorem c_takingsOf {s : Nat} (hC : CS_ h) (hP : CP_ P sp h) (hB : PB_ P) (hs : s < 4096) : V_ xs d 96 0 [vA (some 25165831), vI (Int32.ofNat s), vX 0, vX 0, vX 0] [] h Q ↔ Q (some (some (vI (Int32.ofNat (sb_ P 1 s))))) h := by
  have h12 := hP.2.1.1
  have u3 := hP.1
  have hb : kd_ 25690901 = 20 ∨ kd_ 25690901 = 21 ∨ kd_ 25690901 = 22 := Or.inr (Or.inl rfl)
  obtain ⟨v4, -, k2⟩ := loopX_ (P := fun Q i (v4 : AV) => V_ xs d 96 4 [vA (some 25165831), vI (Int32.ofNat s), vI (Int32.ofNat (sm_ (fun p => if s.testBit p = true then nf_ P p 1 else 0) i)), vI (Int32.ofNat i), v4] [] h Q) (n := qn_ P) (fun _ _ => True) (fun i v4 hi _ => by
    refine ⟨vA (some (mk_ (sp i) 4 0)), trivial, fun Q => ?_⟩
    have hbit := w_bit (M := s) (m := i) (by omega) (by omega)
    have k1 : ¬ ((0 : Int32) = 1) := by decide
    have e1 := (hP.2.2.1 i hi).1
    have e5 := hP.2.2.2.2.1 i 1 hi (by omega)
    rw [(hB i hi).1 1 (by omega)] at e5
    have hkp : kd_ (mk_ (sp i) 4 0) = 4 := kd_mk (by omega)
    have es : sm_ (fun p => if s.testBit p = true then nf_ P p 1 else 0) (i + 1) = sm_ (fun p => if s.testBit p = true then nf_ P p 1 else 0) i + (if s.testBit i = true then nf_ P i 1 else 0) := rfl
    rw [s96_4, es]
    cases hbt : s.testBit i
    · rw [hbt] at hbit
      simp (disch := first | omega | assumption | decide | (apply bT_; decide)) only [s96_0, s96_1, s96_2, s96_3, s96_5, s96_6, s96_9, s96_12, s96_13, s96_16, s96_17, s96_18, s96_20, s96_22, s96_25, s96_26, s96_27, s96_28, s96_29, s96_30, s96_31, s96_35, s96_37, s96_40, s96_41, s96_42, s96_45, s96_49, K_v, K_0, acI, acA, acJ, acX, List.map_cons, List.map_nil, List.sum_cons, List.sum_nil, true_and, and_true, posT, b2_0, b2_1, bft, true_or, or_true, Nat.zero_le, Nat.reduceAdd, Nat.reduceLeDiff, hI_uI, hL_uI, hR_uI, nx_uI, sl_uI, hI_uL, hL_uL, hR_uL, nx_uL, sl_uL, hI_uR, hL_uR, hR_uR, nx_uR, sl_uR, st_eq, if_true, if_false, eq_self, Nat.reduceEqDiff, Nat.reduceMul, reduceIte, kdT, ixT, w_cl, w_ti, w_s1, w_a, w_m12, w_m8, w_m3, w_m4, hC.x0, hC.x2, hC.x4, hC.x7, hC.x8, hC.x9, hC.x11, hC.f0, hC.f1, hC.f2, hC.p0, hC.p1, hC.p2, hC.p3, hC.l1, hC.l2, hC.l3, hC.l4, hC.d0, hC.d1, hC.d2, hC.g1, hC.g2, hC.g3, hC.g4, hC.k1, hC.k2, hC.k3, hC.k4, u3, hi, w_lt, e1, hbit, k1, hkp, Nat.add_zero, kd_X, ln_X, kd_REP, ln_REP, reduceCtorEq, Bool.false_eq_true]
    · rw [hbt] at hbit
      simp (disch := first | omega | assumption | decide | (apply bT_; decide)) only [s96_0, s96_1, s96_2, s96_3, s96_5, s96_6, s96_9, s96_12, s96_13, s96_16, s96_17, s96_18, s96_20, s96_22, s96_25, s96_26, s96_27, s96_28, s96_29, s96_30, s96_31, s96_34, s96_35, s96_37, s96_40, s96_41, s96_42, s96_45, s96_49, K_v, K_0, acI, acA, acJ, acX, List.map_cons, List.map_nil, List.sum_cons, List.sum_nil, true_and, and_true, posT, b2_0, b2_1, bft, true_or, or_true, Nat.zero_le, Nat.reduceAdd, Nat.reduceLeDiff, hI_uI, hL_uI, hR_uI, nx_uI, sl_uI, hI_uL, hL_uL, hR_uL, nx_uL, sl_uL, hI_uR, hL_uR, hR_uR, nx_uR, sl_uR, st_eq, if_true, if_false, eq_self, Nat.reduceEqDiff, Nat.reduceMul, reduceIte, kdT, ixT, w_cl, w_ti, w_s1, w_a, w_m12, w_m8, w_m3, w_m4, hC.x0, hC.x2, hC.x4, hC.x7, hC.x8, hC.x9, hC.x11, hC.f0, hC.f1, hC.f2, hC.p0, hC.p1, hC.p2, hC.p3, hC.l1, hC.l2, hC.l3, hC.l4, hC.d0, hC.d1, hC.d2, hC.g1, hC.g2, hC.g3, hC.g4, hC.k1, hC.k2, hC.k3, hC.k4, u3, hi, w_lt, e1, hbit, e5, hkp, kd_X, ln_X, kd_REP, ln_REP, reduceCtorEq, Bool.true_eq_false]) (qn_ P) 0 (vX 0) (by omega) trivial
  have nl : ¬ (qn_ P < qn_ P) := by omega
  simp (disch := first | omega | assumption | decide | (apply bT_; decide)) only [s96_0, s96_1, s96_2, s96_3, s96_5, s96_6, s96_9, s96_12, s96_13, s96_16, s96_17, s96_18, s96_20, s96_22, s96_25, s96_26, s96_27, s96_28, s96_29, s96_30, s96_31, s96_34, s96_35, s96_37, s96_40, s96_41, s96_42, s96_45, s96_48, s96_49, K_v, K_0, acI, acA, acJ, acX, List.map_cons, List.map_nil, List.sum_cons, List.sum_nil, true_and, and_true, posT, b2_0, b2_1, bft, true_or, or_true, Nat.zero_le, Nat.reduceAdd, Nat.reduceLeDiff, hI_uI, hL_uI, hR_uI, nx_uI, sl_uI, hI_uL, hL_uL, hR_uL, nx_uL, sl_uL, hI_uR, hL_uR, hR_uR, nx_uR, sl_uR, st_eq, if_true, if_false, eq_self, Nat.reduceEqDiff, Nat.reduceMul, reduceIte, kdT, ixT, w_cl, w_ti, w_s1, w_a, w_m12, w_m8, w_m3, w_m4]
  refine Iff.trans (show V_ xs d 96 4 _ _ _ _ ↔ _ from k2 Q) ?_
  rw [s96_4]
  simp (disch := first | omega | assumption | decide | (apply bT_; decide)) only [s96_0, s96_1, s96_2, s96_3, s96_5, s96_6, s96_9, s96_13, s96_16, s96_17, s96_18, s96_20, s96_22, s96_25, s96_26, s96_27, s96_28, s96_29, s96_30, s96_31, s96_34, s96_35, s96_37, s96_40, s96_41, s96_42, s96_45, s96_48, s96_49, K_v, K_0, acI, acA, acJ, acX, List.map_cons, List.map_nil, List.sum_cons, List.sum_nil, true_and, and_true, posT, b2_0, b2_1, bft, true_or, or_true, Nat.zero_le, Nat.reduceAdd, Nat.reduceLeDiff, hI_uI, hL_uI, hR_uI, nx_uI, sl_uI, hI_uL, hL_uL, hR_uL, nx_uL, sl_uL, hI_uR, hL_uR, hR_uR, nx_uR, sl_uR, st_eq, if_true, if_false, eq_self, Nat.reduceEqDiff, Nat.reduceMul, reduceIte, kdT, ixT, w_cl, w_ti, w_s1, w_a, w_m12, w_m8, w_m3, w_m4, u3, nl, w_lt, kd_X, ln_X]
  exact Iff.rfl
theorem c_firstOf {s : Nat} (hP : CP_ P sp h) (hs : s < 4096) (hd : 1 ≤ d) : V_ xs d 94 0 [vA (some 25165831), vI (Int32.ofNat s), vX 0, vX 0] [] h Q ↔ Q (some (some (vI (Int32.ofNat (fo_ s.testBit (qn_ P)))))) h := by
  have h12 := hP.2.1.1
  have u3 := hP.1
  have key : ∀ (k i : Nat), i + k = qn_ P → (V_ xs d 94 4 [vA (some 25165831), vI (Int32.ofNat s), vI (Int32.ofNat (fo_ s.testBit i)), vI (Int32.ofNat i)] [] h Q ↔ Q (some (some (vI (Int32.ofNat (fo_ s.testBit (qn_ P)))))) h) := by
    intro k
    induction k with
    | zero =>
      intro i hk
      have e : i = qn_ P := by omega
      have nl : ¬ (qn_ P < qn_ P) := by omega
      rw [e, s94_4]
      simp (disch := first | omega | assumption | decide | (apply bT_; decide)) only [s94_0, s94_1, s94_2, s94_3, s94_5, s94_6, s94_9, s94_13, s94_16, s94_18, s94_21, s94_22, s94_23, s94_24, s94_25, s94_26, s94_27, s94_28, s94_29, s94_32, s94_35, s94_36, K_v, K_0, acI, acA, acJ, acX, List.map_cons, List.map_nil, List.sum_cons, List.sum_nil, true_and, and_true, posT, b2_0, b2_1, bft, true_or, or_true, Nat.zero_le, Nat.reduceAdd, Nat.reduceLeDiff, hI_uI, hL_uI, hR_uI, nx_uI, sl_uI, hI_uL, hL_uL, hR_uL, nx_uL, sl_uL, hI_uR, hL_uR, hR_uR, nx_uR, sl_uR, st_eq, if_true, if_false, eq_self, Nat.reduceEqDiff, Nat.reduceMul, reduceIte, kdT, ixT, w_cl, w_ti, w_s1, w_a, w_m12, w_m8, w_m3, w_m4, u3, nl, w_lt, kd_X, ln_X]
    | succ k ih =>
      intro i hk
      have hi : i < qn_ P := by omega
      have hfl := fo_lt (c := s.testBit) (n := i)
      have hp2 : 2 ^ i ≤ 2 ^ 12 := Nat.pow_le_pow_right (by omega) (by omega)
      have hbc := bc_12 (fo_ s.testBit i) (by omega)
      have hle := mem_le (s := fo_ s.testBit i) (n := 12)
      by_cases q : (mem_ (fo_ s.testBit i) 12).length < 8
      · have n8 : Int32.ofNat (mem_ (fo_ s.testBit i) 12).length < 8 := (w_lt (b := 8) (by omega) (by omega)).mpr q
        have hsh := w_shl i (by omega)
        have hor : Int32.ofNat (fo_ s.testBit i) ||| (Int32.ofNat s &&& Int32.ofNat (2 ^ i)) = Int32.ofNat (fo_ s.testBit (i + 1)) := by
          show _ = Int32.ofNat (if (mem_ (fo_ s.testBit i) 12).length < 8 ∧ s.testBit i = true then fo_ s.testBit i + 2 ^ i else fo_ s.testBit i)
          cases ht : s.testBit i
          · rw [(and_low (by omega)).mpr ht, if_neg (fun z => by cases z.2)]
            exact Int32.or_zero
          · rw [if_pos ⟨q, rfl⟩, w_and, w_or]
            have e : s &&& 2 ^ i = 2 ^ i := by
              apply Nat.eq_of_testBit_eq
              intro j
              rw [Nat.testBit_and, Nat.testBit_two_pow]
              by_cases c : i = j
              · rw [← c, ht, decide_eq_true rfl]; rfl
              · rw [decide_eq_false c, Bool.and_false]
            rw [e, or_pow hfl]
        rw [s94_4]
        simp (disch := first | omega | assumption | decide | (apply bT_; decide)) only [s94_0, s94_1, s94_2, s94_3, s94_5, s94_6, s94_9, s94_12, s94_13, s94_16, s94_18, s94_21, s94_22, s94_23, s94_24, s94_25, s94_26, s94_27, s94_28, s94_29, s94_32, s94_36, K_v, K_0, acI, acA, acJ, acX, List.map_cons, List.map_nil, List.sum_cons, List.sum_nil, true_and, and_true, posT, b2_0, b2_1, bft, true_or, or_true, Nat.zero_le, Nat.reduceAdd, Nat.reduceLeDiff, hI_uI, hL_uI, hR_uI, nx_uI, sl_uI, hI_uL, hL_uL, hR_uL, nx_uL, sl_uL, hI_uR, hL_uR, hR_uR, nx_uR, sl_uR, st_eq, if_true, if_false, eq_self, Nat.reduceEqDiff, Nat.reduceMul, reduceIte, kdT, ixT, w_cl, w_ti, w_s1, w_a, w_m12, w_m8, w_m3, w_m4, u3, hi, w_lt, c_bitCountA, hbc, n8, hsh, hor, kd_X, ln_X]
        exact ih (i + 1) (by omega)
      · have n8 : ¬ (Int32.ofNat (mem_ (fo_ s.testBit i) 12).length < 8) := fun z => q ((w_lt (b := 8) (by omega) (by omega)).mp z)
        have e : fo_ s.testBit (qn_ P) = fo_ s.testBit i := by rw [← hk]; exact fo_stop q
        rw [s94_4, e]
        simp (disch := first | omega | assumption | decide | (apply bT_; decide)) only [s94_0, s94_1, s94_2, s94_3, s94_5, s94_6, s94_9, s94_12, s94_13, s94_16, s94_18, s94_22, s94_23, s94_24, s94_25, s94_26, s94_27, s94_28, s94_29, s94_32, s94_35, s94_36, K_v, K_0, acI, acA, acJ, acX, List.map_cons, List.map_nil, List.sum_cons, List.sum_nil, true_and, and_true, posT, b2_0, b2_1, bft, true_or, or_true, Nat.zero_le, Nat.reduceAdd, Nat.reduceLeDiff, hI_uI, hL_uI, hR_uI, nx_uI, sl_uI, hI_uL, hL_uL, hR_uL, nx_uL, sl_uL, hI_uR, hL_uR, hR_uR, nx_uR, sl_uR, st_eq, if_true, if_false, eq_self, Nat.reduceEqDiff, Nat.reduceMul, reduceIte, kdT, ixT, w_cl, w_ti, w_s1, w_a, w_m12, w_m8, w_m3, w_m4, u3, hi, w_lt, c_bitCountA, hbc, n8, kd_X, ln_X]
  simp (disch := first | omega | assumption | decide | (apply bT_; decide)) only [s94_0, s94_1, s94_2, s94_3, s94_5, s94_6, s94_9, s94_12, s94_13, s94_16, s94_18, s94_21, s94_22, s94_23, s94_24, s94_25, s94_26, s94_27, s94_28, s94_29, s94_32, s94_35, s94_36, K_v, K_0, acI, acA, acJ, acX, List.map_cons, List.map_nil, List.sum_cons, List.sum_nil, true_and, and_true, posT, b2_0, b2_1, bft, true_or, or_true, Nat.zero_le, Nat.reduceAdd, Nat.reduceLeDiff, hI_uI, hL_uI, hR_uI, nx_uI, sl_uI, hI_uL, hL_uL, hR_uL, nx_uL, sl_uL, hI_uR, hL_uR, hR_uR, nx_uR, sl_uR, st_eq, if_true, if_false, eq_self, Nat.reduceEqDiff, Nat.reduceMul, reduceIte, kdT, ixT, w_cl, w_ti, w_s1, w_a, w_m12, w_m8, w_m3, w_m4]
  exact key (qn_ P) 0 (by omega)
end FIL
