/-! the week: the class follows its table -/
def BH_ (P : PS) (l : List Nat) (h : AH) : Prop := ∀ left x, left < 2 ^ l.length → x < l.length → left.testBit x = true → hI_ h 27918352 (8 * left + x) = Int32.ofNat (bhd_ P l left x)
theorem w8i : ∀ i, i < 256 → ∀ j, j < 8 → Int32.ofNat i * 8 + Int32.ofNat j = Int32.ofNat (8 * i + j) := by decide +kernel
theorem w_xor {a b : Nat} : Int32.ofNat a ^^^ Int32.ofNat b = Int32.ofNat (a ^^^ b) := by
  apply Int32.toBitVec_inj.mp
  apply BitVec.eq_of_toNat_eq
  show ((BitVec.ofNat 32 a) ^^^ (BitVec.ofNat 32 b)).toNat = (BitVec.ofNat 32 (a ^^^ b)).toNat
  rw [BitVec.toNat_xor, BitVec.toNat_ofNat, BitVec.toNat_ofNat, BitVec.toNat_ofNat, Nat.xor_mod_two_pow]
section CFO
variable {xs : Nat → Int32} {d : Nat} {h : AH} {P : PS} {sp : Nat → Nat} {l : List Nat}
theorem p256 (hl : l.length ≤ 8) : 2 ^ l.length ≤ 256 := Nat.pow_le_pow_right (n := 2) (by omega) hl
theorem c_follow1 (hC : CS_ h) (hP : CP_ P sp h) (hB : PB_ P) (hM : ME_ l h) (hH : BH_ P l h) (hl : l.length ≤ 8) (hq : ∀ j, j < l.length → l.getD j 0 < qn_ P) : ∃ v6 v7 : AV, ∀ Q, V_ xs d 60 9 [vA (some 27000838), vA (some 25690901), vI (Int32.ofNat (2 ^ l.length - 1)), vI (Int32.ofNat 1000000), vI (Int32.ofNat 0), vI (Int32.ofNat 0), vX 0, vX 0] [] h Q ↔ V_ xs d 60 78 [vA (some 27000838), vA (some 25690901), vI (Int32.ofNat (2 ^ l.length - 1)), vI (Int32.ofNat (am_ (2 ^ l.length - 1).testBit (fun x => wf_ P (l.getD x 0) + bhd_ P l (2 ^ l.length - 1) x) l.length).2), vI (Int32.ofNat (am_ (2 ^ l.length - 1).testBit (fun x => wf_ P (l.getD x 0) + bhd_ P l (2 ^ l.length - 1) x) l.length).1), vI (Int32.ofNat l.length), v6, v7] [] h Q := by
  obtain ⟨m1, m2⟩ := id hM
  have h12 := hP.2.1.1
  have h256 := p256 hl
  have hpos : 0 < 2 ^ l.length := Nat.two_pow_pos _
  have hb : kd_ 25690901 = 20 ∨ kd_ 25690901 = 21 ∨ kd_ 25690901 = 22 := Or.inr (Or.inl rfl)
  obtain ⟨⟨v6, v7⟩, -, k2⟩ := loopX_ (P := fun Q i (x : AV × AV) => V_ xs d 60 9 [vA (some 27000838), vA (some 25690901), vI (Int32.ofNat (2 ^ l.length - 1)), vI (Int32.ofNat (am_ (2 ^ l.length - 1).testBit (fun x => wf_ P (l.getD x 0) + bhd_ P l (2 ^ l.length - 1) x) i).2), vI (Int32.ofNat (am_ (2 ^ l.length - 1).testBit (fun x => wf_ P (l.getD x 0) + bhd_ P l (2 ^ l.length - 1) x) i).1), vI (Int32.ofNat i), x.1, x.2] [] h Q) (n := l.length) (fun _ _ => True) (fun i x hi _ => by
    obtain ⟨v6, v7⟩ := x
    have hbt : (2 ^ l.length - 1).testBit i = true := by rw [Nat.testBit_two_pow_sub_one, decide_eq_true hi]
    have hqi := hq i hi
    have e1 := (hP.2.2.1 _ hqi).1
    have e2 := m2 i hi
    have e3 := hH (2 ^ l.length - 1) i (by omega) hi hbt
    have e4 := w8i (2 ^ l.length - 1) (by omega) i (by omega)
    have e5 := hP.2.2.2.2.1 (l.getD i 0) 3 hqi (by omega)
    obtain ⟨a0, -, -, -, -, a3⟩ := hB _ hqi
    rw [a0 3 (by omega)] at e5
    have hkp : kd_ (mk_ (sp (l.getD i 0)) 4 0) = 4 := kd_mk (by omega)
    have hbl := bhd_le hB hl hq hi hbt
    have hml := am_le (c := (2 ^ l.length - 1).testBit) (g := fun x => wf_ P (l.getD x 0) + bhd_ P l (2 ^ l.length - 1) x) (n := i)
    have es : am_ (2 ^ l.length - 1).testBit (fun x => wf_ P (l.getD x 0) + bhd_ P l (2 ^ l.length - 1) x) (i + 1) = if (2 ^ l.length - 1).testBit i = true ∧ wf_ P (l.getD i 0) + bhd_ P l (2 ^ l.length - 1) i < (am_ (2 ^ l.length - 1).testBit (fun x => wf_ P (l.getD x 0) + bhd_ P l (2 ^ l.length - 1) x) i).2 then (i, wf_ P (l.getD i 0) + bhd_ P l (2 ^ l.length - 1) i) else am_ (2 ^ l.length - 1).testBit (fun x => wf_ P (l.getD x 0) + bhd_ P l (2 ^ l.length - 1) x) i := rfl
    have ew : wf_ P (l.getD i 0) = nf_ P (l.getD i 0) 3 := rfl
    refine ⟨(vA (some (mk_ (sp (l.getD i 0)) 4 0)), vI (Int32.ofNat (wf_ P (l.getD i 0) + bhd_ P l (2 ^ l.length - 1) i))), trivial, fun Q => ?_⟩
    dsimp only
    rw [s60_9, es]
    by_cases q : wf_ P (l.getD i 0) + bhd_ P l (2 ^ l.length - 1) i < (am_ (2 ^ l.length - 1).testBit (fun x => wf_ P (l.getD x 0) + bhd_ P l (2 ^ l.length - 1) x) i).2
    · rw [if_pos ⟨hbt, q⟩]
      simp (disch := first | omega | assumption | decide | (apply bT_; decide)) only [s60_0, s60_2, s60_3, s60_4, s60_6, s60_7, s60_11, s60_12, s60_15, s60_18, s60_19, s60_20, s60_23, s60_25, s60_26, s60_27, s60_29, s60_31, s60_34, s60_36, s60_39, s60_41, s60_44, s60_45, s60_48, s60_49, s60_51, s60_52, s60_54, s60_55, s60_56, s60_57, s60_59, s60_61, s60_62, s60_65, s60_67, s60_68, s60_70, s60_72, s60_75, s60_79, s60_81, s60_82, s60_84, s60_86, s60_87, s60_90, s60_93, s60_94, s60_97, s60_99, s60_100, s60_103, s60_105, s60_106, s60_107, s60_109, s60_110, s60_112, s60_113, s60_114, s60_116, s60_117, s60_119, s60_121, s60_124, s60_126, s60_129, s60_132, s60_133, K_v, K_0, acI, acA, acJ, acX, List.map_cons, List.map_nil, List.sum_cons, List.sum_nil, true_and, and_true, posT, b2_0, b2_1, bft, true_or, or_true, Nat.zero_le, Nat.reduceAdd, Nat.reduceLeDiff, hI_uI, hL_uI, hR_uI, nx_uI, sl_uI, hI_uL, hL_uL, hR_uL, nx_uL, sl_uL, hI_uR, hL_uR, hR_uR, nx_uR, sl_uR, st_eq, if_true, if_false, eq_self, Nat.reduceEqDiff, Nat.reduceMul, reduceIte, kdT, ixT, w_cl, w_ti, w_s1, w_a, w_m12, w_m8, w_m3, w_m4, hC.x0, hC.x2, hC.x4, hC.x7, hC.x8, hC.x9, hC.x11, hC.f0, hC.f1, hC.f2, hC.p0, hC.p1, hC.p2, hC.p3, hC.l1, hC.l2, hC.l3, hC.l4, hC.d0, hC.d1, hC.d2, hC.g1, hC.g2, hC.g3, hC.g4, hC.k1, hC.k2, hC.k3, hC.k4, m1, hi, w_lt, e1, e2, e3, e4, e5, ← ew, q, hkp, kd_REP, ln_REP, kd_PL, ln_PL, kd_MEM, ln_MEM, kd_BEH, ln_BEH, reduceCtorEq]
    · rw [if_neg (fun z => q z.2)]
      simp (disch := first | omega | assumption | decide | (apply bT_; decide)) only [s60_0, s60_2, s60_3, s60_4, s60_6, s60_7, s60_11, s60_12, s60_15, s60_18, s60_19, s60_20, s60_23, s60_25, s60_26, s60_27, s60_29, s60_31, s60_34, s60_36, s60_39, s60_41, s60_44, s60_45, s60_48, s60_49, s60_51, s60_52, s60_54, s60_55, s60_56, s60_57, s60_59, s60_61, s60_62, s60_67, s60_68, s60_70, s60_72, s60_75, s60_79, s60_81, s60_82, s60_84, s60_86, s60_87, s60_90, s60_93, s60_94, s60_97, s60_99, s60_100, s60_103, s60_105, s60_106, s60_107, s60_109, s60_110, s60_112, s60_113, s60_114, s60_116, s60_117, s60_119, s60_121, s60_124, s60_126, s60_129, s60_132, s60_133, K_v, K_0, acI, acA, acJ, acX, List.map_cons, List.map_nil, List.sum_cons, List.sum_nil, true_and, and_true, posT, b2_0, b2_1, bft, true_or, or_true, Nat.zero_le, Nat.reduceAdd, Nat.reduceLeDiff, hI_uI, hL_uI, hR_uI, nx_uI, sl_uI, hI_uL, hL_uL, hR_uL, nx_uL, sl_uL, hI_uR, hL_uR, hR_uR, nx_uR, sl_uR, st_eq, if_true, if_false, eq_self, Nat.reduceEqDiff, Nat.reduceMul, reduceIte, kdT, ixT, w_cl, w_ti, w_s1, w_a, w_m12, w_m8, w_m3, w_m4, hC.x0, hC.x2, hC.x4, hC.x7, hC.x8, hC.x9, hC.x11, hC.f0, hC.f1, hC.f2, hC.p0, hC.p1, hC.p2, hC.p3, hC.l1, hC.l2, hC.l3, hC.l4, hC.d0, hC.d1, hC.d2, hC.g1, hC.g2, hC.g3, hC.g4, hC.k1, hC.k2, hC.k3, hC.k4, m1, hi, w_lt, e1, e2, e3, e4, e5, ← ew, q, hkp, kd_REP, ln_REP, kd_PL, ln_PL, kd_MEM, ln_MEM, kd_BEH, ln_BEH, reduceCtorEq]) l.length 0 (vX 0, vX 0) (by omega) trivial
  refine ⟨v6, v7, fun Q => (k2 Q).trans ?_⟩
  have nl : ¬ (l.length < l.length) := by omega
  rw [s60_9]
  simp (disch := first | omega | assumption | decide | (apply bT_; decide)) only [s60_0, s60_2, s60_3, s60_4, s60_6, s60_7, s60_11, s60_12, s60_15, s60_19, s60_20, s60_23, s60_25, s60_26, s60_27, s60_29, s60_31, s60_34, s60_36, s60_39, s60_41, s60_44, s60_45, s60_48, s60_49, s60_51, s60_52, s60_54, s60_55, s60_56, s60_57, s60_59, s60_61, s60_62, s60_65, s60_67, s60_68, s60_70, s60_72, s60_75, s60_79, s60_81, s60_82, s60_84, s60_86, s60_87, s60_90, s60_93, s60_94, s60_97, s60_99, s60_100, s60_103, s60_105, s60_106, s60_107, s60_109, s60_110, s60_112, s60_113, s60_114, s60_116, s60_117, s60_119, s60_121, s60_124, s60_126, s60_129, s60_132, s60_133, K_v, K_0, acI, acA, acJ, acX, List.map_cons, List.map_nil, List.sum_cons, List.sum_nil, true_and, and_true, posT, b2_0, b2_1, bft, true_or, or_true, Nat.zero_le, Nat.reduceAdd, Nat.reduceLeDiff, hI_uI, hL_uI, hR_uI, nx_uI, sl_uI, hI_uL, hL_uL, hR_uL, nx_uL, sl_uL, hI_uR, hL_uR, hR_uR, nx_uR, sl_uR, st_eq, if_true, if_false, eq_self, Nat.reduceEqDiff, Nat.reduceMul, reduceIte, kdT, ixT, w_cl, w_ti, w_s1, w_a, w_m12, w_m8, w_m3, w_m4, m1, nl, w_lt, kd_PL, ln_PL]
theorem c_follow (hC : CS_ h) (hP : CP_ P sp h) (hB : PB_ P) (hM : ME_ l h) (hG : CG_ P l h) (hH : BH_ P l h) (hl : l.length ≤ 8) (hl0 : 0 < l.length) (hq : ∀ j, j < l.length → l.getD j 0 < qn_ P) (hinj : ∀ x y, x < l.length → y < l.length → l.getD x 0 = l.getD y 0 → x = y) (hd : 3 ≤ d) : ∃ r, (∀ j, j < l.length → r j = Int32.ofNat ((gdy_ (wk_ P) l.length (wf_ P) l).2.getD j 0)) ∧ Do_ xs d 60 [vA (some 27000838), vA (some 25690901), vI (Int32.ofNat (2 ^ l.length - 1)), vX 0, vX 0, vX 0, vX 0, vX 0] h (some (some (vI (Int32.ofNat (gdy_ (wk_ P) l.length (wf_ P) l).1)))) (uI_ h 28049936 r) := by
  obtain ⟨m1, m2⟩ := id hM
  have h12 := hP.2.1.1
  have h256 := p256 hl
  have hpos : 0 < 2 ^ l.length := Nat.two_pow_pos _
  have hwf : ∀ x, x < l.length → wf_ P (l.getD x 0) ≤ 102 := by
    intro x hx
    obtain ⟨-, -, -, -, -, a3⟩ := hB _ (hq x hx)
    show nf_ P (l.getD x 0) 3 ≤ 102
    omega
  obtain ⟨n1, hn1⟩ : ∃ n1, l.length = n1 + 1 := ⟨l.length - 1, by omega⟩
  have hall : (mem_ (2 ^ l.length - 1) l.length).length = n1 + 1 := by rw [mem_all (Nat.le_refl _), List.length_range, hn1]
  have hpk := gdy_pick (left := 2 ^ l.length - 1) (c := wf_ P) (k := n1) hB hl hq hinj hwf hall
  rw [mp_all, ← hn1] at hpk
  obtain ⟨v6, v7, hf1⟩ := c_follow1 (xs := xs) (d := d) hC hP hB hM hH hl hq
  rw [← hpk.1] at hf1
  obtain ⟨⟨⟨left, last⟩, r⟩, k1, k2⟩ := loopX_ (P := fun Q i (x : (Nat × Nat) × (Nat → Int32)) => V_ xs d 60 84 [vA (some 27000838), vA (some 25690901), vI (Int32.ofNat (2 ^ l.length - 1)), vI (Int32.ofNat (gdy_ (wk_ P) l.length (wf_ P) l).1), vI (Int32.ofNat x.1.2), vI (Int32.ofNat x.1.1), vI (Int32.ofNat i), v7] [] (uI_ h 28049936 x.2) Q) (n := l.length) (fun i x => x.1.1 < 2 ^ l.length ∧ (mem_ x.1.1 l.length).length = l.length - i ∧ (∀ j, j < i → x.2 j = Int32.ofNat ((gdy_ (wk_ P) l.length (wf_ P) l).2.getD j 0)) ∧ ∃ c : Nat → Nat, (∀ y, y < l.length → c (l.getD y 0) ≤ 102) ∧ x.1.2 = (am_ x.1.1.testBit (fun y => c (l.getD y 0) + bhd_ P l x.1.1 y) l.length).1 ∧ ∀ j, (gdy_ (wk_ P) l.length (wf_ P) l).2.getD (i + j) 0 = (gdy_ (wk_ P) (l.length - i) c (mp_ l x.1.1)).2.getD j 0) (fun i x hi hI => by
    obtain ⟨⟨left, last⟩, r⟩ := x
    obtain ⟨i1, i2, i3, c, i4, i5, i6⟩ := hI
    dsimp only at i1 i2 i3 i5 i6
    obtain ⟨k, hk⟩ : ∃ k, l.length - i = k + 1 := ⟨l.length - i - 1, by omega⟩
    have hp := gdy_pick (left := left) (c := c) (k := k) hB hl hq hinj i4 (by omega)
    rw [← i5, ← hk] at hp
    obtain ⟨-, -, p3, p4, p5⟩ := hp
    have hx := xor_lt (first := last) i1 p3
    have hgl := hq last p3
    refine ⟨((left ^^^ 2 ^ last, (am_ (left ^^^ 2 ^ last).testBit (fun y => wl_ P l last y + bhd_ P l (left ^^^ 2 ^ last) y) l.length).1), st_ r i (Int32.ofNat (l.getD last 0))), ⟨hx, ?_, fun j hj => ?_, wk_ P (l.getD last 0), fun y hy => wk_le hB hgl (hq y hy), rfl, fun j => ?_⟩, fun Q => ?_⟩
    · show (mem_ (left ^^^ 2 ^ last) l.length).length = _
      rw [mem_xl p3 p4, i2]; omega
    · show st_ r i (Int32.ofNat (l.getD last 0)) j = _
      rw [st_eq]
      by_cases q : j = i
      · have := i6 0
        rw [Nat.add_zero, p5, List.getD_cons_zero] at this
        rw [if_pos q, q, this]
      · rw [if_neg q]; exact i3 j (by omega)
    · have := i6 (j + 1)
      rw [p5, List.getD_cons_succ] at this
      rw [show i + 1 + j = i + (j + 1) by omega, this, show l.length - (i + 1) = k by omega]
    · have hsh := w_shl last (by omega)
      have hxo := w_xor (a := left) (b := 2 ^ last)
      have e2 := m2 last p3
      have hCx : CS_ (uI_ h 28049936 (st_ r i (Int32.ofNat (l.getD last 0)))) := (KP_.rf.uI (by decide)).cs hC
      have hMx : ME_ l (uI_ h 28049936 (st_ r i (Int32.ofNat (l.getD last 0)))) := ⟨by simp only [hI_uI, hL_uI, hR_uI, nx_uI, sl_uI, hI_uL, hL_uL, hR_uL, nx_uL, sl_uL, hI_uR, hL_uR, hR_uR, nx_uR, sl_uR, st_eq, if_true, if_false, eq_self, Nat.reduceEqDiff, Nat.reduceMul, reduceIte, kdT, ixT, w_cl, w_ti, w_s1, w_a, w_m12, w_m8, w_m3, w_m4]; exact m1, fun j hj => by simp only [hI_uI, hL_uI, hR_uI, nx_uI, sl_uI, hI_uL, hL_uL, hR_uL, nx_uL, sl_uL, hI_uR, hL_uR, hR_uR, nx_uR, sl_uR, st_eq, if_true, if_false, eq_self, Nat.reduceEqDiff, Nat.reduceMul, reduceIte, kdT, ixT, w_cl, w_ti, w_s1, w_a, w_m12, w_m8, w_m3, w_m4]; exact m2 j hj⟩
      have hGx : CG_ P l (uI_ h 28049936 (st_ r i (Int32.ofNat (l.getD last 0)))) := fun a b ha hb => by simp only [hI_uI, hL_uI, hR_uI, nx_uI, sl_uI, hI_uL, hL_uL, hR_uL, nx_uL, sl_uL, hI_uR, hL_uR, hR_uR, nx_uR, sl_uR, st_eq, if_true, if_false, eq_self, Nat.reduceEqDiff, Nat.reduceMul, reduceIte, kdT, ixT, w_cl, w_ti, w_s1, w_a, w_m12, w_m8, w_m3, w_m4]; exact hG a b ha hb
      have hbn := fun Q => c_bestNext (xs := xs) (d := d - 1) (Q := Q) (P := P) (b := bhd_ P l) (rest := left ^^^ 2 ^ last) (first := last) hCx hGx hMx hl p3 (by omega) (fun y hy hyb => ⟨by simp only [hI_uI, hL_uI, hR_uI, nx_uI, sl_uI, hI_uL, hL_uL, hR_uL, nx_uL, sl_uL, hI_uR, hL_uR, hR_uR, nx_uR, sl_uR, st_eq, if_true, if_false, eq_self, Nat.reduceEqDiff, Nat.reduceMul, reduceIte, kdT, ixT, w_cl, w_ti, w_s1, w_a, w_m12, w_m8, w_m3, w_m4]; exact hH _ y hx hy hyb, by have := bhd_le hB hl hq hy hyb; omega⟩) (fun y hy => wk_le hB hgl (hq y hy)) (by omega)
      dsimp only
      rw [s60_84]
      simp (disch := first | omega | assumption | decide | (apply bT_; decide)) only [s60_0, s60_2, s60_3, s60_4, s60_6, s60_7, s60_9, s60_11, s60_12, s60_15, s60_18, s60_19, s60_20, s60_23, s60_25, s60_26, s60_27, s60_29, s60_31, s60_34, s60_36, s60_39, s60_41, s60_44, s60_45, s60_48, s60_49, s60_51, s60_52, s60_54, s60_55, s60_56, s60_57, s60_59, s60_61, s60_62, s60_65, s60_67, s60_68, s60_70, s60_72, s60_75, s60_78, s60_79, s60_81, s60_82, s60_86, s60_87, s60_90, s60_93, s60_94, s60_97, s60_99, s60_100, s60_103, s60_105, s60_106, s60_107, s60_109, s60_110, s60_112, s60_113, s60_114, s60_116, s60_117, s60_119, s60_121, s60_124, s60_126, s60_129, s60_133, K_v, K_0, acI, acA, acJ, acX, List.map_cons, List.map_nil, List.sum_cons, List.sum_nil, true_and, and_true, posT, b2_0, b2_1, bft, true_or, or_true, Nat.zero_le, Nat.reduceAdd, Nat.reduceLeDiff, hI_uI, hL_uI, hR_uI, nx_uI, sl_uI, hI_uL, hL_uL, hR_uL, nx_uL, sl_uL, hI_uR, hL_uR, hR_uR, nx_uR, sl_uR, st_eq, if_true, if_false, eq_self, Nat.reduceEqDiff, Nat.reduceMul, reduceIte, kdT, ixT, w_cl, w_ti, w_s1, w_a, w_m12, w_m8, w_m3, w_m4, hC.x0, hC.x2, hC.x4, hC.x7, hC.x8, hC.x9, hC.x11, hC.f0, hC.f1, hC.f2, hC.p0, hC.p1, hC.p2, hC.p3, hC.l1, hC.l2, hC.l3, hC.l4, hC.d0, hC.d1, hC.d2, hC.g1, hC.g2, hC.g3, hC.g4, hC.k1, hC.k2, hC.k3, hC.k4, m1, hi, w_lt, e2, hsh, hxo, hbn, uI_uI, kd_REP, ln_REP, kd_PL, ln_PL, kd_MEM, ln_MEM, kd_SEQ, ln_SEQ]) l.length 0 ((2 ^ l.length - 1, (am_ (2 ^ l.length - 1).testBit (fun x => wf_ P (l.getD x 0) + bhd_ P l (2 ^ l.length - 1) x) l.length).1), hI_ h 28049936) (by omega) ⟨by dsimp only; omega, by dsimp only; rw [hall]; omega, fun j hj => absurd hj (Nat.not_lt_zero _), wf_ P, hwf, rfl, fun j => by dsimp only; rw [mp_all, Nat.zero_add, Nat.sub_zero]⟩
  refine ⟨r, k1.2.2.1, fun Q => ?_⟩
  have e12 := k2 Q
  dsimp only at e12
  rw [uI_self] at e12
  simp (disch := first | omega | assumption | decide | (apply bT_; decide)) only [s60_0, s60_2, s60_3, s60_4, s60_6, s60_7, s60_11, s60_12, s60_15, s60_18, s60_19, s60_20, s60_23, s60_25, s60_26, s60_27, s60_29, s60_31, s60_34, s60_36, s60_39, s60_41, s60_44, s60_45, s60_48, s60_49, s60_51, s60_52, s60_54, s60_55, s60_56, s60_57, s60_59, s60_61, s60_62, s60_65, s60_67, s60_68, s60_70, s60_72, s60_75, s60_78, s60_79, s60_81, s60_82, s60_84, s60_86, s60_87, s60_90, s60_93, s60_94, s60_97, s60_99, s60_100, s60_103, s60_105, s60_106, s60_107, s60_109, s60_110, s60_112, s60_113, s60_114, s60_116, s60_117, s60_119, s60_121, s60_124, s60_126, s60_129, s60_132, s60_133, K_v, K_0, acI, acA, acJ, acX, List.map_cons, List.map_nil, List.sum_cons, List.sum_nil, true_and, and_true, posT, b2_0, b2_1, bft, true_or, or_true, Nat.zero_le, Nat.reduceAdd, Nat.reduceLeDiff, hI_uI, hL_uI, hR_uI, nx_uI, sl_uI, hI_uL, hL_uL, hR_uL, nx_uL, sl_uL, hI_uR, hL_uR, hR_uR, nx_uR, sl_uR, st_eq, if_true, if_false, eq_self, Nat.reduceEqDiff, Nat.reduceMul, reduceIte, kdT, ixT, w_cl, w_ti, w_s1, w_a, w_m12, w_m8, w_m3, w_m4]
  refine Iff.trans (show V_ xs d 60 9 _ _ _ _ ↔ _ from hf1 Q) ?_
  simp (disch := first | omega | assumption | decide | (apply bT_; decide)) only [s60_0, s60_2, s60_3, s60_4, s60_6, s60_7, s60_9, s60_11, s60_12, s60_15, s60_18, s60_19, s60_20, s60_23, s60_25, s60_26, s60_27, s60_29, s60_31, s60_34, s60_36, s60_39, s60_41, s60_44, s60_45, s60_48, s60_49, s60_51, s60_52, s60_54, s60_55, s60_56, s60_57, s60_59, s60_61, s60_62, s60_65, s60_67, s60_68, s60_70, s60_72, s60_75, s60_78, s60_79, s60_81, s60_82, s60_86, s60_87, s60_90, s60_93, s60_94, s60_97, s60_99, s60_100, s60_103, s60_105, s60_106, s60_107, s60_109, s60_110, s60_112, s60_113, s60_114, s60_116, s60_117, s60_119, s60_121, s60_124, s60_126, s60_129, s60_132, s60_133, K_v, K_0, acI, acA, acJ, acX, List.map_cons, List.map_nil, List.sum_cons, List.sum_nil, true_and, and_true, posT, b2_0, b2_1, bft, true_or, or_true, Nat.zero_le, Nat.reduceAdd, Nat.reduceLeDiff, hI_uI, hL_uI, hR_uI, nx_uI, sl_uI, hI_uL, hL_uL, hR_uL, nx_uL, sl_uL, hI_uR, hL_uR, hR_uR, nx_uR, sl_uR, st_eq, if_true, if_false, eq_self, Nat.reduceEqDiff, Nat.reduceMul, reduceIte, kdT, ixT, w_cl, w_ti, w_s1, w_a, w_m12, w_m8, w_m3, w_m4]
  refine (show V_ xs d 60 84 _ _ _ _ ↔ _ from e12).trans ?_
  have nl : ¬ (l.length < l.length) := by omega
  rw [s60_84]
  simp (disch := first | omega | assumption | decide | (apply bT_; decide)) only [s60_0, s60_2, s60_3, s60_4, s60_6, s60_7, s60_9, s60_11, s60_12, s60_15, s60_18, s60_19, s60_20, s60_23, s60_25, s60_26, s60_27, s60_29, s60_31, s60_34, s60_36, s60_39, s60_41, s60_44, s60_45, s60_48, s60_49, s60_51, s60_52, s60_54, s60_55, s60_56, s60_57, s60_59, s60_61, s60_62, s60_65, s60_67, s60_68, s60_70, s60_72, s60_75, s60_78, s60_79, s60_81, s60_82, s60_86, s60_87, s60_90, s60_94, s60_97, s60_99, s60_100, s60_103, s60_105, s60_106, s60_107, s60_109, s60_110, s60_112, s60_113, s60_114, s60_116, s60_117, s60_119, s60_121, s60_124, s60_126, s60_129, s60_132, s60_133, K_v, K_0, acI, acA, acJ, acX, List.map_cons, List.map_nil, List.sum_cons, List.sum_nil, true_and, and_true, posT, b2_0, b2_1, bft, true_or, or_true, Nat.zero_le, Nat.reduceAdd, Nat.reduceLeDiff, hI_uI, hL_uI, hR_uI, nx_uI, sl_uI, hI_uL, hL_uL, hR_uL, nx_uL, sl_uL, hI_uR, hL_uR, hR_uR, nx_uR, sl_uR, st_eq, if_true, if_false, eq_self, Nat.reduceEqDiff, Nat.reduceMul, reduceIte, kdT, ixT, w_cl, w_ti, w_s1, w_a, w_m12, w_m8, w_m3, w_m4, m1, nl, w_lt, kd_PL, ln_PL]
end CFO
