/-! the week: the least work behind -/
def mnl_ (c : Nat → Bool) (g : Nat → Nat) : Nat → Nat
  | 0 => 1000000
  | n + 1 => if c n = true then min (mnl_ c g n) (g n) else mnl_ c g n
section CBE
variable {xs : Nat → Int32} {d : Nat} {h : AH} {Q : OU_ → AH → Prop} {P : PS} {sp : Nat → Nat} {l : List Nat} {b : Nat → Nat → Nat} {rest first : Nat}
theorem mnl_le {c : Nat → Bool} {g : Nat → Nat} : ∀ {n : Nat}, mnl_ c g n ≤ 1000000 := by
  intro n
  induction n with
  | zero => exact Nat.le_refl _
  | succ n ih =>
    show (if c n = true then min (mnl_ c g n) (g n) else mnl_ c g n) ≤ _
    split <;> omega
def wl_ (P : PS) (l : List Nat) (i j : Nat) : Nat := wk_ P (l.getD i 0) (l.getD j 0)
theorem c_onward {next : Nat} (hC : CS_ h) (hG : CG_ P l h) (hl : l.length ≤ 8) (hf : first < l.length) (hn : next < l.length) (hr : rest < 256) (hb : hI_ h 27918352 (8 * rest + next) = Int32.ofNat (b rest next)) : V_ xs d 59 0 [vA (some 27000838), vI (Int32.ofNat first), vI (Int32.ofNat rest), vI (Int32.ofNat next)] [] h Q ↔ Q (some (some (vI (Int32.ofNat (wl_ P l first next + b rest next))))) h := by
  have w8 : ∀ i, i < 256 → ∀ j, j < 8 → Int32.ofNat i * 8 + Int32.ofNat j = Int32.ofNat (8 * i + j) := by decide +kernel
  have e1 := w8 first (by omega) next (by omega)
  have e2 := w8 rest hr next (by omega)
  have e3 := hG first next hf hn
  simp (disch := first | omega | assumption | decide | (apply bT_; decide)) only [s59_0, s59_1, s59_4, s59_5, s59_7, s59_8, s59_9, s59_10, s59_11, s59_12, s59_15, s59_16, s59_18, s59_19, s59_20, s59_21, s59_22, s59_23, K_v, K_0, acI, acA, acJ, acX, List.map_cons, List.map_nil, List.sum_cons, List.sum_nil, true_and, and_true, posT, b2_0, b2_1, bft, true_or, or_true, Nat.zero_le, Nat.reduceAdd, Nat.reduceLeDiff, hI_uI, hL_uI, hR_uI, nx_uI, sl_uI, hI_uL, hL_uL, hR_uL, nx_uL, sl_uL, hI_uR, hL_uR, hR_uR, nx_uR, sl_uR, st_eq, if_true, if_false, eq_self, Nat.reduceEqDiff, Nat.reduceMul, reduceIte, kdT, ixT, w_cl, w_ti, w_s1, w_a, w_m12, w_m8, w_m3, w_m4, hC.x0, hC.x2, hC.x4, hC.x7, hC.x8, hC.x9, hC.x11, hC.f0, hC.f1, hC.f2, hC.p0, hC.p1, hC.p2, hC.p3, hC.l1, hC.l2, hC.l3, hC.l4, hC.d0, hC.d1, hC.d2, hC.g1, hC.g2, hC.g3, hC.g4, hC.k1, hC.k2, hC.k3, hC.k4, e1, e2, e3, hb, kd_PL, ln_PL, kd_CHG, ln_CHG, kd_BEH, ln_BEH]
  unfold wl_
  try rfl
theorem c_leastBehind {left : Nat} (hC : CS_ h) (hG : CG_ P l h) (hM : ME_ l h) (hl : l.length ≤ 8) (hf : first < l.length) (hx : left < 256) (hr : left ^^^ 2 ^ first = rest) (hr2 : rest < 256) (hb : ∀ x, x < l.length → rest.testBit x = true → hI_ h 27918352 (8 * rest + x) = Int32.ofNat (b rest x) ∧ b rest x ≤ 1000000) (hw : ∀ x, x < l.length → wl_ P l first x ≤ 102) (hd : 2 ≤ d) : V_ xs d 58 0 [vA (some 27000838), vI (Int32.ofNat left), vI (Int32.ofNat first), vX 0, vX 0, vX 0] [] h Q ↔ Q (some (some (vI (Int32.ofNat (if rest = 0 then 0 else mnl_ rest.testBit (fun x => wl_ P l first x + b rest x) l.length))))) h := by
  obtain ⟨m1, m2⟩ := id hM
  have hsh := w_shl first (by omega)
  have hxor : Int32.ofNat left ^^^ Int32.ofNat (2 ^ first) = Int32.ofNat rest := by
    rw [← hr]
    apply Int32.toBitVec_inj.mp
    apply BitVec.eq_of_toNat_eq
    show ((BitVec.ofNat 32 left) ^^^ (BitVec.ofNat 32 (2 ^ first))).toNat = (BitVec.ofNat 32 (left ^^^ 2 ^ first)).toNat
    rw [BitVec.toNat_xor, BitVec.toNat_ofNat, BitVec.toNat_ofNat, BitVec.toNat_ofNat, Nat.xor_mod_two_pow]
  have L := loop_ (P := fun i (_ : Unit) => V_ xs d 58 21 [vA (some 27000838), vI (Int32.ofNat left), vI (Int32.ofNat first), vI (Int32.ofNat rest), vI (Int32.ofNat (if rest = 0 then 0 else mnl_ rest.testBit (fun x => wl_ P l first x + b rest x) i)), vI (Int32.ofNat i)] [] h Q) (f := fun _ x => x) (n := l.length) (fun _ _ => True) (fun i _ hi _ => ⟨by
    have hbit := w_bit (M := rest) (m := i) (by omega) (by omega)
    have hml := mnl_le (c := rest.testBit) (g := fun x => wl_ P l first x + b rest x) (n := i)
    have es : mnl_ rest.testBit (fun x => wl_ P l first x + b rest x) (i + 1) = if rest.testBit i = true then min (mnl_ rest.testBit (fun x => wl_ P l first x + b rest x) i) (wl_ P l first i + b rest i) else mnl_ rest.testBit (fun x => wl_ P l first x + b rest x) i := rfl
    have k1 : ¬ ((0 : Int32) = 1) := by decide
    rw [s58_21, es]
    cases hbt : rest.testBit i
    · rw [hbt] at hbit
      simp (disch := first | omega | assumption | decide | (apply bT_; decide)) only [s58_0, s58_1, s58_2, s58_3, s58_4, s58_5, s58_6, s58_7, s58_10, s58_11, s58_14, s58_16, s58_18, s58_19, s58_23, s58_24, s58_27, s58_30, s58_31, s58_33, s58_34, s58_35, s58_36, s58_37, s58_42, s58_43, s58_44, s58_45, s58_47, s58_50, s58_53, s58_55, s58_58, s58_63, K_v, K_0, acI, acA, acJ, acX, List.map_cons, List.map_nil, List.sum_cons, List.sum_nil, true_and, and_true, posT, b2_0, b2_1, bft, true_or, or_true, Nat.zero_le, Nat.reduceAdd, Nat.reduceLeDiff, hI_uI, hL_uI, hR_uI, nx_uI, sl_uI, hI_uL, hL_uL, hR_uL, nx_uL, sl_uL, hI_uR, hL_uR, hR_uR, nx_uR, sl_uR, st_eq, if_true, if_false, eq_self, Nat.reduceEqDiff, Nat.reduceMul, reduceIte, kdT, ixT, w_cl, w_ti, w_s1, w_a, w_m12, w_m8, w_m3, w_m4, m1, hi, w_lt, hbit, k1, kd_PL, Bool.false_eq_true]
    · rw [hbt] at hbit
      obtain ⟨e1, e2⟩ := hb i hi hbt
      have e3 := hw i hi
      have hon := fun Q => c_onward (xs := xs) (d := d - 1) (Q := Q) (b := b) hC hG hl hf hi hr2 e1
      have n0 : ¬ (rest = 0) := fun z => by rw [z, Nat.zero_testBit] at hbt; cases hbt
      have emin : (if Int32.ofNat (wl_ P l first i + b rest i) < Int32.ofNat (mnl_ rest.testBit (fun x => wl_ P l first x + b rest x) i) then Int32.ofNat (wl_ P l first i + b rest i) else Int32.ofNat (mnl_ rest.testBit (fun x => wl_ P l first x + b rest x) i)) = Int32.ofNat (min (mnl_ rest.testBit (fun x => wl_ P l first x + b rest x) i) (wl_ P l first i + b rest i)) := by
        simp only [w_lt (show wl_ P l first i + b rest i < 2147483648 by omega) (show mnl_ rest.testBit (fun x => wl_ P l first x + b rest x) i < 2147483648 by omega)]
        by_cases q : wl_ P l first i + b rest i < mnl_ rest.testBit (fun x => wl_ P l first x + b rest x) i
        · rw [if_pos q, Nat.min_eq_right (by omega)]
        · rw [if_neg q, Nat.min_eq_left (by omega)]
      rw [if_neg n0, if_neg n0, if_pos rfl]
      simp (disch := first | omega | assumption | decide | (apply bT_; decide)) only [s58_0, s58_1, s58_2, s58_3, s58_4, s58_5, s58_6, s58_7, s58_10, s58_11, s58_14, s58_16, s58_18, s58_19, s58_23, s58_24, s58_27, s58_30, s58_31, s58_33, s58_34, s58_35, s58_36, s58_37, s58_40, s58_42, s58_43, s58_44, s58_45, s58_47, s58_50, s58_53, s58_55, s58_58, s58_63, K_v, K_0, acI, acA, acJ, acX, List.map_cons, List.map_nil, List.sum_cons, List.sum_nil, true_and, and_true, posT, b2_0, b2_1, bft, true_or, or_true, Nat.zero_le, Nat.reduceAdd, Nat.reduceLeDiff, hI_uI, hL_uI, hR_uI, nx_uI, sl_uI, hI_uL, hL_uL, hR_uL, nx_uL, sl_uL, hI_uR, hL_uR, hR_uR, nx_uR, sl_uR, st_eq, if_true, if_false, eq_self, Nat.reduceEqDiff, Nat.reduceMul, reduceIte, kdT, ixT, w_cl, w_ti, w_s1, w_a, w_m12, w_m8, w_m3, w_m4, m1, hi, w_lt, hbit, kd_PL, hon, c_min, Bool.true_eq_false]
      rw [← emin]
      simp (disch := omega) only [w_lt], trivial⟩) l.length 0 () (by omega) trivial
  have nl : ¬ (l.length < l.length) := by omega
  have fin : V_ xs d 58 21 [vA (some 27000838), vI (Int32.ofNat left), vI (Int32.ofNat first), vI (Int32.ofNat rest), vI (Int32.ofNat (if rest = 0 then 0 else mnl_ rest.testBit (fun x => wl_ P l first x + b rest x) l.length)), vI (Int32.ofNat l.length)] [] h Q ↔ Q (some (some (vI (Int32.ofNat (if rest = 0 then 0 else mnl_ rest.testBit (fun x => wl_ P l first x + b rest x) l.length))))) h := by
    rw [s58_21]
    simp (disch := first | omega | assumption | decide | (apply bT_; decide)) only [s58_0, s58_1, s58_2, s58_3, s58_4, s58_5, s58_6, s58_7, s58_10, s58_11, s58_14, s58_16, s58_18, s58_19, s58_23, s58_24, s58_27, s58_31, s58_33, s58_34, s58_35, s58_36, s58_37, s58_40, s58_42, s58_43, s58_44, s58_45, s58_47, s58_50, s58_53, s58_55, s58_58, s58_61, s58_63, K_v, K_0, acI, acA, acJ, acX, List.map_cons, List.map_nil, List.sum_cons, List.sum_nil, true_and, and_true, posT, b2_0, b2_1, bft, true_or, or_true, Nat.zero_le, Nat.reduceAdd, Nat.reduceLeDiff, hI_uI, hL_uI, hR_uI, nx_uI, sl_uI, hI_uL, hL_uL, hR_uL, nx_uL, sl_uL, hI_uR, hL_uR, hR_uR, nx_uR, sl_uR, st_eq, if_true, if_false, eq_self, Nat.reduceEqDiff, Nat.reduceMul, reduceIte, kdT, ixT, w_cl, w_ti, w_s1, w_a, w_m12, w_m8, w_m3, w_m4, m1, nl, w_lt, kd_PL]
  refine Iff.trans ?_ (L.1.trans fin)
  by_cases q : rest = 0
  · have z0 : Int32.ofNat rest = 0 := by rw [q]; rfl
    rw [if_pos q]
    simp (disch := first | omega | assumption | decide | (apply bT_; decide)) only [s58_0, s58_1, s58_2, s58_3, s58_4, s58_5, s58_6, s58_7, s58_10, s58_11, s58_14, s58_16, s58_18, s58_19, s58_23, s58_24, s58_27, s58_30, s58_31, s58_33, s58_34, s58_35, s58_36, s58_37, s58_40, s58_42, s58_43, s58_44, s58_45, s58_47, s58_50, s58_53, s58_55, s58_58, s58_61, s58_63, K_v, K_0, acI, acA, acJ, acX, List.map_cons, List.map_nil, List.sum_cons, List.sum_nil, true_and, and_true, posT, b2_0, b2_1, bft, true_or, or_true, Nat.zero_le, Nat.reduceAdd, Nat.reduceLeDiff, hI_uI, hL_uI, hR_uI, nx_uI, sl_uI, hI_uL, hL_uL, hR_uL, nx_uL, sl_uL, hI_uR, hL_uR, hR_uR, nx_uR, sl_uR, st_eq, if_true, if_false, eq_self, Nat.reduceEqDiff, Nat.reduceMul, reduceIte, kdT, ixT, w_cl, w_ti, w_s1, w_a, w_m12, w_m8, w_m3, w_m4, hsh, hxor, if_pos z0]
    exact Iff.rfl
  · have z0 : ¬ (Int32.ofNat rest = 0) := fun z => q ((w_eq (b := 0) (by omega) (by omega)).mp z)
    rw [if_neg q]
    simp (disch := first | omega | assumption | decide | (apply bT_; decide)) only [s58_0, s58_1, s58_2, s58_3, s58_4, s58_5, s58_6, s58_7, s58_10, s58_11, s58_14, s58_16, s58_18, s58_19, s58_23, s58_24, s58_27, s58_30, s58_31, s58_33, s58_34, s58_35, s58_36, s58_37, s58_40, s58_42, s58_43, s58_44, s58_45, s58_47, s58_50, s58_53, s58_55, s58_58, s58_61, s58_63, K_v, K_0, acI, acA, acJ, acX, List.map_cons, List.map_nil, List.sum_cons, List.sum_nil, true_and, and_true, posT, b2_0, b2_1, bft, true_or, or_true, Nat.zero_le, Nat.reduceAdd, Nat.reduceLeDiff, hI_uI, hL_uI, hR_uI, nx_uI, sl_uI, hI_uL, hL_uL, hR_uL, nx_uL, sl_uL, hI_uR, hL_uR, hR_uR, nx_uR, sl_uR, st_eq, if_true, if_false, eq_self, Nat.reduceEqDiff, Nat.reduceMul, reduceIte, kdT, ixT, w_cl, w_ti, w_s1, w_a, w_m12, w_m8, w_m3, w_m4, hsh, hxor, if_neg z0]
    exact Iff.rfl
end CBE
