/-! the week: the best next play -/
def am_ (c : Nat → Bool) (g : Nat → Nat) : Nat → Nat × Nat
  | 0 => (0, 1000000)
  | n + 1 => if c n = true ∧ g n < (am_ c g n).2 then (n, g n) else am_ c g n
section CNX
variable {xs : Nat → Int32} {d : Nat} {h : AH} {Q : OU_ → AH → Prop} {P : PS} {l : List Nat} {b : Nat → Nat → Nat} {rest first : Nat}
theorem am_le {c : Nat → Bool} {g : Nat → Nat} : ∀ {n : Nat}, (am_ c g n).2 ≤ 1000000 := by
  intro n
  induction n with
  | zero => exact Nat.le_refl _
  | succ n ih =>
    show (if c n = true ∧ g n < (am_ c g n).2 then (n, g n) else am_ c g n).2 ≤ _
    split
    · rename_i q; have := q.2; dsimp only; omega
    · exact ih
theorem c_bestNext (hC : CS_ h) (hG : CG_ P l h) (hM : ME_ l h) (hl : l.length ≤ 8) (hf : first < l.length) (hr2 : rest < 256) (hb : ∀ x, x < l.length → rest.testBit x = true → hI_ h 27918352 (8 * rest + x) = Int32.ofNat (b rest x) ∧ b rest x ≤ 1000000) (hw : ∀ x, x < l.length → wl_ P l first x ≤ 102) (hd : 2 ≤ d) : V_ xs d 61 0 [vA (some 27000838), vI (Int32.ofNat first), vI (Int32.ofNat rest), vX 0, vX 0, vX 0] [] h Q ↔ Q (some (some (vI (Int32.ofNat (am_ rest.testBit (fun x => wl_ P l first x + b rest x) l.length).1)))) h := by
  obtain ⟨m1, m2⟩ := id hM
  have L := loop_ (P := fun i (_ : Unit) => V_ xs d 61 9 [vA (some 27000838), vI (Int32.ofNat first), vI (Int32.ofNat rest), vI (Int32.ofNat (am_ rest.testBit (fun x => wl_ P l first x + b rest x) i).1), vI (Int32.ofNat (am_ rest.testBit (fun x => wl_ P l first x + b rest x) i).2), vI (Int32.ofNat i)] [] h Q) (f := fun _ x => x) (n := l.length) (fun _ _ => True) (fun i _ hi _ => ⟨by
    have hbit := w_bit (M := rest) (m := i) (by omega) (by omega)
    have hml := am_le (c := rest.testBit) (g := fun x => wl_ P l first x + b rest x) (n := i)
    have es : am_ rest.testBit (fun x => wl_ P l first x + b rest x) (i + 1) = if rest.testBit i = true ∧ wl_ P l first i + b rest i < (am_ rest.testBit (fun x => wl_ P l first x + b rest x) i).2 then (i, wl_ P l first i + b rest i) else am_ rest.testBit (fun x => wl_ P l first x + b rest x) i := rfl
    have k1 : ¬ ((0 : Int32) = 1) := by decide
    rw [s61_9, es]
    cases hbt : rest.testBit i
    · rw [hbt] at hbit
      rw [if_neg (fun z => by cases z.1)]
      simp (disch := first | omega | assumption | decide | (apply bT_; decide)) only [s61_0, s61_1, s61_2, s61_4, s61_6, s61_7, s61_11, s61_12, s61_15, s61_18, s61_19, s61_21, s61_22, s61_23, s61_24, s61_25, s61_29, s61_30, s61_31, s61_33, s61_36, s61_38, s61_41, s61_42, s61_43, s61_44, s61_46, s61_49, s61_51, s61_53, s61_54, s61_57, s61_61, K_v, K_0, acI, acA, acJ, acX, List.map_cons, List.map_nil, List.sum_cons, List.sum_nil, true_and, and_true, posT, b2_0, b2_1, bft, true_or, or_true, Nat.zero_le, Nat.reduceAdd, Nat.reduceLeDiff, hI_uI, hL_uI, hR_uI, nx_uI, sl_uI, hI_uL, hL_uL, hR_uL, nx_uL, sl_uL, hI_uR, hL_uR, hR_uR, nx_uR, sl_uR, st_eq, if_true, if_false, eq_self, Nat.reduceEqDiff, Nat.reduceMul, reduceIte, kdT, ixT, w_cl, w_ti, w_s1, w_a, w_m12, w_m8, w_m3, w_m4, m1, hi, w_lt, hbit, k1, kd_PL, Bool.false_eq_true]
    · rw [hbt] at hbit
      obtain ⟨e1, e2⟩ := hb i hi hbt
      have e3 := hw i hi
      have hon := fun Q => c_onward (xs := xs) (d := d - 1) (Q := Q) (b := b) hC hG hl hf hi hr2 e1
      by_cases q : wl_ P l first i + b rest i < (am_ rest.testBit (fun x => wl_ P l first x + b rest x) i).2
      · rw [if_pos ⟨rfl, q⟩]
        simp (disch := first | omega | assumption | decide | (apply bT_; decide)) only [s61_0, s61_1, s61_2, s61_4, s61_6, s61_7, s61_11, s61_12, s61_15, s61_18, s61_19, s61_21, s61_22, s61_23, s61_24, s61_25, s61_28, s61_29, s61_30, s61_31, s61_33, s61_36, s61_38, s61_41, s61_42, s61_43, s61_44, s61_46, s61_49, s61_51, s61_53, s61_54, s61_57, s61_61, K_v, K_0, acI, acA, acJ, acX, List.map_cons, List.map_nil, List.sum_cons, List.sum_nil, true_and, and_true, posT, b2_0, b2_1, bft, true_or, or_true, Nat.zero_le, Nat.reduceAdd, Nat.reduceLeDiff, hI_uI, hL_uI, hR_uI, nx_uI, sl_uI, hI_uL, hL_uL, hR_uL, nx_uL, sl_uL, hI_uR, hL_uR, hR_uR, nx_uR, sl_uR, st_eq, if_true, if_false, eq_self, Nat.reduceEqDiff, Nat.reduceMul, reduceIte, kdT, ixT, w_cl, w_ti, w_s1, w_a, w_m12, w_m8, w_m3, w_m4, m1, hi, w_lt, hbit, kd_PL, hon, q, Bool.true_eq_false]
      · rw [if_neg (fun z => q z.2)]
        simp (disch := first | omega | assumption | decide | (apply bT_; decide)) only [s61_0, s61_1, s61_2, s61_4, s61_6, s61_7, s61_11, s61_12, s61_15, s61_18, s61_19, s61_21, s61_22, s61_23, s61_24, s61_25, s61_28, s61_29, s61_30, s61_31, s61_33, s61_36, s61_38, s61_42, s61_43, s61_44, s61_46, s61_49, s61_51, s61_53, s61_54, s61_57, s61_61, K_v, K_0, acI, acA, acJ, acX, List.map_cons, List.map_nil, List.sum_cons, List.sum_nil, true_and, and_true, posT, b2_0, b2_1, bft, true_or, or_true, Nat.zero_le, Nat.reduceAdd, Nat.reduceLeDiff, hI_uI, hL_uI, hR_uI, nx_uI, sl_uI, hI_uL, hL_uL, hR_uL, nx_uL, sl_uL, hI_uR, hL_uR, hR_uR, nx_uR, sl_uR, st_eq, if_true, if_false, eq_self, Nat.reduceEqDiff, Nat.reduceMul, reduceIte, kdT, ixT, w_cl, w_ti, w_s1, w_a, w_m12, w_m8, w_m3, w_m4, m1, hi, w_lt, hbit, kd_PL, hon, q, Bool.true_eq_false], trivial⟩) l.length 0 () (by omega) trivial
  have nl : ¬ (l.length < l.length) := by omega
  simp (disch := first | omega | assumption | decide | (apply bT_; decide)) only [s61_0, s61_1, s61_2, s61_4, s61_6, s61_7, s61_11, s61_12, s61_15, s61_18, s61_19, s61_21, s61_22, s61_23, s61_24, s61_25, s61_28, s61_29, s61_30, s61_31, s61_33, s61_36, s61_38, s61_41, s61_42, s61_43, s61_44, s61_46, s61_49, s61_51, s61_53, s61_54, s61_57, s61_60, s61_61, K_v, K_0, acI, acA, acJ, acX, List.map_cons, List.map_nil, List.sum_cons, List.sum_nil, true_and, and_true, posT, b2_0, b2_1, bft, true_or, or_true, Nat.zero_le, Nat.reduceAdd, Nat.reduceLeDiff, hI_uI, hL_uI, hR_uI, nx_uI, sl_uI, hI_uL, hL_uL, hR_uL, nx_uL, sl_uL, hI_uR, hL_uR, hR_uR, nx_uR, sl_uR, st_eq, if_true, if_false, eq_self, Nat.reduceEqDiff, Nat.reduceMul, reduceIte, kdT, ixT, w_cl, w_ti, w_s1, w_a, w_m12, w_m8, w_m3, w_m4]
  refine (show V_ xs d 61 9 [vA (some 27000838), vI (Int32.ofNat first), vI (Int32.ofNat rest), vI (Int32.ofNat 0), vI (Int32.ofNat 1000000), vI (Int32.ofNat 0)] [] h Q ↔ _ from L.1).trans ?_
  rw [s61_9]
  simp (disch := first | omega | assumption | decide | (apply bT_; decide)) only [s61_0, s61_1, s61_2, s61_4, s61_6, s61_7, s61_11, s61_12, s61_15, s61_19, s61_21, s61_22, s61_23, s61_24, s61_25, s61_28, s61_29, s61_30, s61_31, s61_33, s61_36, s61_38, s61_41, s61_42, s61_43, s61_44, s61_46, s61_49, s61_51, s61_53, s61_54, s61_57, s61_60, s61_61, K_v, K_0, acI, acA, acJ, acX, List.map_cons, List.map_nil, List.sum_cons, List.sum_nil, true_and, and_true, posT, b2_0, b2_1, bft, true_or, or_true, Nat.zero_le, Nat.reduceAdd, Nat.reduceLeDiff, hI_uI, hL_uI, hR_uI, nx_uI, sl_uI, hI_uL, hL_uL, hR_uL, nx_uL, sl_uL, hI_uR, hL_uR, hR_uR, nx_uR, sl_uR, st_eq, if_true, if_false, eq_self, Nat.reduceEqDiff, Nat.reduceMul, reduceIte, kdT, ixT, w_cl, w_ti, w_s1, w_a, w_m12, w_m8, w_m3, w_m4, m1, nl, w_lt, kd_PL]
end CNX
