/-! Arrays.fill; the class: held; the tape -/
section CLE
variable {xs : Nat → Int32} {d : Nat} {h : AH} {Q : OU_ → AH → Prop} {nf : Nat} {L : Nat → Nat → Int32}
theorem fil_it {α : Type} (v : α) (r : Nat → α) : ∀ (k i j : Nat), it_ (fun k r => st_ r k v) k i r j = if i ≤ j ∧ j < i + k then v else r j := by
  intro k
  induction k generalizing r with
  | zero => intro i j; rw [if_neg (by omega)]; rfl
  | succ k ih =>
    intro i j
    show it_ _ k (i + 1) (st_ r i v) j = _
    rw [ih, st_eq]
    by_cases c : i + 1 ≤ j ∧ j < i + 1 + k
    · rw [if_pos c, if_pos (by omega)]
    · rw [if_neg c]
      by_cases c2 : j = i
      · rw [if_pos c2, if_pos (by omega)]
      · rw [if_neg c2, if_neg (by omega)]
theorem c_fillI {a : Nat} {v : Int32} (hk : kd_ a = 16) (hl : ln_ a ≤ 4095) : V_ xs d 198 0 [vA (some a), vI v, vX 0, vX 0] [] h Q ↔ Q (some none) (uI_ h a (fun j => if j < ln_ a then v else hI_ h a j)) := by
  have hk9 : 16 ≤ kd_ a ∧ kd_ a ≤ 22 ∨ 34 ≤ kd_ a ∧ kd_ a ≤ 36 := by omega
  have L9 := loop_ (P := fun k r => V_ xs d 198 5 [vA (some a), vI v, vI (Int32.ofNat k), vI (Int32.ofNat (ln_ a))] [] (uI_ h a r) Q) (f := fun k r => st_ r k v) (n := ln_ a) (fun _ _ => True) (fun k r hk1 _ => ⟨by
    rw [s198_5]
    simp (disch := first | omega | assumption | decide | (apply bT_; decide)) only [s198_0, s198_1, s198_2, s198_3, s198_4, s198_6, s198_7, s198_10, s198_11, s198_12, s198_13, s198_14, s198_17, s198_20, K_v, K_0, acI, acA, acJ, acX, List.map_cons, List.map_nil, List.sum_cons, List.sum_nil, true_and, and_true, posT, b2_0, b2_1, bft, true_or, or_true, Nat.zero_le, Nat.reduceAdd, Nat.reduceLeDiff, hI_uI, hL_uI, hR_uI, nx_uI, sl_uI, hI_uL, hL_uL, hR_uL, nx_uL, sl_uL, hI_uR, hL_uR, hR_uR, nx_uR, sl_uR, st_eq, if_true, if_false, eq_self, Nat.reduceEqDiff, Nat.reduceMul, reduceIte, kdT, ixT, w_cl, w_ti, w_s1, w_a, w_m12, w_m8, w_m3, w_m4, w_lt, uI_uI]
    rw [if_pos hk1], trivial⟩) (ln_ a) 0 (hI_ h a) (by omega) trivial
  have L1 := L9.1
  rw [uI_self] at L1
  simp (disch := first | omega | assumption | decide | (apply bT_; decide)) only [s198_0, s198_1, s198_2, s198_3, s198_4, s198_6, s198_7, s198_10, s198_11, s198_12, s198_13, s198_14, s198_17, s198_20, K_v, K_0, acI, acA, acJ, acX, List.map_cons, List.map_nil, List.sum_cons, List.sum_nil, true_and, and_true, posT, b2_0, b2_1, bft, true_or, or_true, Nat.zero_le, Nat.reduceAdd, Nat.reduceLeDiff, hI_uI, hL_uI, hR_uI, nx_uI, sl_uI, hI_uL, hL_uL, hR_uL, nx_uL, sl_uL, hI_uR, hL_uR, hR_uR, nx_uR, sl_uR, st_eq, if_true, if_false, eq_self, Nat.reduceEqDiff, Nat.reduceMul, reduceIte, kdT, ixT, w_cl, w_ti, w_s1, w_a, w_m12, w_m8, w_m3, w_m4]
  refine (show V_ xs d 198 5 [vA (some a), vI v, vI (Int32.ofNat 0), vI (Int32.ofNat (ln_ a))] [] h Q ↔ _ from L1).trans ?_
  rw [s198_5]
  simp (disch := first | omega | assumption | decide | (apply bT_; decide)) only [s198_0, s198_1, s198_2, s198_3, s198_4, s198_6, s198_7, s198_10, s198_11, s198_12, s198_13, s198_14, s198_17, s198_20, K_v, K_0, acI, acA, acJ, acX, List.map_cons, List.map_nil, List.sum_cons, List.sum_nil, true_and, and_true, posT, b2_0, b2_1, bft, true_or, or_true, Nat.zero_le, Nat.reduceAdd, Nat.reduceLeDiff, hI_uI, hL_uI, hR_uI, nx_uI, sl_uI, hI_uL, hL_uL, hR_uL, nx_uL, sl_uL, hI_uR, hL_uR, hR_uR, nx_uR, sl_uR, st_eq, if_true, if_false, eq_self, Nat.reduceEqDiff, Nat.reduceMul, reduceIte, kdT, ixT, w_cl, w_ti, w_s1, w_a, w_m12, w_m8, w_m3, w_m4, w_lt]
  rw [if_neg (by omega)]
  have : it_ (fun k r => st_ r k v) (ln_ a) 0 (hI_ h a) = fun j => if j < ln_ a then v else hI_ h a j := by
    funext j
    rw [fil_it]
    by_cases q : j < ln_ a
    · rw [if_pos (by omega), if_pos q]
    · rw [if_neg (by omega), if_neg q]
  rw [this]
theorem c_fillL {a : Nat} {v : Int64} (hk : kd_ a = 19) (hl : ln_ a ≤ 4095) : V_ xs d 197 0 [vA (some a), vJ v, vX 0, vX 0, vX 0] [] h Q ↔ Q (some none) (uL_ h a (fun j => if j < ln_ a then v else hL_ h a j)) := by
  have hk9 : 16 ≤ kd_ a ∧ kd_ a ≤ 22 ∨ 34 ≤ kd_ a ∧ kd_ a ≤ 36 := by omega
  have L9 := loop_ (P := fun k r => V_ xs d 197 6 [vA (some a), vJ v, vX 0, vI (Int32.ofNat k), vI (Int32.ofNat (ln_ a))] [] (uL_ h a r) Q) (f := fun k r => st_ r k v) (n := ln_ a) (fun _ _ => True) (fun k r hk1 _ => ⟨by
    rw [s197_6]
    simp (disch := first | omega | assumption | decide | (apply bT_; decide)) only [s197_0, s197_1, s197_2, s197_3, s197_4, s197_7, s197_9, s197_12, s197_13, s197_14, s197_15, s197_16, s197_19, s197_22, K_v, K_0, acI, acA, acJ, acX, List.map_cons, List.map_nil, List.sum_cons, List.sum_nil, true_and, and_true, posT, b2_0, b2_1, bft, true_or, or_true, Nat.zero_le, Nat.reduceAdd, Nat.reduceLeDiff, hI_uI, hL_uI, hR_uI, nx_uI, sl_uI, hI_uL, hL_uL, hR_uL, nx_uL, sl_uL, hI_uR, hL_uR, hR_uR, nx_uR, sl_uR, st_eq, if_true, if_false, eq_self, Nat.reduceEqDiff, Nat.reduceMul, reduceIte, kdT, ixT, w_cl, w_ti, w_s1, w_a, w_m12, w_m8, w_m3, w_m4, w_lt, uL_uL]
    rw [if_pos hk1], trivial⟩) (ln_ a) 0 (hL_ h a) (by omega) trivial
  have L1 := L9.1
  rw [uL_self] at L1
  simp (disch := first | omega | assumption | decide | (apply bT_; decide)) only [s197_0, s197_1, s197_2, s197_3, s197_4, s197_7, s197_9, s197_12, s197_13, s197_14, s197_15, s197_16, s197_19, s197_22, K_v, K_0, acI, acA, acJ, acX, List.map_cons, List.map_nil, List.sum_cons, List.sum_nil, true_and, and_true, posT, b2_0, b2_1, bft, true_or, or_true, Nat.zero_le, Nat.reduceAdd, Nat.reduceLeDiff, hI_uI, hL_uI, hR_uI, nx_uI, sl_uI, hI_uL, hL_uL, hR_uL, nx_uL, sl_uL, hI_uR, hL_uR, hR_uR, nx_uR, sl_uR, st_eq, if_true, if_false, eq_self, Nat.reduceEqDiff, Nat.reduceMul, reduceIte, kdT, ixT, w_cl, w_ti, w_s1, w_a, w_m12, w_m8, w_m3, w_m4]
  refine (show V_ xs d 197 6 [vA (some a), vJ v, vX 0, vI (Int32.ofNat 0), vI (Int32.ofNat (ln_ a))] [] h Q ↔ _ from L1).trans ?_
  rw [s197_6]
  simp (disch := first | omega | assumption | decide | (apply bT_; decide)) only [s197_0, s197_1, s197_2, s197_3, s197_4, s197_7, s197_9, s197_12, s197_13, s197_14, s197_15, s197_16, s197_19, s197_22, K_v, K_0, acI, acA, acJ, acX, List.map_cons, List.map_nil, List.sum_cons, List.sum_nil, true_and, and_true, posT, b2_0, b2_1, bft, true_or, or_true, Nat.zero_le, Nat.reduceAdd, Nat.reduceLeDiff, hI_uI, hL_uI, hR_uI, nx_uI, sl_uI, hI_uL, hL_uL, hR_uL, nx_uL, sl_uL, hI_uR, hL_uR, hR_uR, nx_uR, sl_uR, st_eq, if_true, if_false, eq_self, Nat.reduceEqDiff, Nat.reduceMul, reduceIte, kdT, ixT, w_cl, w_ti, w_s1, w_a, w_m12, w_m8, w_m3, w_m4, w_lt]
  rw [if_neg (by omega)]
  have : it_ (fun k r => st_ r k v) (ln_ a) 0 (hL_ h a) = fun j => if j < ln_ a then v else hL_ h a j := by
    funext j
    rw [fil_it]
    by_cases q : j < ln_ a
    · rw [if_pos (by omega), if_pos q]
    · rw [if_neg (by omega), if_neg q]
  rw [this]
/-- the row of the latest facts, one fact more -/
def lst_ (L : Nat → Nat → Int32) (da : Int32) (i : Nat) (r : Nat → Option Nat) : Nat → Option Nat := fun j => fst_ L (Int32.ofNat j) da i (r j)
theorem lst_it {da : Int32} : ∀ (k i : Nat) (r : Nat → Option Nat) (j : Nat), it_ (lst_ L da) k i r j = it_ (fst_ L (Int32.ofNat j) da) k i (r j) := by
  intro k
  induction k with
  | zero => intro i r j; rfl
  | succ k ih => intro i r j; exact ih (i + 1) _ j
theorem hof_lt {it da : Int32} : ∀ (k i : Nat) (o : Option Nat), (∀ j, o = some j → j < i) → ∀ j, it_ (fst_ L it da) k i o = some j → j < i + k := by
  intro k
  induction k with
  | zero => intro i o h j hj; exact h j hj
  | succ k ih =>
    intro i o h j hj
    have := ih (i + 1) (fst_ L it da i o) (fun j hj => ?_) j hj
    · omega
    · unfold fst_ at hj
      split at hj
      · have := h j hj; omega
      · cases o with
        | none => cases hj; omega
        | some j0 =>
          have := h j0 rfl
          dsimp only at hj
          split at hj
          · cases hj; omega
          · cases hj; omega
theorem oi_n : oi_ none = -1 := rfl
theorem oi_s {j : Nat} : oi_ (some j) = Int32.ofNat j := rfl
theorem c_itemsWith {ho da : Int32} (hC : CS_ h) (hL : CL_ nf L h) (hd : 1 ≤ d) : ∃ r, Do_ xs d 29 [vA (some 28311555), vI ho, vI da, vX 0, vX 0] h (some (some (vI (Int32.ofNat (hld_ nf L ho da))))) (uI_ h 29361424 r) := by
  obtain ⟨e1, e2, e0, e3⟩ := id hL
  -- the first pass
  have L9 := fun Q => loop_ (P := fun k (x : (Nat → Option Nat) × AV) => V_ xs d 29 10 [vA (some 28311555), vI ho, vI da, vI (Int32.ofNat k), x.2] [] (uI_ h 29361424 (fun j => if j < 20 then oi_ (x.1 j) else hI_ h 29361424 j)) Q) (f := fun k x => (lst_ L da k x.1, vI (oi_ (x.1 (L k 0).toNatClampNeg)))) (n := nf) (fun k x => ∀ j i, x.1 j = some i → i < k) (fun k x hk hi => by
    obtain ⟨r, v⟩ := x
    obtain ⟨g1, g2, g3⟩ := e3 k hk
    have gw := wi_t.mp (e0 k hk).1
    have z0 : (0 : Int32).toInt = 0 := rfl
    have z19 : (19 : Int32).toInt = 19 := rfl
    obtain ⟨m, hm, hm1, hm2⟩ := w_of (x := L k 0) (by omega)
    have hm20 : m < 20 := by omega
    have g1' : hI_ h 28586512 k = Int32.ofNat m := g1.trans hm
    have hcl : (L k 0).toNatClampNeg = m := by rw [hm, w_cl hm2]
    have hrow : ∀ (r1 r2 : Nat → Option Nat), (∀ j, j < 20 → r1 j = r2 j) → (fun j => if j < 20 then oi_ (r1 j) else hI_ h 29361424 j) = (fun j => if j < 20 then oi_ (r2 j) else hI_ h 29361424 j) := by
      intro r1 r2 hr
      funext j
      by_cases q : j < 20
      · rw [if_pos q, if_pos q, hr j q]
      · rw [if_neg q, if_neg q]
    have hoth : ∀ j, j < 20 → j ≠ m → lst_ L da k r j = r j := by
      intro j hj hjm
      unfold lst_ fst_
      rw [if_pos (Or.inl (by rw [hm, w_eq hm2 (by omega)]; omega))]
    have hst : ∀ v : Option Nat, st_ (fun j => if j < 20 then oi_ (r j) else hI_ h 29361424 j) m (oi_ v) = fun j => if j < 20 then oi_ (if j = m then v else r j) else hI_ h 29361424 j := by
      intro v
      funext j
      rw [st_eq]
      by_cases q : j = m
      · rw [if_pos q, if_pos (by omega), if_pos q]
      · rw [if_neg q, if_neg q]
    have hnew : (fun j => if j < 20 then oi_ (lst_ L da k r j) else hI_ h 29361424 j) = fun j => if j < 20 then oi_ (if j = m then fst_ L (Int32.ofNat m) da k (r m) else r j) else hI_ h 29361424 j := by
      apply hrow
      intro j hj
      by_cases q : j = m
      · rw [if_pos q, q]; rfl
      · rw [if_neg q]; exact hoth j hj q
    have hkeep : (fun j => if j < 20 then oi_ (if j = m then r m else r j) else hI_ h 29361424 j) = fun j => if j < 20 then oi_ (r j) else hI_ h 29361424 j := by
      apply hrow
      intro j hj
      by_cases q : j = m
      · rw [if_pos q, q]
      · rw [if_neg q]
    constructor
    · dsimp only
      rw [s29_10, hnew, hcl]
      have hi2 := hi m
      cases hrm : r m with
      | none =>
        have hst' := hst (some k)
        simp (disch := first | omega | assumption | decide | (apply bT_; decide)) only [s29_0, s29_1, s29_4, s29_5, s29_8, s29_9, s29_11, s29_12, s29_15, s29_18, s29_19, s29_22, s29_23, s29_26, s29_27, s29_28, s29_29, s29_31, s29_32, s29_35, s29_36, s29_37, s29_38, s29_41, s29_43, s29_44, s29_47, s29_48, s29_51, s29_52, s29_53, s29_54, s29_57, s29_59, s29_60, s29_63, s29_64, s29_67, s29_68, s29_71, s29_72, s29_73, s29_74, s29_75, s29_78, s29_82, s29_83, s29_84, s29_86, s29_88, s29_90, s29_93, s29_94, s29_97, s29_99, s29_100, s29_101, s29_104, s29_105, s29_108, s29_109, s29_112, s29_114, s29_115, s29_116, s29_117, s29_120, s29_123, s29_126, s29_129, s29_130, K_v, K_0, acI, acA, acJ, acX, List.map_cons, List.map_nil, List.sum_cons, List.sum_nil, true_and, and_true, posT, b2_0, b2_1, bft, true_or, or_true, Nat.zero_le, Nat.reduceAdd, Nat.reduceLeDiff, hI_uI, hL_uI, hR_uI, nx_uI, sl_uI, hI_uL, hL_uL, hR_uL, nx_uL, sl_uL, hI_uR, hL_uR, hR_uR, nx_uR, sl_uR, st_eq, if_true, if_false, eq_self, Nat.reduceEqDiff, Nat.reduceMul, reduceIte, kdT, ixT, w_cl, w_ti, w_s1, w_a, w_m12, w_m8, w_m3, w_m4, hC.x0, hC.x2, hC.x4, hC.x7, hC.x8, hC.x9, hC.x11, hC.f0, hC.f1, hC.f2, hC.p0, hC.p1, hC.p2, hC.p3, hC.l1, hC.l2, hC.l3, hC.l4, hC.d0, hC.d1, hC.d2, hC.g1, hC.g2, hC.g3, hC.g4, hC.k1, hC.k2, hC.k3, hC.k4, e1, g1', g2, hm20, hrm, oi_n, oi_s, w_lt, uI_uI, kd_LI, ln_LI, kd_LD, ln_LD, kd_LL, ln_LL]
        rw [if_pos hk]
        unfold fst_
        by_cases q2 : da < L k 1
        · rw [if_pos q2, if_pos (Or.inr q2), ← hrm, hkeep]
        · have q12 : ¬ (¬ L k 0 = Int32.ofNat m ∨ da < L k 1) := fun z => z.elim (fun y => y hm) q2
          rw [if_neg q2, if_neg q12]
          rw [oi_s] at hst'
          rw [hst']
      | some j0 =>
        have hj0 := hi m j0 hrm
        obtain ⟨g4, g5, g6⟩ := e3 j0 (by omega)
        have hm1' := oi_m1 (show j0 < 2147483648 by omega)
        have hst' := hst (some k)
        simp (disch := first | omega | assumption | decide | (apply bT_; decide)) only [s29_0, s29_1, s29_4, s29_5, s29_8, s29_9, s29_11, s29_12, s29_15, s29_18, s29_19, s29_22, s29_23, s29_26, s29_27, s29_28, s29_29, s29_31, s29_32, s29_35, s29_36, s29_37, s29_38, s29_41, s29_43, s29_44, s29_47, s29_48, s29_51, s29_52, s29_53, s29_54, s29_57, s29_59, s29_60, s29_63, s29_64, s29_67, s29_68, s29_71, s29_72, s29_73, s29_74, s29_75, s29_78, s29_82, s29_83, s29_84, s29_86, s29_88, s29_90, s29_93, s29_94, s29_97, s29_99, s29_100, s29_101, s29_104, s29_105, s29_108, s29_109, s29_112, s29_114, s29_115, s29_116, s29_117, s29_120, s29_123, s29_126, s29_129, s29_130, K_v, K_0, acI, acA, acJ, acX, List.map_cons, List.map_nil, List.sum_cons, List.sum_nil, true_and, and_true, posT, b2_0, b2_1, bft, true_or, or_true, Nat.zero_le, Nat.reduceAdd, Nat.reduceLeDiff, hI_uI, hL_uI, hR_uI, nx_uI, sl_uI, hI_uL, hL_uL, hR_uL, nx_uL, sl_uL, hI_uR, hL_uR, hR_uR, nx_uR, sl_uR, st_eq, if_true, if_false, eq_self, Nat.reduceEqDiff, Nat.reduceMul, reduceIte, kdT, ixT, w_cl, w_ti, w_s1, w_a, w_m12, w_m8, w_m3, w_m4, hC.x0, hC.x2, hC.x4, hC.x7, hC.x8, hC.x9, hC.x11, hC.f0, hC.f1, hC.f2, hC.p0, hC.p1, hC.p2, hC.p3, hC.l1, hC.l2, hC.l3, hC.l4, hC.d0, hC.d1, hC.d2, hC.g1, hC.g2, hC.g3, hC.g4, hC.k1, hC.k2, hC.k3, hC.k4, e1, g1', g2, g5, hm20, hrm, hm1', oi_n, oi_s, w_lt, uI_uI, kd_LI, ln_LI, kd_LD, ln_LD, kd_LL, ln_LL]
        rw [if_pos hk]
        unfold fst_
        by_cases q2 : da < L k 1
        · rw [if_pos q2, if_pos (Or.inr q2), ← hrm, hkeep]
        · have q12 : ¬ (¬ L k 0 = Int32.ofNat m ∨ da < L k 1) := fun z => z.elim (fun y => y hm) q2
          rw [if_neg q2]
          by_cases q3 : L k 1 < L j0 1
          · simp only [if_pos q3, if_neg q12]
            rw [← hrm, hkeep]
          · simp only [if_neg q3, if_neg q12]
            rw [oi_s] at hst'
            rw [hst']
    · intro j i hji
      have hji' : fst_ L (Int32.ofNat j) da k (r j) = some i := hji
      have := hof_lt (L := L) (it := Int32.ofNat j) (da := da) 1 k (r j) (fun i hi9 => hi j i hi9) i hji'
      omega) nf 0 (fun _ => none, vX 0) (by omega) (fun j i hji => by cases hji)
  have hfin : ∀ (k i : Nat) (r : Nat → Option Nat) (v : AV), (it_ (fun k (x : (Nat → Option Nat) × AV) => (lst_ L da k x.1, vI (oi_ (x.1 (L k 0).toNatClampNeg)))) k i (r, v)).1 = it_ (lst_ L da) k i r := by
    intro k
    induction k with
    | zero => intro i r v; rfl
    | succ k ih => intro i r v; exact ih (i + 1) _ _
  obtain ⟨v9, hv9⟩ : ∃ v9, v9 = (it_ (fun k (x : (Nat → Option Nat) × AV) => (lst_ L da k x.1, vI (oi_ (x.1 (L k 0).toNatClampNeg)))) nf 0 (fun _ => none, vX 0)).2 := ⟨_, rfl⟩
  have hR : ∀ j, (it_ (fun k (x : (Nat → Option Nat) × AV) => (lst_ L da k x.1, vI (oi_ (x.1 (L k 0).toNatClampNeg)))) nf 0 (fun _ => none, vX 0)).1 j = hof_ L (Int32.ofNat j) da nf := by
    intro j
    rw [hfin, lst_it]
    rfl
  refine ⟨fun j => if j < 20 then oi_ (hof_ L (Int32.ofNat j) da nf) else hI_ h 29361424 j, fun Q => ?_⟩
  have L1 := (L9 Q).1
  dsimp only at L1
  simp only [hR, ← hv9] at L1
  -- the second
  have L8 := loop_ (P := fun k n => V_ xs d 29 86 [vA (some 28311555), vI ho, vI da, vI (Int32.ofNat n), vI (Int32.ofNat k)] [] (uI_ h 29361424 (fun j => if j < 20 then oi_ (hof_ L (Int32.ofNat j) da nf) else hI_ h 29361424 j)) Q) (f := ctb_ (fun i => match hof_ L (Int32.ofNat i) da nf with | none => false | some j => decide (L j 2 = ho))) (n := 20) (fun _ _ => True) (fun k n hk _ => ⟨by
    rw [s29_86]
    cases hf : hof_ L (Int32.ofNat k) da nf with
    | none =>
      simp (disch := first | omega | assumption | decide | (apply bT_; decide)) only [s29_0, s29_1, s29_4, s29_5, s29_8, s29_9, s29_10, s29_11, s29_12, s29_15, s29_18, s29_19, s29_22, s29_23, s29_26, s29_27, s29_28, s29_29, s29_31, s29_32, s29_35, s29_36, s29_37, s29_38, s29_41, s29_43, s29_44, s29_47, s29_48, s29_51, s29_52, s29_53, s29_54, s29_57, s29_59, s29_60, s29_63, s29_64, s29_67, s29_68, s29_71, s29_72, s29_73, s29_74, s29_75, s29_78, s29_81, s29_82, s29_83, s29_84, s29_88, s29_90, s29_93, s29_94, s29_97, s29_99, s29_100, s29_101, s29_104, s29_105, s29_108, s29_109, s29_112, s29_114, s29_115, s29_116, s29_117, s29_120, s29_123, s29_126, s29_129, s29_130, K_v, K_0, acI, acA, acJ, acX, List.map_cons, List.map_nil, List.sum_cons, List.sum_nil, true_and, and_true, posT, b2_0, b2_1, bft, true_or, or_true, Nat.zero_le, Nat.reduceAdd, Nat.reduceLeDiff, hI_uI, hL_uI, hR_uI, nx_uI, sl_uI, hI_uL, hL_uL, hR_uL, nx_uL, sl_uL, hI_uR, hL_uR, hR_uR, nx_uR, sl_uR, st_eq, if_true, if_false, eq_self, Nat.reduceEqDiff, Nat.reduceMul, reduceIte, kdT, ixT, w_cl, w_ti, w_s1, w_a, w_m12, w_m8, w_m3, w_m4, hC.x0, hC.x2, hC.x4, hC.x7, hC.x8, hC.x9, hC.x11, hC.f0, hC.f1, hC.f2, hC.p0, hC.p1, hC.p2, hC.p3, hC.l1, hC.l2, hC.l3, hC.l4, hC.d0, hC.d1, hC.d2, hC.g1, hC.g2, hC.g3, hC.g4, hC.k1, hC.k2, hC.k3, hC.k4, hf, hk, oi_n, oi_s, w20, ctb_, kd_LL, ln_LL, Bool.false_eq_true]
    | some j0 =>
      have hj0 : j0 < 0 + nf := hof_lt nf 0 none (fun j hj => by cases hj) j0 hf
      obtain ⟨g4, g5, g6⟩ := e3 j0 (by omega)
      have hm1' := oi_m1 (show j0 < 2147483648 by omega)
      simp (disch := first | omega | assumption | decide | (apply bT_; decide)) only [s29_0, s29_1, s29_4, s29_5, s29_8, s29_9, s29_10, s29_11, s29_12, s29_15, s29_18, s29_19, s29_22, s29_23, s29_26, s29_27, s29_28, s29_29, s29_31, s29_32, s29_35, s29_36, s29_37, s29_38, s29_41, s29_43, s29_44, s29_47, s29_48, s29_51, s29_52, s29_53, s29_54, s29_57, s29_59, s29_60, s29_63, s29_64, s29_67, s29_68, s29_71, s29_72, s29_73, s29_74, s29_75, s29_78, s29_81, s29_82, s29_83, s29_84, s29_88, s29_90, s29_93, s29_94, s29_97, s29_99, s29_100, s29_101, s29_104, s29_105, s29_108, s29_109, s29_112, s29_114, s29_115, s29_116, s29_117, s29_120, s29_123, s29_126, s29_129, s29_130, K_v, K_0, acI, acA, acJ, acX, List.map_cons, List.map_nil, List.sum_cons, List.sum_nil, true_and, and_true, posT, b2_0, b2_1, bft, true_or, or_true, Nat.zero_le, Nat.reduceAdd, Nat.reduceLeDiff, hI_uI, hL_uI, hR_uI, nx_uI, sl_uI, hI_uL, hL_uL, hR_uL, nx_uL, sl_uL, hI_uR, hL_uR, hR_uR, nx_uR, sl_uR, st_eq, if_true, if_false, eq_self, Nat.reduceEqDiff, Nat.reduceMul, reduceIte, kdT, ixT, w_cl, w_ti, w_s1, w_a, w_m12, w_m8, w_m3, w_m4, hC.x0, hC.x2, hC.x4, hC.x7, hC.x8, hC.x9, hC.x11, hC.f0, hC.f1, hC.f2, hC.p0, hC.p1, hC.p2, hC.p3, hC.l1, hC.l2, hC.l3, hC.l4, hC.d0, hC.d1, hC.d2, hC.g1, hC.g2, hC.g3, hC.g4, hC.k1, hC.k2, hC.k3, hC.k4, hf, hk, oi_n, oi_s, hm1', g6, w20, ctb_, kd_LL, ln_LL, kd_LH, ln_LH, decide_eq_true_iff]
      by_cases q : L j0 2 = ho
      · rw [if_pos q, if_pos q]
      · rw [if_neg q, if_neg q], trivial⟩) 20 0 0 rfl trivial
  have hcnt : it_ (ctb_ (fun i => match hof_ L (Int32.ofNat i) da nf with | none => false | some j => decide (L j 2 = ho))) 20 0 0 = hld_ nf L ho da := by
    unfold hld_
    by_cases q : wi_ ho (-2) 11 = true
    · rw [if_pos q]
      apply it_congr
      intro j y _ _
      unfold ctb_ hol_
      cases hf : hof_ L (Int32.ofNat j) da nf with
      | none =>
        have : ¬ ((-3 : Int32) = ho) := fun e => by rw [← e] at q; exact absurd q (by decide)
        simp only [hf, decide_eq_false this]
      | some j0 => simp only [hf]
    · rw [if_neg q]
      have : ∀ (k i n : Nat), it_ (ctb_ (fun i => match hof_ L (Int32.ofNat i) da nf with | none => false | some j => decide (L j 2 = ho))) k i n = n := by
        intro k
        induction k with
        | zero => intro i n; rfl
        | succ k ih =>
          intro i n
          show it_ _ k (i + 1) _ = n
          rw [ih]
          unfold ctb_
          cases hf : hof_ L (Int32.ofNat i) da nf with
          | none => simp only [hf, Bool.false_eq_true, if_false]
          | some j0 =>
            have hj0 : j0 < 0 + nf := hof_lt nf 0 none (fun j hj => by cases hj) j0 hf
            have hw := (e0 j0 (by omega)).2
            simp only [hf]
            rw [if_neg]
            rw [decide_eq_true_iff]
            intro e
            rw [e] at hw
            exact q hw
      exact this 20 0 0
  have hfl := fun Q => c_fillI (xs := xs) (d := d - 1) (h := h) (Q := Q) (a := 29361424) (v := -1) rfl (by decide)
  rw [show ln_ 29361424 = 20 from rfl] at hfl
  simp (disch := first | omega | assumption | decide | (apply bT_; decide)) only [s29_0, s29_1, s29_4, s29_5, s29_8, s29_9, s29_11, s29_12, s29_15, s29_18, s29_19, s29_22, s29_23, s29_26, s29_27, s29_28, s29_29, s29_31, s29_32, s29_35, s29_36, s29_37, s29_38, s29_41, s29_43, s29_44, s29_47, s29_48, s29_51, s29_52, s29_53, s29_54, s29_57, s29_59, s29_60, s29_63, s29_64, s29_67, s29_68, s29_71, s29_72, s29_73, s29_74, s29_75, s29_78, s29_81, s29_82, s29_83, s29_84, s29_86, s29_88, s29_90, s29_93, s29_94, s29_97, s29_99, s29_100, s29_101, s29_104, s29_105, s29_108, s29_109, s29_112, s29_114, s29_115, s29_116, s29_117, s29_120, s29_123, s29_126, s29_129, s29_130, K_v, K_0, acI, acA, acJ, acX, List.map_cons, List.map_nil, List.sum_cons, List.sum_nil, true_and, and_true, posT, b2_0, b2_1, bft, true_or, or_true, Nat.zero_le, Nat.reduceAdd, Nat.reduceLeDiff, hI_uI, hL_uI, hR_uI, nx_uI, sl_uI, hI_uL, hL_uL, hR_uL, nx_uL, sl_uL, hI_uR, hL_uR, hR_uR, nx_uR, sl_uR, st_eq, if_true, if_false, eq_self, Nat.reduceEqDiff, Nat.reduceMul, reduceIte, kdT, ixT, w_cl, w_ti, w_s1, w_a, w_m12, w_m8, w_m3, w_m4, hC.x0, hC.x2, hC.x4, hC.x7, hC.x8, hC.x9, hC.x11, hC.f0, hC.f1, hC.f2, hC.p0, hC.p1, hC.p2, hC.p3, hC.l1, hC.l2, hC.l3, hC.l4, hC.d0, hC.d1, hC.d2, hC.g1, hC.g2, hC.g3, hC.g4, hC.k1, hC.k2, hC.k3, hC.k4, hfl]
  refine (show V_ xs d 29 10 [vA (some 28311555), vI ho, vI da, vI (Int32.ofNat 0), vX 0] [] _ Q ↔ _ from L1).trans ?_
  rw [s29_10]
  simp (disch := first | omega | assumption | decide | (apply bT_; decide)) only [s29_0, s29_1, s29_4, s29_5, s29_8, s29_9, s29_11, s29_12, s29_15, s29_18, s29_19, s29_22, s29_23, s29_26, s29_27, s29_28, s29_29, s29_31, s29_32, s29_35, s29_36, s29_37, s29_38, s29_41, s29_43, s29_44, s29_47, s29_48, s29_51, s29_52, s29_53, s29_54, s29_57, s29_59, s29_60, s29_63, s29_64, s29_67, s29_68, s29_71, s29_72, s29_73, s29_74, s29_75, s29_78, s29_81, s29_82, s29_83, s29_84, s29_88, s29_90, s29_93, s29_94, s29_97, s29_99, s29_100, s29_101, s29_104, s29_105, s29_108, s29_109, s29_112, s29_114, s29_115, s29_116, s29_117, s29_120, s29_123, s29_126, s29_129, s29_130, K_v, K_0, acI, acA, acJ, acX, List.map_cons, List.map_nil, List.sum_cons, List.sum_nil, true_and, and_true, posT, b2_0, b2_1, bft, true_or, or_true, Nat.zero_le, Nat.reduceAdd, Nat.reduceLeDiff, hI_uI, hL_uI, hR_uI, nx_uI, sl_uI, hI_uL, hL_uL, hR_uL, nx_uL, sl_uL, hI_uR, hL_uR, hR_uR, nx_uR, sl_uR, st_eq, if_true, if_false, eq_self, Nat.reduceEqDiff, Nat.reduceMul, reduceIte, kdT, ixT, w_cl, w_ti, w_s1, w_a, w_m12, w_m8, w_m3, w_m4, e1, w_lt]
  rw [if_neg (by omega)]
  refine (show V_ xs d 29 86 [vA (some 28311555), vI ho, vI da, vI (Int32.ofNat 0), vI (Int32.ofNat 0)] [] _ Q ↔ _ from L8.1).trans ?_
  rw [s29_86, hcnt]
  simp (disch := first | omega | assumption | decide | (apply bT_; decide)) only [s29_0, s29_1, s29_4, s29_5, s29_8, s29_9, s29_10, s29_11, s29_12, s29_15, s29_18, s29_19, s29_22, s29_23, s29_26, s29_27, s29_28, s29_29, s29_31, s29_32, s29_35, s29_36, s29_37, s29_38, s29_41, s29_43, s29_44, s29_47, s29_48, s29_51, s29_52, s29_53, s29_54, s29_57, s29_59, s29_60, s29_63, s29_64, s29_67, s29_68, s29_71, s29_72, s29_73, s29_74, s29_75, s29_78, s29_81, s29_82, s29_83, s29_84, s29_88, s29_90, s29_93, s29_94, s29_97, s29_99, s29_100, s29_101, s29_104, s29_105, s29_108, s29_109, s29_112, s29_114, s29_115, s29_116, s29_117, s29_120, s29_123, s29_126, s29_129, s29_130, K_v, K_0, acI, acA, acJ, acX, List.map_cons, List.map_nil, List.sum_cons, List.sum_nil, true_and, and_true, posT, b2_0, b2_1, bft, true_or, or_true, Nat.zero_le, Nat.reduceAdd, Nat.reduceLeDiff, hI_uI, hL_uI, hR_uI, nx_uI, sl_uI, hI_uL, hL_uL, hR_uL, nx_uL, sl_uL, hI_uR, hL_uR, hR_uR, nx_uR, sl_uR, st_eq, if_true, if_false, eq_self, Nat.reduceEqDiff, Nat.reduceMul, reduceIte, kdT, ixT, w_cl, w_ti, w_s1, w_a, w_m12, w_m8, w_m3, w_m4, w20]
  rw [if_neg (by omega)]
theorem x_held {ho da : Int32} (hC : CS_ h) (hL : CL_ nf L h) (hd : 2 ≤ d) : ∃ r, Do_ xs d 80 [vA (some 25165831), vI ho, vI da] h (some (some (vI (Int32.ofNat (hld_ nf L ho da))))) (uI_ h 29361424 r) := by
  obtain ⟨r, hr⟩ := c_itemsWith (xs := xs) (d := d - 1) (ho := ho) (da := da) hC hL (by omega)
  refine ⟨r, fun Q => ?_⟩
  simp (disch := first | omega | assumption | decide | (apply bT_; decide)) only [s80_0, s80_1, s80_4, s80_5, s80_6, s80_9, K_v, K_0, acI, acA, acJ, acX, List.map_cons, List.map_nil, List.sum_cons, List.sum_nil, true_and, and_true, posT, b2_0, b2_1, bft, true_or, or_true, Nat.zero_le, Nat.reduceAdd, Nat.reduceLeDiff, hI_uI, hL_uI, hR_uI, nx_uI, sl_uI, hI_uL, hL_uL, hR_uL, nx_uL, sl_uL, hI_uR, hL_uR, hR_uR, nx_uR, sl_uR, st_eq, if_true, if_false, eq_self, Nat.reduceEqDiff, Nat.reduceMul, reduceIte, kdT, ixT, w_cl, w_ti, w_s1, w_a, w_m12, w_m8, w_m3, w_m4, hC.x0, hC.x2, hC.x4, hC.x7, hC.x8, hC.x9, hC.x11, hC.f0, hC.f1, hC.f2, hC.p0, hC.p1, hC.p2, hC.p3, hC.l1, hC.l2, hC.l3, hC.l4, hC.d0, hC.d1, hC.d2, hC.g1, hC.g2, hC.g3, hC.g4, hC.k1, hC.k2, hC.k3, hC.k4, hr]
end CLE
