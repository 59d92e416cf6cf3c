/-! the model reads an expression -/
theorem lc_lt {a b : Int64} : lg_cmp a b < 0 ↔ a.toInt < b.toInt := by
  unfold lg_cmp
  simp only [gt_iff_lt, Int64.lt_iff_toInt_lt, ← Int64.toInt_inj]
  repeat' split
  all_goals simp
  all_goals omega
section PSX
variable {B : Nat → Int32} {N : Nat}
theorem ps_ge : ∀ {k : Nat}, k ≤ N → k ≤ ps_ B N k := by
  intro k
  induction k with
  | zero => intro _; exact Nat.zero_le _
  | succ k ih =>
    intro h
    show k + 1 ≤ (if ps_ B N k < N then tp_ B N (en_ B N (ps_ B N k)) else N)
    by_cases q : ps_ B N k < N
    · rw [if_pos q]
      have h1 := ih (by omega)
      obtain ⟨e1, e2⟩ := en_ge (B := B) q
      have := tp_ge (B := B) e2
      omega
    · rw [if_neg q]; exact h
theorem stk_0 : ∀ k, N ≤ k → stk_ B N k = 0 := by
  have key : ∀ j, ps_ B N (N + j) = N := by
    intro j
    induction j with
    | zero =>
      have h1 := ps_ge (B := B) (N := N) (Nat.le_refl N)
      have h2 := ps_le (B := B) (N := N) (k := N)
      rw [Nat.add_zero]
      omega
    | succ j ih =>
      show (if ps_ B N (N + j) < N then tp_ B N (en_ B N (ps_ B N (N + j))) else N) = N
      rw [if_neg (by omega)]
  intro k hk
  have := key (k - N)
  rw [show N + (k - N) = k by omega] at this
  unfold stk_ sot_
  rw [this, if_neg (Nat.lt_irrefl _)]
theorem ps_s {k : Nat} : tp_ B N (enk_ B N (ps_ B N k)) = ps_ B N (k + 1) := by
  show _ = (if ps_ B N k < N then tp_ B N (en_ B N (ps_ B N k)) else N)
  unfold enk_
  by_cases q : ps_ B N k < N
  · rw [if_pos q, if_pos q]
  · rw [if_neg q, if_neg q, tp_N]
theorem enk_le {k : Nat} : enk_ B N (ps_ B N k) ≤ N := by
  unfold enk_
  by_cases q : ps_ B N k < N
  · rw [if_pos q]; exact (en_ge q).2
  · rw [if_neg q]; exact Nat.le_refl _
end PSX
def RL_ (x0 : AH) (r : Nat → Int32) : Prop := ∀ j, j ∉ [50, 51, 52, 53, 54, 55] → r j = hI_ x0 33554440 j
def MZ_ (B : Nat → Int32) (N : Nat) (x0 : AH) (k : Nat) (r : Nat → Int32) : Prop := NR_ B N (ps_ B N k) r ∧ r 54 = 0 ∧ RL_ x0 r
def MF_ (B : Nat → Int32) (N : Nat) (x0 : AH) (c k : Nat) (r : Nat → Int32) : Prop := r 54 = Int32.ofNat c ∧ r 55 = Int32.ofNat (ps_ B N k) ∧ (c = 1 ∨ c = 2) ∧ RL_ x0 r
/-- reading, or the actor and the worths -/
def HB_ (xs : Nat → Int32) (B : Nat → Int32) (N c : Nat) (x0 : AH) (Rd : Bool) (m : Nat → Int) : Prop := RW_ B N c x0 ∧ MS_ x0 ∧ hI_ x0 33554440 56 = b2_ Rd ∧ (Rd = false → ∃ a, a < 12 ∧ hI_ x0 33554440 57 = Int32.ofNat a ∧ hI_ x0 34603794 a = b2_ (decide (1 ≤ m 4)) ∧ ∀ s, 20 ≤ s → s ≤ 24 → ∃ y : Int64, y.toInt = m (wof_ s) ∧ ∀ (r : Nat → Int32) (d : Nat) (Q : OU_ → AH → Prop), RL_ x0 r → 2 ≤ d → (V_ xs d 162 0 [vA (some 33554440), vI (Int32.ofNat s)] [] (uI_ x0 33554440 r) Q ↔ Q (some (some (vJ y))) (uI_ x0 33554440 r)))
def MRV_ (V : (OU_ → AH → Prop) → Prop) (B : Nat → Int32) (N : Nat) (x0 : AH) (Rd : Bool) (m : Nat → Int) (res : PR_) : Prop := match res with
  | .inl (c, k1) => ∃ r v, MF_ B N x0 c k1 r ∧ ∀ Q, V Q ↔ Q (some (some (vI (b2_ v)))) (uI_ x0 33554440 r)
  | .inr (e, k1) => ∃ r v, MZ_ B N x0 k1 r ∧ (Rd = false → v = e.2 m) ∧ ∀ Q, V Q ↔ Q (some (some (vI (b2_ v)))) (uI_ x0 33554440 r)
theorem MRV_.tr {V V' : (OU_ → AH → Prop) → Prop} {B : Nat → Int32} {N : Nat} {x0 : AH} {Rd : Bool} {m : Nat → Int} {res : PR_} (h : ∀ Q, V Q ↔ V' Q) (H : MRV_ V' B N x0 Rd m res) : MRV_ V B N x0 Rd m res := by
  cases res with
  | inl x => obtain ⟨c, k1⟩ := x; obtain ⟨r, v, a1, a2⟩ := H; exact ⟨r, v, a1, fun Q => (h Q).trans (a2 Q)⟩
  | inr x => obtain ⟨e, k1⟩ := x; obtain ⟨r, v, a1, a2, a3⟩ := H; exact ⟨r, v, a1, a2, fun Q => (h Q).trans (a3 Q)⟩
section MPR
variable {xs : Nat → Int32} {d : Nat} {x0 : AH} {B : Nat → Int32} {N c k : Nat} {r : Nat → Int32} {Rd : Bool} {m : Nat → Int}
theorem MZ_.rw (hR : RW_ B N c x0) (H : MZ_ B N x0 k r) : RW_ B N c (uI_ x0 33554440 r) := hR.um (H.2.2 49 (by decide))
theorem m_next (hR : RW_ B N c x0) (H : MZ_ B N x0 k r) (hd : 7 ≤ d) : ∃ r', MZ_ B N x0 (k + 1) r' ∧ Do_ xs d 154 [vA (some 33554440), vX 0] (uI_ x0 33554440 r) (some none) (uI_ x0 33554440 r') := by
  obtain ⟨h1, h2, h3⟩ := id H
  obtain ⟨r', a1, a2, a3⟩ := c_next (xs := xs) (d := d) (x := uI_ x0 33554440 r) (i := enk_ B N (ps_ B N k)) (H.rw hR) enk_le (by simp only [hI_uI, hL_uI, hR_uI, nx_uI, sl_uI, hI_uL, hL_uL, hR_uL, nx_uL, sl_uL, hI_uR, hL_uR, hR_uR, nx_uR, sl_uR, st_eq, if_true, if_false, eq_self, Nat.reduceEqDiff, Nat.reduceMul, reduceIte, kdT, ixT, w_cl, w_ti, w_s1, w_a, w_m12, w_m8, w_m3, w_m4]; exact h1.1) hd
  rw [ps_s] at a1
  rw [uI_uI] at a3
  refine ⟨r', ⟨a1, ?_, fun j hj => ?_⟩, a3⟩
  · rw [a2 54 (by decide)]; simp only [hI_uI, hL_uI, hR_uI, nx_uI, sl_uI, hI_uL, hL_uL, hR_uL, nx_uL, sl_uL, hI_uR, hL_uR, hR_uR, nx_uR, sl_uR, st_eq, if_true, if_false, eq_self, Nat.reduceEqDiff, Nat.reduceMul, reduceIte, kdT, ixT, w_cl, w_ti, w_s1, w_a, w_m12, w_m8, w_m3, w_m4]; exact h2
  · rw [a2 j (fun z => hj (by revert z; simp only [List.mem_cons, List.not_mem_nil, or_false]; omega))]
    simp only [hI_uI, hL_uI, hR_uI, nx_uI, sl_uI, hI_uL, hL_uL, hR_uL, nx_uL, sl_uL, hI_uR, hL_uR, hR_uR, nx_uR, sl_uR, st_eq, if_true, if_false, eq_self, Nat.reduceEqDiff, Nat.reduceMul, reduceIte, kdT, ixT, w_cl, w_ti, w_s1, w_a, w_m12, w_m8, w_m3, w_m4]
    exact h3 j hj
theorem m_fails {w : Nat} (hw : w = 1 ∨ w = 2) (H : MZ_ B N x0 k r) : ∃ r', MF_ B N x0 w k r' ∧ Do_ xs d 156 [vA (some 33554440), vI (Int32.ofNat w)] (uI_ x0 33554440 r) (some none) (uI_ x0 33554440 r') := by
  obtain ⟨⟨n1, n2, n3, n4⟩, h2, h3⟩ := H
  refine ⟨st_ (st_ r 54 (Int32.ofNat w)) 55 (Int32.ofNat (ps_ B N k)), ⟨by simp only [hI_uI, hL_uI, hR_uI, nx_uI, sl_uI, hI_uL, hL_uL, hR_uL, nx_uL, sl_uL, hI_uR, hL_uR, hR_uR, nx_uR, sl_uR, st_eq, if_true, if_false, eq_self, Nat.reduceEqDiff, Nat.reduceMul, reduceIte, kdT, ixT, w_cl, w_ti, w_s1, w_a, w_m12, w_m8, w_m3, w_m4], by simp only [hI_uI, hL_uI, hR_uI, nx_uI, sl_uI, hI_uL, hL_uL, hR_uL, nx_uL, sl_uL, hI_uR, hL_uR, hR_uR, nx_uR, sl_uR, st_eq, if_true, if_false, eq_self, Nat.reduceEqDiff, Nat.reduceMul, reduceIte, kdT, ixT, w_cl, w_ti, w_s1, w_a, w_m12, w_m8, w_m3, w_m4], hw, fun j hj => ?_⟩, fun Q => ?_⟩
  · have := h3 j hj
    simp only [List.mem_cons, List.not_mem_nil, or_false, not_or] at hj
    rw [st_eq, st_eq, if_neg hj.2.2.2.2.2, if_neg hj.2.2.2.2.1]; exact this
  · simp (disch := first | omega | assumption | decide | (apply bT_; decide)) only [s156_0, s156_1, s156_4, s156_7, s156_8, s156_9, s156_10, s156_13, s156_14, s156_15, s156_18, s156_21, K_v, K_0, acI, acA, acJ, acX, List.map_cons, List.map_nil, List.sum_cons, List.sum_nil, true_and, and_true, posT, b2_0, b2_1, bft, true_or, or_true, Nat.zero_le, Nat.reduceAdd, Nat.reduceLeDiff, hI_uI, hL_uI, hR_uI, nx_uI, sl_uI, hI_uL, hL_uL, hR_uL, nx_uL, sl_uL, hI_uR, hL_uR, hR_uR, nx_uR, sl_uR, st_eq, if_true, if_false, eq_self, Nat.reduceEqDiff, Nat.reduceMul, reduceIte, kdT, ixT, w_cl, w_ti, w_s1, w_a, w_m12, w_m8, w_m3, w_m4, h2, n2, uI_uI, kd_M, ln_M]
theorem m_wants {s : Nat} (hs : s < 25) (hR : RW_ B N c x0) (H : MZ_ B N x0 k r) (hd : 8 ≤ d) : (stk_ B N k = s → ∃ r', MZ_ B N x0 (k + 1) r' ∧ Do_ xs d 157 [vA (some 33554440), vI (Int32.ofNat s)] (uI_ x0 33554440 r) (some none) (uI_ x0 33554440 r')) ∧ (stk_ B N k ≠ s → ∃ r', MF_ B N x0 1 k r' ∧ Do_ xs d 157 [vA (some 33554440), vI (Int32.ofNat s)] (uI_ x0 33554440 r) (some none) (uI_ x0 33554440 r')) := by
  have n3 := H.1.2.2.1
  have h2 := H.2.1
  have hl := stk_lt (B := B) (N := N) (k := k)
  constructor
  · intro q
    obtain ⟨r', a1, a2⟩ := m_next (xs := xs) (d := d - 1) hR H (by omega)
    refine ⟨r', a1, fun Q => ?_⟩
    have q2 : Int32.ofNat (sot_ B N (ps_ B N k)) = Int32.ofNat s := congrArg Int32.ofNat q
    simp (disch := first | omega | assumption | decide | (apply bT_; decide)) only [s157_0, s157_1, s157_4, s157_7, s157_8, s157_9, s157_12, s157_13, s157_16, s157_17, s157_20, s157_24, s157_25, s157_28, K_v, K_0, acI, acA, acJ, acX, List.map_cons, List.map_nil, List.sum_cons, List.sum_nil, true_and, and_true, posT, b2_0, b2_1, bft, true_or, or_true, Nat.zero_le, Nat.reduceAdd, Nat.reduceLeDiff, hI_uI, hL_uI, hR_uI, nx_uI, sl_uI, hI_uL, hL_uL, hR_uL, nx_uL, sl_uL, hI_uR, hL_uR, hR_uR, nx_uR, sl_uR, st_eq, if_true, if_false, eq_self, Nat.reduceEqDiff, Nat.reduceMul, reduceIte, kdT, ixT, w_cl, w_ti, w_s1, w_a, w_m12, w_m8, w_m3, w_m4, h2, n3, if_pos q2, a2, kd_M, ln_M]
  · intro q
    obtain ⟨r', a1, a2⟩ := m_fails (xs := xs) (d := d - 1) (w := 1) (Or.inl rfl) H
    refine ⟨r', a1, fun Q => ?_⟩
    have q2 : ¬ (Int32.ofNat (sot_ B N (ps_ B N k)) = Int32.ofNat s) := fun z => q ((w_eq (a := stk_ B N k) (by omega) (by omega)).mp z)
    have a2' : ∀ Q : OU_ → AH → Prop, V_ xs (d - 1) 156 0 [vA (some 33554440), vI 1] [] (uI_ x0 33554440 r) Q ↔ Q (some none) (uI_ x0 33554440 r') := a2
    simp (disch := first | omega | assumption | decide | (apply bT_; decide)) only [s157_0, s157_1, s157_4, s157_7, s157_8, s157_9, s157_12, s157_13, s157_17, s157_20, s157_23, s157_24, s157_25, s157_28, K_v, K_0, acI, acA, acJ, acX, List.map_cons, List.map_nil, List.sum_cons, List.sum_nil, true_and, and_true, posT, b2_0, b2_1, bft, true_or, or_true, Nat.zero_le, Nat.reduceAdd, Nat.reduceLeDiff, hI_uI, hL_uI, hR_uI, nx_uI, sl_uI, hI_uL, hL_uL, hR_uL, nx_uL, sl_uL, hI_uR, hL_uR, hR_uR, nx_uR, sl_uR, st_eq, if_true, if_false, eq_self, Nat.reduceEqDiff, Nat.reduceMul, reduceIte, kdT, ixT, w_cl, w_ti, w_s1, w_a, w_m12, w_m8, w_m3, w_m4, h2, n3, if_neg q2, a2', kd_M, ln_M]
theorem m_wantsF {s w : Nat} (H : MF_ B N x0 w k r) : Do_ xs d 157 [vA (some 33554440), vI (Int32.ofNat s)] (uI_ x0 33554440 r) (some none) (uI_ x0 33554440 r) := by
  intro Q
  have h1 := H.1
  have hw := H.2.2.1
  have n0 : ¬ (Int32.ofNat w = 0) := fun z => by
    have := (w_eq (b := 0) (by omega) (by omega)).mp z
    omega
  simp (disch := first | omega | assumption | decide | (apply bT_; decide)) only [s157_0, s157_1, s157_4, s157_7, s157_9, s157_12, s157_13, s157_16, s157_17, s157_20, s157_23, s157_24, s157_25, s157_28, K_v, K_0, acI, acA, acJ, acX, List.map_cons, List.map_nil, List.sum_cons, List.sum_nil, true_and, and_true, posT, b2_0, b2_1, bft, true_or, or_true, Nat.zero_le, Nat.reduceAdd, Nat.reduceLeDiff, hI_uI, hL_uI, hR_uI, nx_uI, sl_uI, hI_uL, hL_uL, hR_uL, nx_uL, sl_uL, hI_uR, hL_uR, hR_uR, nx_uR, sl_uR, st_eq, if_true, if_false, eq_self, Nat.reduceEqDiff, Nat.reduceMul, reduceIte, kdT, ixT, w_cl, w_ti, w_s1, w_a, w_m12, w_m8, w_m3, w_m4, h1, n0, kd_M, ln_M]
end MPR
