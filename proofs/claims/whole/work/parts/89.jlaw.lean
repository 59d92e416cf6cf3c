/-! the law: its loop -/
theorem sub6 {L n : Nat} (hL : L ≤ 3072) (hn : n ≤ 600) : (Int32.ofNat L - 6 < Int32.ofNat (6 * n)) ↔ L < 6 * n + 6 := by
  have h6 : ((6 : Int32)).toInt = 6 := by decide
  rw [Int32.lt_iff_toInt_lt, Int32.toInt_sub, w_ti (by omega), w_ti (by omega), h6, Int.bmod_def]
  omega
theorem IV_.up {n : Nat} {h : AH} (I : IV_ n h) : IV_ (n + 1) h := by
  obtain ⟨na, F, G, P, nf, Lf, tl, T, hp, Hd, c, wn, Od, L, hC, hM, hp', hx, hs⟩ := I
  exact ⟨na, F, G, P, nf, Lf, tl, T, hp, Hd, c, wn, Od, L, hC, hM, hp', by omega, by omega⟩
section LAL
variable {xs : Nat → Int32} {d s n L : Nat} {x5 x6 : AV} {h : AH}
theorem lw_step (I : IV_ n h) (hk : kd_ s = 36) (hl : ln_ s = L) (hL : L ≤ 3072) (hn : 6 * n + 6 ≤ L) (hd : 100 ≤ d) : LC_ xs d s 33 n x5 x6 h := by
  obtain ⟨m, hm, e⟩ := a31_ (y := xs (6 * n))
  have pre : ∀ Q : OU_ → AH → Prop, V_ xs d 178 33 [vA (some s), vA (some 25165831), vA (some 33554440), vA (some 42729555), vI (Int32.ofNat (6 * n)), x5, x6] [] h Q ↔ V_ xs d 178 40 [vA (some s), vA (some 25165831), vA (some 33554440), vA (some 42729555), vI (Int32.ofNat (6 * n)), x5, x6] [vI (Int32.ofNat m)] h Q := by
    intro Q
    simp (disch := first | omega | assumption | decide | (apply bT_; decide)) only [s178_33, s178_34, s178_36, s178_37, s178_39, K_v, K_0, acI, acA, acJ, acX, List.map_cons, List.map_nil, List.sum_cons, List.sum_nil, true_and, and_true, posT, b2_0, b2_1, bft, true_or, or_true, Nat.zero_le, Nat.reduceAdd, Nat.reduceLeDiff, hI_uI, hL_uI, hR_uI, nx_uI, sl_uI, hI_uL, hL_uL, hR_uL, nx_uL, sl_uL, hI_uR, hL_uR, hR_uR, nx_uR, sl_uR, st_eq, if_true, if_false, eq_self, Nat.reduceEqDiff, Nat.reduceMul, reduceIte, kdT, ixT, w_cl, w_ti, w_s1, w_a, w_m12, w_m8, w_m3, w_m4, hk, hl, e]
  have hm2 : m = 0 ∨ m = 1 ∨ m = 2 ∨ m = 3 ∨ m = 4 ∨ m = 5 ∨ m = 6 ∨ m = 7 ∨ m = 8 ∨ m = 9 ∨ m = 10 ∨ m = 11 ∨ m = 12 ∨ m = 13 ∨ m = 14 ∨ m = 15 ∨ m = 16 ∨ m = 17 ∨ m = 18 ∨ m = 19 ∨ m = 20 ∨ m = 21 ∨ m = 22 ∨ m = 23 ∨ m = 24 ∨ 24 < m := by omega
  rcases hm2 with z | z | z | z | z | z | z | z | z | z | z | z | z | z | z | z | z | z | z | z | z | z | z | z | z | z
  · obtain ⟨h2, y5, y6, I2, hq⟩ := lw_0 (xs := xs) (x5 := x5) (x6 := x6) I hk hl hL hn hd
    rw [z] at pre
    exact ⟨h2, y5, y6, I2, fun Q => (pre Q).trans (s178_40_0.trans (hq Q))⟩
  · obtain ⟨h2, y5, y6, I2, hq⟩ := lw_1 (xs := xs) (x5 := x5) (x6 := x6) I hk hl hL hn hd
    rw [z] at pre
    exact ⟨h2, y5, y6, I2, fun Q => (pre Q).trans (s178_40_1.trans (hq Q))⟩
  · obtain ⟨h2, y5, y6, I2, hq⟩ := lw_2 (xs := xs) (x5 := x5) (x6 := x6) I hk hl hL hn hd
    rw [z] at pre
    exact ⟨h2, y5, y6, I2, fun Q => (pre Q).trans (s178_40_2.trans (hq Q))⟩
  · obtain ⟨h2, y5, y6, I2, hq⟩ := lw_3 (xs := xs) (x5 := x5) (x6 := x6) I hk hl hL hn hd
    rw [z] at pre
    exact ⟨h2, y5, y6, I2, fun Q => (pre Q).trans (s178_40_3.trans (hq Q))⟩
  · obtain ⟨h2, y5, y6, I2, hq⟩ := lw_4 (xs := xs) (x5 := x5) (x6 := x6) I hk hl hL hn hd
    rw [z] at pre
    exact ⟨h2, y5, y6, I2, fun Q => (pre Q).trans (s178_40_4.trans (hq Q))⟩
  · obtain ⟨h2, y5, y6, I2, hq⟩ := lw_5 (xs := xs) (x5 := x5) (x6 := x6) I hk hl hL hn hd
    rw [z] at pre
    exact ⟨h2, y5, y6, I2, fun Q => (pre Q).trans (s178_40_5.trans (hq Q))⟩
  · obtain ⟨h2, y5, y6, I2, hq⟩ := lw_6 (xs := xs) (x5 := x5) (x6 := x6) I hk hl hL hn hd
    rw [z] at pre
    exact ⟨h2, y5, y6, I2, fun Q => (pre Q).trans (s178_40_6.trans (hq Q))⟩
  · obtain ⟨h2, y5, y6, I2, hq⟩ := lw_7 (xs := xs) (x5 := x5) (x6 := x6) I hk hl hL hn hd
    rw [z] at pre
    exact ⟨h2, y5, y6, I2, fun Q => (pre Q).trans (s178_40_7.trans (hq Q))⟩
  · obtain ⟨h2, y5, y6, I2, hq⟩ := lw_8 (xs := xs) (x5 := x5) (x6 := x6) I hk hl hL hn hd
    rw [z] at pre
    exact ⟨h2, y5, y6, I2, fun Q => (pre Q).trans (s178_40_8.trans (hq Q))⟩
  · obtain ⟨h2, y5, y6, I2, hq⟩ := lw_9 (xs := xs) (x5 := x5) (x6 := x6) I hk hl hL hn hd
    rw [z] at pre
    exact ⟨h2, y5, y6, I2, fun Q => (pre Q).trans (s178_40_9.trans (hq Q))⟩
  · obtain ⟨h2, y5, y6, I2, hq⟩ := lw_10 (xs := xs) (x5 := x5) (x6 := x6) I hk hl hL hn hd
    rw [z] at pre
    exact ⟨h2, y5, y6, I2, fun Q => (pre Q).trans (s178_40_10.trans (hq Q))⟩
  · obtain ⟨h2, y5, y6, I2, hq⟩ := lw_11 (xs := xs) (x5 := x5) (x6 := x6) I hk hl hL hn hd
    rw [z] at pre
    exact ⟨h2, y5, y6, I2, fun Q => (pre Q).trans (s178_40_11.trans (hq Q))⟩
  · obtain ⟨h2, y5, y6, I2, hq⟩ := lw_12 (xs := xs) (x5 := x5) (x6 := x6) I hk hl hL hn hd
    rw [z] at pre
    exact ⟨h2, y5, y6, I2, fun Q => (pre Q).trans (s178_40_12.trans (hq Q))⟩
  · obtain ⟨h2, y5, y6, I2, hq⟩ := lw_13 (xs := xs) (x5 := x5) (x6 := x6) I hk hl hL hn hd
    rw [z] at pre
    exact ⟨h2, y5, y6, I2, fun Q => (pre Q).trans (s178_40_13.trans (hq Q))⟩
  · obtain ⟨h2, y5, y6, I2, hq⟩ := lw_14 (xs := xs) (x5 := x5) (x6 := x6) I hk hl hL hn hd
    rw [z] at pre
    exact ⟨h2, y5, y6, I2, fun Q => (pre Q).trans (s178_40_14.trans (hq Q))⟩
  · obtain ⟨h2, y5, y6, I2, hq⟩ := lw_15 (xs := xs) (x5 := x5) (x6 := x6) I hk hl hL hn hd
    rw [z] at pre
    exact ⟨h2, y5, y6, I2, fun Q => (pre Q).trans (s178_40_15.trans (hq Q))⟩
  · obtain ⟨h2, y5, y6, I2, hq⟩ := lw_16 (xs := xs) (x5 := x5) (x6 := x6) I hk hl hL hn hd
    rw [z] at pre
    exact ⟨h2, y5, y6, I2, fun Q => (pre Q).trans (s178_40_16.trans (hq Q))⟩
  · obtain ⟨h2, y5, y6, I2, hq⟩ := lw_17 (xs := xs) (x5 := x5) (x6 := x6) I hk hl hL hn hd
    rw [z] at pre
    exact ⟨h2, y5, y6, I2, fun Q => (pre Q).trans (s178_40_17.trans (hq Q))⟩
  · obtain ⟨h2, y5, y6, I2, hq⟩ := lw_18 (xs := xs) (x5 := x5) (x6 := x6) I hk hl hL hn hd
    rw [z] at pre
    exact ⟨h2, y5, y6, I2, fun Q => (pre Q).trans (s178_40_18.trans (hq Q))⟩
  · obtain ⟨h2, y5, y6, I2, hq⟩ := lw_19 (xs := xs) (x5 := x5) (x6 := x6) I hk hl hL hn hd
    rw [z] at pre
    exact ⟨h2, y5, y6, I2, fun Q => (pre Q).trans (s178_40_19.trans (hq Q))⟩
  · obtain ⟨h2, y5, y6, I2, hq⟩ := lw_20 (xs := xs) (x5 := x5) (x6 := x6) I hk hl hL hn hd
    rw [z] at pre
    exact ⟨h2, y5, y6, I2, fun Q => (pre Q).trans (s178_40_20.trans (hq Q))⟩
  · obtain ⟨h2, y5, y6, I2, hq⟩ := lw_21 (xs := xs) (x5 := x5) (x6 := x6) I hk hl hL hn hd
    rw [z] at pre
    exact ⟨h2, y5, y6, I2, fun Q => (pre Q).trans (s178_40_21.trans (hq Q))⟩
  · obtain ⟨h2, y5, y6, I2, hq⟩ := lw_22 (xs := xs) (x5 := x5) (x6 := x6) I hk hl hL hn hd
    rw [z] at pre
    exact ⟨h2, y5, y6, I2, fun Q => (pre Q).trans (s178_40_22.trans (hq Q))⟩
  · obtain ⟨h2, y5, y6, I2, hq⟩ := lw_23 (xs := xs) (x5 := x5) (x6 := x6) I hk hl hL hn hd
    rw [z] at pre
    exact ⟨h2, y5, y6, I2, fun Q => (pre Q).trans (s178_40_23.trans (hq Q))⟩
  · obtain ⟨h2, y5, y6, I2, hq⟩ := lw_24 (xs := xs) (x5 := x5) (x6 := x6) I hk hl hL hn hd
    rw [z] at pre
    exact ⟨h2, y5, y6, I2, fun Q => (pre Q).trans (s178_40_24.trans (hq Q))⟩
  · exact ⟨h, x5, x6, I.up, fun Q => (pre Q).trans (s178_40_d (Or.inr (by rw [w_ti (by omega)]; omega)))⟩
theorem law_loop (hk : kd_ s = 36) (hl : ln_ s = L) (hL : L ≤ 3072) (hd : 100 ≤ d) : ∀ (k n : Nat) (h : AH) (x5 x6 : AV), L < 6 * n + 6 * k + 6 → 6 * n ≤ L → IV_ n h → V_ xs d 178 23 [vA (some s), vA (some 25165831), vA (some 33554440), vA (some 42729555), vI (Int32.ofNat (6 * n)), x5, x6] [] h (fun o h' => o = some (some (vI 1)) ∧ nx_ h' ≤ 601120 ∧ sl_ h' ≤ 7293034) := by
  have hkk : 16 ≤ kd_ s ∧ kd_ s ≤ 22 ∨ 34 ≤ kd_ s ∧ kd_ s ≤ 36 := by omega
  intro k
  induction k with
  | zero =>
    intro n h x5 x6 q1 q2 I
    have c : (Int32.ofNat L - 6 < Int32.ofNat (6 * n)) ↔ True := by rw [sub6 hL (by omega)]; exact ⟨fun _ => trivial, fun _ => by omega⟩
    obtain ⟨na, F, G, P, nf, Lf, tl, T, hp, Hd, cc, wn, Od, L', hC, hM, hp', hx, hs⟩ := I
    simp (disch := first | omega | assumption | decide | (apply bT_; decide)) only [s178_23, s178_25, s178_26, s178_27, s178_29, s178_30, K_v, K_0, acI, acA, acJ, acX, List.map_cons, List.map_nil, List.sum_cons, List.sum_nil, true_and, and_true, posT, b2_0, b2_1, bft, true_or, or_true, Nat.zero_le, Nat.reduceAdd, Nat.reduceLeDiff, hl, c, if_true, s178_1221, s178_1222]
    exact ⟨by omega, by omega⟩
  | succ k ih =>
    intro n h x5 x6 q1 q2 I
    by_cases q : L < 6 * n + 6
    · have c : (Int32.ofNat L - 6 < Int32.ofNat (6 * n)) ↔ True := by rw [sub6 hL (by omega)]; exact ⟨fun _ => trivial, fun _ => by omega⟩
      obtain ⟨na, F, G, P, nf, Lf, tl, T, hp, Hd, cc, wn, Od, L', hC, hM, hp', hx, hs⟩ := I
      simp (disch := first | omega | assumption | decide | (apply bT_; decide)) only [s178_23, s178_25, s178_26, s178_27, s178_29, s178_30, K_v, K_0, acI, acA, acJ, acX, List.map_cons, List.map_nil, List.sum_cons, List.sum_nil, true_and, and_true, posT, b2_0, b2_1, bft, true_or, or_true, Nat.zero_le, Nat.reduceAdd, Nat.reduceLeDiff, hl, c, if_true, s178_1221, s178_1222]
      exact ⟨by omega, by omega⟩
    · have c : (Int32.ofNat L - 6 < Int32.ofNat (6 * n)) ↔ False := by rw [sub6 hL (by omega)]; exact ⟨fun z => q z, fun z => z.elim⟩
      obtain ⟨h2, y5, y6, I2, hq⟩ := lw_step (xs := xs) (x5 := x5) (x6 := x6) I hk hl hL (by omega) hd
      have e6 : Int32.ofNat (6 * n) + 6 = Int32.ofNat (6 * (n + 1)) := by rw [ad6_]; rfl
      simp (disch := first | omega | assumption | decide | (apply bT_; decide)) only [s178_23, s178_25, s178_26, s178_27, s178_29, s178_30, K_v, K_0, acI, acA, acJ, acX, List.map_cons, List.map_nil, List.sum_cons, List.sum_nil, true_and, and_true, posT, b2_0, b2_1, bft, true_or, or_true, Nat.zero_le, Nat.reduceAdd, Nat.reduceLeDiff, hl, c, if_false]
      rw [hq, s178_1215, s178_1218, e6]
      exact ih (n + 1) h2 y5 y6 (by omega) (by omega) I2
theorem law_all (hk : kd_ s = 36) (hl : ln_ s = L) (hL : L ≤ 3072) (hd : 100 ≤ d) : V_ xs d 178 0 [vA (some s), vX 0, vX 0, vX 0, vX 0, vX 0, vX 0] [] (fun _ _ => 0, fun _ _ => 0, fun _ _ => none, [], 96, 0) (fun o h' => o = some (some (vI 1)) ∧ nx_ h' ≤ 601120 ∧ sl_ h' ≤ 7293034) := by
  obtain ⟨h, I, hq⟩ := law_start (xs := xs) (d := d) (s := s) hd
  rw [hq]
  exact law_loop hk hl hL hd 512 0 h (vX 0) (vX 0) (by omega) (by omega) I
end LAL
