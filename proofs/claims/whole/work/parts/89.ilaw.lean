/-! the law: where and about -/
theorem K_x {xs : Nat → Int32} {d m pc pc' : Nat} {ls st : List AV} {Q : OU_ → AH → Prop} {h' : AH} (e : hnd_ m (pc - 3) = some pc') : K_ xs d m pc ls st Q none h' ↔ V_ xs d m pc' ls [vA (some (mk_ (nx_ h' - 1) 40 0))] h' Q := by
  unfold K_
  simp only [e]
theorem hw_1 : hnd_ 176 (10 - 3) = some 15 := by decide +kernel
theorem hw_2 : hnd_ 177 (10 - 3) = some 15 := by decide +kernel
theorem ixO : ix_ 0 (ln_ 42729555) ↔ True := ⟨fun _ => trivial, fun _ => by unfold ix_; decide⟩
theorem cl0 : (0 : Int32).toNatClampNeg = 0 := by decide
section LAX
variable {xs : Nat → Int32} {d s n L : Nat} {x5 x6 : AV} {h : AH}
theorem c_Lwhere {it da k r : Int32} (hd : 1 ≤ d) (D : Do_ xs (d - 1) 79 [vA (some 25165831), vI it, vI da, vI k] h (some (some (vI r))) h) : Do_ xs d 176 [vA (some 25165831), vI it, vI da, vI k, vA (some 42729555), vX 0] h (some (some (vI 0))) (uL_ h 42729555 (st_ (hL_ h 42729555) 0 r.toInt64)) := by
  intro Q
  simp (disch := first | omega | assumption | decide | (apply bT_; decide)) only [s176_0, s176_2, s176_3, s176_4, s176_5, s176_6, s176_7, s176_10, s176_11, s176_12, s176_15, s176_17, s176_18, s176_19, s176_20, K_v, K_0, acI, acA, acJ, acX, List.map_cons, List.map_nil, List.sum_cons, List.sum_nil, true_and, and_true, posT, b2_0, b2_1, bft, true_or, or_true, Nat.zero_le, Nat.reduceAdd, Nat.reduceLeDiff, D, kd_X, kd_OUT, ixO, cl0]
theorem c_LwhereX {it da k : Int32} (hd : 1 ≤ d) (D : Do_ xs (d - 1) 79 [vA (some 25165831), vI it, vI da, vI k] h none (xh_ h)) : Do_ xs d 176 [vA (some 25165831), vI it, vI da, vI k, vA (some 42729555), vX 0] h (some (some (vI 1))) (xh_ h) := by
  intro Q
  simp (disch := first | omega | assumption | decide | (apply bT_; decide)) only [s176_0, s176_2, s176_3, s176_4, s176_5, s176_6, s176_7, s176_10, s176_11, s176_12, s176_15, s176_17, s176_18, s176_19, s176_20, K_v, K_0, acI, acA, acJ, acX, List.map_cons, List.map_nil, List.sum_cons, List.sum_nil, true_and, and_true, posT, b2_0, b2_1, bft, true_or, or_true, Nat.zero_le, Nat.reduceAdd, Nat.reduceLeDiff, D, kd_X, kd_OUT, K_x hw_1]
theorem c_Labout {it da k r : Int32} (hd : 1 ≤ d) (D : Do_ xs (d - 1) 86 [vA (some 25165831), vI it, vI da, vI k] h (some (some (vI r))) h) : Do_ xs d 177 [vA (some 25165831), vI it, vI da, vI k, vA (some 42729555), vX 0] h (some (some (vI 0))) (uL_ h 42729555 (st_ (hL_ h 42729555) 0 r.toInt64)) := by
  intro Q
  simp (disch := first | omega | assumption | decide | (apply bT_; decide)) only [s177_0, s177_2, s177_3, s177_4, s177_5, s177_6, s177_7, s177_10, s177_11, s177_12, s177_15, s177_17, s177_18, s177_19, s177_20, K_v, K_0, acI, acA, acJ, acX, List.map_cons, List.map_nil, List.sum_cons, List.sum_nil, true_and, and_true, posT, b2_0, b2_1, bft, true_or, or_true, Nat.zero_le, Nat.reduceAdd, Nat.reduceLeDiff, D, kd_X, kd_OUT, ixO, cl0]
theorem c_LaboutX {it da k : Int32} (hd : 1 ≤ d) (D : Do_ xs (d - 1) 86 [vA (some 25165831), vI it, vI da, vI k] h none (xh_ h)) : Do_ xs d 177 [vA (some 25165831), vI it, vI da, vI k, vA (some 42729555), vX 0] h (some (some (vI 1))) (xh_ h) := by
  intro Q
  simp (disch := first | omega | assumption | decide | (apply bT_; decide)) only [s177_0, s177_2, s177_3, s177_4, s177_5, s177_6, s177_7, s177_10, s177_11, s177_12, s177_15, s177_17, s177_18, s177_19, s177_20, K_v, K_0, acI, acA, acJ, acX, List.map_cons, List.map_nil, List.sum_cons, List.sum_nil, true_and, and_true, posT, b2_0, b2_1, bft, true_or, or_true, Nat.zero_le, Nat.reduceAdd, Nat.reduceLeDiff, D, kd_X, kd_OUT, K_x hw_2]
theorem c_thr : Do_ xs d 106 [vA (some 33554440)] h (some (some (vI (hI_ h 33554440 0)))) h := by
  intro Q
  simp (disch := first | omega | assumption | decide | (apply bT_; decide)) only [s106_0, s106_1, s106_4, K_v, K_0, acI, acA, acJ, acX, List.map_cons, List.map_nil, List.sum_cons, List.sum_nil, true_and, and_true, posT, b2_0, b2_1, bft, true_or, or_true, Nat.zero_le, Nat.reduceAdd, Nat.reduceLeDiff, kd_M]
theorem fx_out {r : Nat → Int64} : FX_ [42729555] [] h (uL_ h 42729555 r) := by
  refine ⟨fun a _ q _ => ⟨rfl, ?_, rfl⟩, fun _ _ => rfl, ?_, rfl, Nat.le_refl _⟩
  · rw [hL_uL, if_neg (fun z => q (by rw [z]; exact List.mem_cons_self))]
  · rw [hL_uL, if_neg (by decide)]
theorem fx_xh : FX_ [] [] h (xh_ h) := ⟨fun a _ _ _ => ⟨rfl, rfl, rfl⟩, fun _ _ => rfl, rfl, rfl, Nat.le_succ _⟩
theorem lg_self {x : Int64} : lg_cmp x x = 0 := lgd_0.mpr rfl
theorem lw_16 (I : IV_ n h) (hk : kd_ s = 36) (hl : ln_ s = L) (hL : L ≤ 3072) (hn : 6 * n + 6 ≤ L) (hd : 100 ≤ d) : LC_ xs d s 820 n x5 x6 h := by
  obtain ⟨na, F, G, P, nf, Lf, tl, T, hp, Hd, c, wn, Od, L', hC, hM, hp', hx, hs⟩ := I
  obtain ⟨c1, ⟨sa, c2⟩, ⟨sp, c3⟩, c4, c5, c6, c7, c8, c9⟩ := id hC
  have D0 := x_where (xs := xs) (d := d - 1 - 1) (it := xs (6 * n + 1)) (da := xs (6 * n + 2)) (n := xs (6 * n + 3)) c1 c4 (by omega)
  by_cases q : okW_ nf (xs (6 * n + 1)) (xs (6 * n + 3)) = true
  · rw [if_pos q] at D0
    have D1 := c_Lwhere (d := d - 1) (by omega) D0
    obtain ⟨r, hr⟩ : ∃ r, r = hol_ Lf (xs (6 * n + 1)) (xs (6 * n + 2)) (xs (6 * n + 3)).toNatClampNeg := ⟨_, rfl⟩
    rw [← hr] at D1
    obtain ⟨h1, e1⟩ : ∃ h1, h1 = uL_ h 42729555 (st_ (hL_ h 42729555) 0 r.toInt64) := ⟨_, rfl⟩
    have f : FX_ [42729555] [] h h1 := by rw [e1]; exact fx_out
    have g1 : hL_ h1 42729555 0 = r.toInt64 := by rw [e1]; simp only [hI_uI, hL_uI, hR_uI, nx_uI, sl_uI, hI_uL, hL_uL, hR_uL, nx_uL, sl_uL, hI_uR, hL_uR, hR_uR, nx_uR, sl_uR, st_eq, if_true, if_false, eq_self, Nat.reduceEqDiff, Nat.reduceMul, reduceIte, kdT, ixT, w_cl, w_ti, w_s1, w_a, w_m12, w_m8, w_m3, w_m4]
    have n1 : nx_ h1 = nx_ h ∧ sl_ h1 = sl_ h := by rw [e1]; exact ⟨rfl, rfl⟩
    rw [← e1] at D1
    have hC1 := hC.fx f (by decide) (fun a _ => Or.inr (by rw [e1]; rfl))
    have hM1 := hM.mk (f.mk c9 (by decide))
    have D2 := m_where (xs := xs) (d := d - 1) (it := xs (6 * n + 1)) (da := xs (6 * n + 2)) (n := xs (6 * n + 3)) hM1.1 hM1.2.2.2.1 (by omega)
    rw [if_pos q, ← hr] at D2
    obtain ⟨hM2, ck⟩ := hM1.u0 (v := 0)
    obtain ⟨h2, e2⟩ : ∃ h2, h2 = uI_ h1 33554440 (st_ (hI_ h1 33554440) 0 0) := ⟨_, rfl⟩
    have g2 : hI_ h2 33554440 0 = 0 := by rw [e2]; simp only [hI_uI, hL_uI, hR_uI, nx_uI, sl_uI, hI_uL, hL_uL, hR_uL, nx_uL, sl_uL, hI_uR, hL_uR, hR_uR, nx_uR, sl_uR, st_eq, if_true, if_false, eq_self, Nat.reduceEqDiff, Nat.reduceMul, reduceIte, kdT, ixT, w_cl, w_ti, w_s1, w_a, w_m12, w_m8, w_m3, w_m4]
    have g3 : hL_ h2 42729555 0 = r.toInt64 := by rw [e2]; exact g1
    rw [← e2] at D2 hM2 ck
    have D3 := c_thr (xs := xs) (d := d - 1) (h := h2)
    rw [g2] at D3
    refine ⟨h2, vI 0, vI r, ⟨na, F, G, P, nf, Lf, tl, T, hp, Hd, c, wn, Od, L', hC1.ck ck, hM2, hp', by rw [ck.2.1]; omega, by rw [ck.2.2]; omega⟩, fun Q => ?_⟩
    simp (disch := first | omega | assumption | decide | (apply bT_; decide)) only [s178_820, s178_821, s178_822, s178_824, s178_825, s178_826, s178_827, s178_828, s178_830, s178_831, s178_832, s178_833, s178_834, s178_836, s178_837, s178_838, s178_839, s178_840, s178_843, s178_845, s178_846, s178_847, s178_849, s178_850, s178_851, s178_852, s178_853, s178_855, s178_856, s178_857, s178_858, s178_859, s178_861, s178_862, s178_863, s178_864, s178_867, s178_869, s178_870, s178_873, s178_875, s178_878, s178_879, s178_880, s178_882, s178_885, s178_886, s178_887, s178_888, s178_890, s178_891, s178_892, s178_895, s178_896, s178_897, K_v, K_0, acI, acA, acJ, acX, List.map_cons, List.map_nil, List.sum_cons, List.sum_nil, true_and, and_true, posT, b2_0, b2_1, bft, true_or, or_true, Nat.zero_le, Nat.reduceAdd, Nat.reduceLeDiff, hI_uI, hL_uI, hR_uI, nx_uI, sl_uI, hI_uL, hL_uL, hR_uL, nx_uL, sl_uL, hI_uR, hL_uR, hR_uR, nx_uR, sl_uR, st_eq, if_true, if_false, eq_self, Nat.reduceEqDiff, Nat.reduceMul, reduceIte, kdT, ixT, w_cl, w_ti, w_s1, w_a, w_m12, w_m8, w_m3, w_m4, hk, hl, kd_X, kd_M, kd_OUT, ad2_, ad3_, D1, D2, D3, ixO, cl0, g3, lg_self]
  · rw [if_neg q] at D0
    have D1 := c_LwhereX (d := d - 1) (by omega) D0
    obtain ⟨h1, e1⟩ : ∃ h1, h1 = xh_ h := ⟨_, rfl⟩
    have f : FX_ [] [] h h1 := by rw [e1]; exact fx_xh
    have n1 : nx_ h1 = nx_ h + 1 ∧ sl_ h1 = sl_ h + 6 := by rw [e1]; exact ⟨rfl, rfl⟩
    rw [← e1] at D1
    have hC1 := hC.fx f (by decide) (fun a _ => Or.inr (by rw [e1]; rfl))
    have hM1 := hM.mk (f.mk c9 (by decide))
    have D2 := m_where (xs := xs) (d := d - 1) (it := xs (6 * n + 1)) (da := xs (6 * n + 2)) (n := xs (6 * n + 3)) hM1.1 hM1.2.2.2.1 (by omega)
    rw [if_neg q] at D2
    obtain ⟨hM2, ck⟩ := hM1.u0 (v := 1)
    obtain ⟨h2, e2⟩ : ∃ h2, h2 = uI_ h1 33554440 (st_ (hI_ h1 33554440) 0 1) := ⟨_, rfl⟩
    have g2 : hI_ h2 33554440 0 = 1 := by rw [e2]; simp only [hI_uI, hL_uI, hR_uI, nx_uI, sl_uI, hI_uL, hL_uL, hR_uL, nx_uL, sl_uL, hI_uR, hL_uR, hR_uR, nx_uR, sl_uR, st_eq, if_true, if_false, eq_self, Nat.reduceEqDiff, Nat.reduceMul, reduceIte, kdT, ixT, w_cl, w_ti, w_s1, w_a, w_m12, w_m8, w_m3, w_m4]
    rw [← e2] at D2 hM2 ck
    have D3 := c_thr (xs := xs) (d := d - 1) (h := h2)
    rw [g2] at D3
    refine ⟨h2, vI 1, vI 0, ⟨na, F, G, P, nf, Lf, tl, T, hp, Hd, c, wn, Od, L', hC1.ck ck, hM2, hp', by rw [ck.2.1]; omega, by rw [ck.2.2]; omega⟩, fun Q => ?_⟩
    simp (disch := first | omega | assumption | decide | (apply bT_; decide)) only [s178_820, s178_821, s178_822, s178_824, s178_825, s178_826, s178_827, s178_828, s178_830, s178_831, s178_832, s178_833, s178_834, s178_836, s178_837, s178_838, s178_839, s178_840, s178_843, s178_845, s178_846, s178_847, s178_849, s178_850, s178_851, s178_852, s178_853, s178_855, s178_856, s178_857, s178_858, s178_859, s178_861, s178_862, s178_863, s178_864, s178_867, s178_869, s178_870, s178_873, s178_875, s178_878, s178_879, s178_880, s178_882, s178_885, s178_886, s178_887, s178_888, s178_890, s178_891, s178_892, s178_895, s178_896, s178_897, K_v, K_0, acI, acA, acJ, acX, List.map_cons, List.map_nil, List.sum_cons, List.sum_nil, true_and, and_true, posT, b2_0, b2_1, bft, true_or, or_true, Nat.zero_le, Nat.reduceAdd, Nat.reduceLeDiff, hI_uI, hL_uI, hR_uI, nx_uI, sl_uI, hI_uL, hL_uL, hR_uL, nx_uL, sl_uL, hI_uR, hL_uR, hR_uR, nx_uR, sl_uR, st_eq, if_true, if_false, eq_self, Nat.reduceEqDiff, Nat.reduceMul, reduceIte, kdT, ixT, w_cl, w_ti, w_s1, w_a, w_m12, w_m8, w_m3, w_m4, hk, hl, kd_X, kd_M, kd_OUT, ad2_, ad3_, D1, D2, D3, ixO, cl0, lg_self, show ¬ ((1 : Int32) = 0) by decide]
theorem lw_23 (I : IV_ n h) (hk : kd_ s = 36) (hl : ln_ s = L) (hL : L ≤ 3072) (hn : 6 * n + 6 ≤ L) (hd : 100 ≤ d) : LC_ xs d s 1110 n x5 x6 h := by
  obtain ⟨na, F, G, P, nf, Lf, tl, T, hp, Hd, c, wn, Od, L', hC, hM, hp', hx, hs⟩ := I
  obtain ⟨c1, ⟨sa, c2⟩, ⟨sp, c3⟩, c4, c5, c6, c7, c8, c9⟩ := id hC
  have D0 := x_about (xs := xs) (d := d - 1 - 1) (v := xs (6 * n + 1)) (day := xs (6 * n + 2)) (w := xs (6 * n + 3)) (CB_of hC c2 hp') (by omega)
  by_cases q : okAb_ na (xs (6 * n + 1)) (xs (6 * n + 3)) = true
  · rw [if_pos q] at D0
    have D1 := c_Labout (d := d - 1) (by omega) D0
    obtain ⟨r, hr⟩ : ∃ r, r = abv_ L' F G hp Hd (xs (6 * n + 1)).toNatClampNeg (xs (6 * n + 2)) (xs (6 * n + 3)).toNatClampNeg := ⟨_, rfl⟩
    rw [← hr] at D1
    obtain ⟨h1, e1⟩ : ∃ h1, h1 = uL_ h 42729555 (st_ (hL_ h 42729555) 0 r.toInt64) := ⟨_, rfl⟩
    have f : FX_ [42729555] [] h h1 := by rw [e1]; exact fx_out
    have g1 : hL_ h1 42729555 0 = r.toInt64 := by rw [e1]; simp only [hI_uI, hL_uI, hR_uI, nx_uI, sl_uI, hI_uL, hL_uL, hR_uL, nx_uL, sl_uL, hI_uR, hL_uR, hR_uR, nx_uR, sl_uR, st_eq, if_true, if_false, eq_self, Nat.reduceEqDiff, Nat.reduceMul, reduceIte, kdT, ixT, w_cl, w_ti, w_s1, w_a, w_m12, w_m8, w_m3, w_m4]
    have n1 : nx_ h1 = nx_ h ∧ sl_ h1 = sl_ h := by rw [e1]; exact ⟨rfl, rfl⟩
    rw [← e1] at D1
    have hC1 := hC.fx f (by decide) (fun a _ => Or.inr (by rw [e1]; rfl))
    have hM1 := hM.mk (f.mk c9 (by decide))
    obtain ⟨Hm, hMB, -, hHm⟩ := MB_of hM1 hp'
    obtain ⟨h2, kh, k2⟩ := m_about (xs := xs) (d := d - 1) (v := xs (6 * n + 1)) (day := xs (6 * n + 2)) (w := xs (6 * n + 3)) hMB (by omega)
    rw [if_pos q] at k2
    obtain ⟨g2, D2⟩ := k2
    have eb : abv_ L' F G hp Hm (xs (6 * n + 1)).toNatClampNeg (xs (6 * n + 2)) (xs (6 * n + 3)).toNatClampNeg = r := by
      rw [hr]
      cases hp with
      | none => rfl
      | some p => rw [hHm (fun z => nomatch z)]
    rw [eb] at D2
    have ck := kh.ck (by decide)
    have g3 : hL_ h2 42729555 0 = r.toInt64 := by rw [kh.2.2.1 42729555 (by decide)]; exact g1
    have D3 := c_thr (xs := xs) (d := d - 1) (h := h2)
    rw [g2] at D3
    refine ⟨h2, vI 0, vI r, ⟨na, F, G, P, nf, Lf, tl, T, hp, Hd, c, wn, Od, L', hC1.ck ck, hM1.kh kh, hp', by rw [ck.2.1]; omega, by rw [ck.2.2]; omega⟩, fun Q => ?_⟩
    simp (disch := first | omega | assumption | decide | (apply bT_; decide)) only [s178_1110, s178_1111, s178_1112, s178_1114, s178_1115, s178_1116, s178_1117, s178_1118, s178_1120, s178_1121, s178_1122, s178_1123, s178_1124, s178_1126, s178_1127, s178_1128, s178_1129, s178_1130, s178_1133, s178_1135, s178_1136, s178_1137, s178_1139, s178_1140, s178_1141, s178_1142, s178_1143, s178_1145, s178_1146, s178_1147, s178_1148, s178_1149, s178_1151, s178_1152, s178_1153, s178_1154, s178_1157, s178_1159, s178_1160, s178_1163, s178_1165, s178_1168, s178_1169, s178_1170, s178_1172, s178_1175, s178_1176, s178_1177, s178_1178, s178_1180, s178_1181, s178_1182, s178_1185, s178_1186, s178_1187, K_v, K_0, acI, acA, acJ, acX, List.map_cons, List.map_nil, List.sum_cons, List.sum_nil, true_and, and_true, posT, b2_0, b2_1, bft, true_or, or_true, Nat.zero_le, Nat.reduceAdd, Nat.reduceLeDiff, hI_uI, hL_uI, hR_uI, nx_uI, sl_uI, hI_uL, hL_uL, hR_uL, nx_uL, sl_uL, hI_uR, hL_uR, hR_uR, nx_uR, sl_uR, st_eq, if_true, if_false, eq_self, Nat.reduceEqDiff, Nat.reduceMul, reduceIte, kdT, ixT, w_cl, w_ti, w_s1, w_a, w_m12, w_m8, w_m3, w_m4, hk, hl, kd_X, kd_M, kd_OUT, ad2_, ad3_, D1, D2, D3, ixO, cl0, g3, lg_self]
  · rw [if_neg q] at D0
    have D1 := c_LaboutX (d := d - 1) (by omega) D0
    obtain ⟨h1, e1⟩ : ∃ h1, h1 = xh_ h := ⟨_, rfl⟩
    have f : FX_ [] [] h h1 := by rw [e1]; exact fx_xh
    have n1 : nx_ h1 = nx_ h + 1 ∧ sl_ h1 = sl_ h + 6 := by rw [e1]; exact ⟨rfl, rfl⟩
    rw [← e1] at D1
    have hC1 := hC.fx f (by decide) (fun a _ => Or.inr (by rw [e1]; rfl))
    have hM1 := hM.mk (f.mk c9 (by decide))
    obtain ⟨Hm, hMB, -, hHm⟩ := MB_of hM1 hp'
    obtain ⟨h2, kh, k2⟩ := m_about (xs := xs) (d := d - 1) (v := xs (6 * n + 1)) (day := xs (6 * n + 2)) (w := xs (6 * n + 3)) hMB (by omega)
    rw [if_neg q] at k2
    obtain ⟨g2, D2⟩ := k2
    have ck := kh.ck (by decide)
    have D3 := c_thr (xs := xs) (d := d - 1) (h := h2)
    rw [g2] at D3
    refine ⟨h2, vI 1, vI 0, ⟨na, F, G, P, nf, Lf, tl, T, hp, Hd, c, wn, Od, L', hC1.ck ck, hM1.kh kh, hp', by rw [ck.2.1]; omega, by rw [ck.2.2]; omega⟩, fun Q => ?_⟩
    simp (disch := first | omega | assumption | decide | (apply bT_; decide)) only [s178_1110, s178_1111, s178_1112, s178_1114, s178_1115, s178_1116, s178_1117, s178_1118, s178_1120, s178_1121, s178_1122, s178_1123, s178_1124, s178_1126, s178_1127, s178_1128, s178_1129, s178_1130, s178_1133, s178_1135, s178_1136, s178_1137, s178_1139, s178_1140, s178_1141, s178_1142, s178_1143, s178_1145, s178_1146, s178_1147, s178_1148, s178_1149, s178_1151, s178_1152, s178_1153, s178_1154, s178_1157, s178_1159, s178_1160, s178_1163, s178_1165, s178_1168, s178_1169, s178_1170, s178_1172, s178_1175, s178_1176, s178_1177, s178_1178, s178_1180, s178_1181, s178_1182, s178_1185, s178_1186, s178_1187, K_v, K_0, acI, acA, acJ, acX, List.map_cons, List.map_nil, List.sum_cons, List.sum_nil, true_and, and_true, posT, b2_0, b2_1, bft, true_or, or_true, Nat.zero_le, Nat.reduceAdd, Nat.reduceLeDiff, hI_uI, hL_uI, hR_uI, nx_uI, sl_uI, hI_uL, hL_uL, hR_uL, nx_uL, sl_uL, hI_uR, hL_uR, hR_uR, nx_uR, sl_uR, st_eq, if_true, if_false, eq_self, Nat.reduceEqDiff, Nat.reduceMul, reduceIte, kdT, ixT, w_cl, w_ti, w_s1, w_a, w_m12, w_m8, w_m3, w_m4, hk, hl, kd_X, kd_M, kd_OUT, ad2_, ad3_, D1, D2, D3, ixO, cl0, lg_self, show ¬ ((1 : Int32) = 0) by decide]
end LAX
