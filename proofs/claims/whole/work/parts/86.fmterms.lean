/-! the model: terms -/
def KH_ (W J : List Nat) (h h' : AH) : Prop := (∀ a, a ≠ 33554440 → a ∉ W → hI_ h' a = hI_ h a) ∧ (∀ j, j ∉ J → hI_ h' 33554440 j = hI_ h 33554440 j) ∧ (∀ a, a ≠ 33554440 → hL_ h' a = hL_ h a) ∧ (∀ a, a ≠ 33554440 → hR_ h' a = hR_ h a) ∧ (∀ j, j ≠ 48 → hR_ h' 33554440 j = hR_ h 33554440 j) ∧ nx_ h' = nx_ h ∧ sl_ h' = sl_ h
def MG_ (L : List Trm_) (h : AH) : Prop := ∃ (B : Nat → Int32) (N : Nat), TX_ B N 40945681 h ∧ hI_ h 33554440 60 = Int32.ofNat N ∧ hI_ h 33554440 41 = Int32.ofNat L.length ∧ L.length ≤ 10 ∧ (∀ i, i < L.length → hI_ h 41157264 i = Int32.ofNat (L.getD i dT_).1 ∧ hI_ h 41419408 i = (L.getD i dT_).2.1 ∧ hI_ h 41681552 i = Int32.ofNat (enk_ B N (ps_ B N (L.getD i dT_).2.2.2))) ∧ ∀ t, t ∈ L → okt_ (stk_ B N) (vlk_ B N) t
section MTS
variable {xs : Nat → Int32} {d : Nat} {h x y : AH} {B : Nat → Int32} {N k i c : Nat} {L : List Trm_} {W J : List Nat}
theorem KH_.rf : KH_ W J h h := ⟨fun _ _ _ => rfl, fun _ _ => rfl, fun _ _ => rfl, fun _ _ => rfl, fun _ _ => rfl, rfl, rfl⟩
theorem KH_.tr (f : KH_ W J h x) (g : KH_ W J x y) : KH_ W J h y := ⟨fun a q r => (g.1 a q r).trans (f.1 a q r), fun j q => (g.2.1 j q).trans (f.2.1 j q), fun a q => (g.2.2.1 a q).trans (f.2.2.1 a q), fun a q => (g.2.2.2.1 a q).trans (f.2.2.2.1 a q), fun j q => (g.2.2.2.2.1 j q).trans (f.2.2.2.2.1 j q), g.2.2.2.2.2.1.trans f.2.2.2.2.2.1, g.2.2.2.2.2.2.trans f.2.2.2.2.2.2⟩
theorem KH_.mono {W' J' : List Nat} (f : KH_ W J h x) (hW : ∀ a ∈ W, a ∈ W') (hJ : ∀ a ∈ J, a ∈ J') : KH_ W' J' h x := ⟨fun a q r => f.1 a q (fun z => r (hW a z)), fun j q => f.2.1 j (fun z => q (hJ j z)), f.2.2⟩
theorem FM_.kh (f : FM_ W J h x) : KH_ W J h x := ⟨f.2.2.2.2.1, f.2.2.2.2.2, fun a _ => by rw [f.1], fun a _ => by rw [f.2.1], fun j _ => by rw [f.2.1], f.2.2.1, f.2.2.2.1⟩
theorem KH_.ms (f : KH_ W J h x) (H : MS_ h) : MS_ x := by
  have g := f.2.2.2.2.1
  unfold MS_ at H ⊢
  simp (disch := decide) only [g]
  exact H
theorem KH_.uM {j : Nat} {v : Int32} (f : KH_ W J h x) (hj : j ∈ J) : KH_ W J h (uI_ x 33554440 (st_ (hI_ x 33554440) j v)) := by
  obtain ⟨f1, f2, f3⟩ := f
  refine ⟨fun a h1 h2 => ?_, fun k hk => ?_, f3⟩
  · rw [hI_uI, if_neg h1]; exact f1 a h1 h2
  · rw [hI_uI, if_pos rfl, st_eq, if_neg (fun (e : k = j) => hk (e ▸ hj))]; exact f2 k hk
theorem KH_.uW {a : Nat} {r : Nat → Int32} (f : KH_ W J h x) (ha : a ∈ W) (hM : a ≠ 33554440) : KH_ W J h (uI_ x a r) := by
  obtain ⟨f1, f2, f3⟩ := f
  refine ⟨fun b h1 h2 => ?_, fun k hk => ?_, f3⟩
  · rw [hI_uI, if_neg (fun (e : b = a) => h2 (e ▸ ha))]; exact f1 b h1 h2
  · rw [hI_uI, if_neg (fun z => hM z.symm)]; exact f2 k hk
theorem m_starts (hM : MS_ x) (hT : TX_ B N c x) (hc : c = 40683537 ∨ c = 40945681) (hi : i ≤ N) (hd : 8 ≤ d) : ∃ r, NR_ B N (tp_ B N i) r ∧ r 49 = Int32.ofNat N ∧ (∀ j, j ∉ [49, 50, 51, 52, 53] → r j = hI_ x 33554440 j) ∧ Do_ xs d 155 [vA (some 33554440), vA (some c), vI (Int32.ofNat N), vI (Int32.ofNat i)] x (some none) (uI_ (uR_ x 33554440 (st_ (hR_ x 33554440) 48 (some c))) 33554440 r) := by
  have hcM : c ≠ 33554440 := by rcases hc with z | z <;> rw [z] <;> decide
  obtain ⟨x1, hx1⟩ : ∃ x1, x1 = uI_ (uR_ x 33554440 (st_ (hR_ x 33554440) 48 (some c))) 33554440 (st_ (st_ (hI_ x 33554440) 49 (Int32.ofNat N)) 50 (Int32.ofNat i)) := ⟨_, rfl⟩
  have hR1 : RW_ B N c x1 := by
    rw [hx1]
    exact ⟨⟨hT.1, fun j hj => by simp only [hI_uI, hL_uI, hR_uI, nx_uI, sl_uI, hI_uL, hL_uL, hR_uL, nx_uL, sl_uL, hI_uR, hL_uR, hR_uR, nx_uR, sl_uR, st_eq, if_true, if_false, eq_self, Nat.reduceEqDiff, Nat.reduceMul, reduceIte, kdT, ixT, w_cl, w_ti, w_s1, w_a, w_m12, w_m8, w_m3, w_m4, hcM]; exact hT.2 j hj⟩, by simp only [hI_uI, hL_uI, hR_uI, nx_uI, sl_uI, hI_uL, hL_uL, hR_uL, nx_uL, sl_uL, hI_uR, hL_uR, hR_uR, nx_uR, sl_uR, st_eq, if_true, if_false, eq_self, Nat.reduceEqDiff, Nat.reduceMul, reduceIte, kdT, ixT, w_cl, w_ti, w_s1, w_a, w_m12, w_m8, w_m3, w_m4], by simp only [hI_uI, hL_uI, hR_uI, nx_uI, sl_uI, hI_uL, hL_uL, hR_uL, nx_uL, sl_uL, hI_uR, hL_uR, hR_uR, nx_uR, sl_uR, st_eq, if_true, if_false, eq_self, Nat.reduceEqDiff, Nat.reduceMul, reduceIte, kdT, ixT, w_cl, w_ti, w_s1, w_a, w_m12, w_m8, w_m3, w_m4], hc⟩
  obtain ⟨r, a1, a2, a3⟩ := c_next (xs := xs) (d := d - 1) (x := x1) (i := i) hR1 hi (by rw [hx1]; simp only [hI_uI, hL_uI, hR_uI, nx_uI, sl_uI, hI_uL, hL_uL, hR_uL, nx_uL, sl_uL, hI_uR, hL_uR, hR_uR, nx_uR, sl_uR, st_eq, if_true, if_false, eq_self, Nat.reduceEqDiff, Nat.reduceMul, reduceIte, kdT, ixT, w_cl, w_ti, w_s1, w_a, w_m12, w_m8, w_m3, w_m4]) (by omega)
  refine ⟨r, a1, ?_, fun j hj => ?_, fun Q => ?_⟩
  · rw [a2 49 (by decide), hx1]; simp only [hI_uI, hL_uI, hR_uI, nx_uI, sl_uI, hI_uL, hL_uL, hR_uL, nx_uL, sl_uL, hI_uR, hL_uR, hR_uR, nx_uR, sl_uR, st_eq, if_true, if_false, eq_self, Nat.reduceEqDiff, Nat.reduceMul, reduceIte, kdT, ixT, w_cl, w_ti, w_s1, w_a, w_m12, w_m8, w_m3, w_m4]
  · rw [a2 j (fun z => hj (by revert z; simp only [List.mem_cons, List.not_mem_nil, or_false]; omega)), hx1]
    simp only [List.mem_cons, List.not_mem_nil, or_false, not_or] at hj
    simp only [hI_uI, if_true]
    rw [st_eq, st_eq, if_neg hj.2.1, if_neg hj.1]
  · rw [hx1] at a3
    rw [uI_uI] at a3
    simp (disch := first | omega | assumption | decide | (apply bT_; decide)) only [s155_0, s155_1, s155_2, s155_5, s155_6, s155_7, s155_10, s155_11, s155_12, s155_15, s155_16, s155_19, K_v, K_0, acI, acA, acJ, acX, List.map_cons, List.map_nil, List.sum_cons, List.sum_nil, true_and, and_true, posT, b2_0, b2_1, bft, true_or, or_true, Nat.zero_le, Nat.reduceAdd, Nat.reduceLeDiff, hI_uI, hL_uI, hR_uI, nx_uI, sl_uI, hI_uL, hL_uL, hR_uL, nx_uL, sl_uL, hI_uR, hL_uR, hR_uR, nx_uR, sl_uR, st_eq, if_true, if_false, eq_self, Nat.reduceEqDiff, Nat.reduceMul, reduceIte, kdT, ixT, w_cl, w_ti, w_s1, w_a, w_m12, w_m8, w_m3, w_m4, uI_uI, a3, kd_M, ln_M]
theorem m_termsL (hR : RW_ B N 40683537 h) (hM : MS_ h) (h56 : hI_ h 33554440 56 = 1) (hd : 38 ≤ d) : ∀ (m k : Nat) (L : List Trm_) (y : AH), L.length + m = 11 → k ≤ N → TS_ h B N k L y → ∃ y', FM_ tw_ tj_ h y' ∧ (∀ c k1, pts_ (stk_ B N) (vlk_ B N) m L k = .inl (c, k1) → hI_ y' 33554440 54 = Int32.ofNat c ∧ hI_ y' 33554440 55 = Int32.ofNat (ps_ B N k1) ∧ (c = 1 ∨ c = 2)) ∧ (∀ L', pts_ (stk_ B N) (vlk_ B N) m L k = .inr L' → hI_ y' 33554440 54 = 0 ∧ TA_ B N L' y') ∧ ∀ Q, V_ xs d 166 38 [vA (some 33554440), vX 0, vX 0] [] y Q ↔ V_ xs d 166 59 [vA (some 33554440), vX 0, vX 0] [] y' Q := by
  intro m
  induction m with
  | zero =>
    intro k L y hm hk H
    have := H.2.2.2.2.1
    omega
  | succ m ih =>
    intro k L y hm hk H
    have n3 : hI_ y 33554440 52 = Int32.ofNat (stk_ B N k) := H.2.1.2.2.1
    have h54 := H.2.2.1
    have hl := stk_lt (B := B) (N := N) (k := k)
    have es : pts_ (stk_ B N) (vlk_ B N) (m + 1) L k = if stk_ B N k = 0 then .inr L else (match ptm_ (stk_ B N) (vlk_ B N) L.length k with | .inl x => .inl x | .inr (t, k1) => pts_ (stk_ B N) (vlk_ B N) m (L ++ [t]) k1) := rfl
    rw [es]
    by_cases q : stk_ B N k = 0
    · rw [if_pos q]
      have t0 : Int32.ofNat (stk_ B N k) = 0 := by rw [q]; rfl
      refine ⟨y, H.1, fun c k1 z => (by cases z), fun L' z => ?_, fun Q => ?_⟩
      · injection z with z
        rw [← z]
        exact ⟨h54, H.2.2.2⟩
      · rw [s166_38]
        simp (disch := first | omega | assumption | decide | (apply bT_; decide)) only [s166_0, s166_1, s166_2, s166_5, s166_6, s166_7, s166_10, s166_11, s166_12, s166_15, s166_16, s166_17, s166_20, s166_21, s166_22, s166_25, s166_26, s166_27, s166_30, s166_31, s166_34, s166_35, s166_39, s166_42, s166_45, s166_46, s166_49, s166_53, s166_56, s166_60, s166_63, s166_64, s166_65, s166_66, s166_69, s166_70, s166_73, s166_76, s166_77, s166_80, s166_82, s166_83, s166_86, s166_87, s166_88, s166_89, s166_90, s166_91, s166_92, s166_93, s166_96, s166_97, s166_100, s166_101, s166_102, s166_105, s166_106, s166_107, s166_108, s166_111, s166_114, s166_115, s166_116, s166_119, s166_120, s166_121, s166_124, s166_127, s166_128, s166_129, s166_130, s166_131, s166_134, s166_137, s166_138, s166_141, s166_142, s166_143, s166_146, s166_147, s166_148, s166_149, s166_150, s166_153, s166_154, s166_155, s166_158, s166_159, s166_160, s166_161, s166_162, s166_165, s166_166, s166_167, s166_170, s166_171, s166_172, s166_173, s166_176, s166_179, s166_180, K_v, K_0, acI, acA, acJ, acX, List.map_cons, List.map_nil, List.sum_cons, List.sum_nil, true_and, and_true, posT, b2_0, b2_1, bft, true_or, or_true, Nat.zero_le, Nat.reduceAdd, Nat.reduceLeDiff, hI_uI, hL_uI, hR_uI, nx_uI, sl_uI, hI_uL, hL_uL, hR_uL, nx_uL, sl_uL, hI_uR, hL_uR, hR_uR, nx_uR, sl_uR, st_eq, if_true, if_false, eq_self, Nat.reduceEqDiff, Nat.reduceMul, reduceIte, kdT, ixT, w_cl, w_ti, w_s1, w_a, w_m12, w_m8, w_m3, w_m4, h54, n3, if_pos t0, kd_M, ln_M]
    · rw [if_neg q]
      have t0 : ¬ (Int32.ofNat (stk_ B N k) = 0) := fun z => q ((w_eq (b := 0) (by omega) (by omega)).mp z)
      have hT := m_term (xs := xs) (d := d - 1) hR hM h56 hk H (by omega)
      have hP := ptm_ok (S := stk_ B N) (W := vlk_ B N) (c0 := L.length) (stk_0 (B := B)) (vlk_nat (B := B) (N := N)) (fun k => stk_lt) hk
      cases hr : ptm_ (stk_ B N) (vlk_ B N) L.length k with
      | inl z =>
        obtain ⟨c, k1⟩ := z
        rw [hr] at hT
        obtain ⟨y', a1, a2, a3, a4, a5⟩ := hT
        dsimp only at a5
        have n0 : ¬ (Int32.ofNat c = 0) := fun z => by
          have := (w_eq (b := 0) (by omega) (by omega)).mp z
          omega
        refine ⟨y', a1, fun c' k' z => ?_, fun L' z => (by cases z), fun Q => ?_⟩
        · injection z with z
          injection z with z1 z2
          rw [← z1, ← z2]
          exact ⟨a2, a3, a4⟩
        · rw [s166_38]
          simp (disch := first | omega | assumption | decide | (apply bT_; decide)) only [s166_0, s166_1, s166_2, s166_5, s166_6, s166_7, s166_10, s166_11, s166_12, s166_15, s166_16, s166_17, s166_20, s166_21, s166_22, s166_25, s166_26, s166_27, s166_30, s166_31, s166_34, s166_35, s166_39, s166_42, s166_45, s166_46, s166_49, s166_52, s166_53, s166_56, s166_60, s166_63, s166_64, s166_65, s166_66, s166_69, s166_70, s166_73, s166_76, s166_77, s166_80, s166_82, s166_83, s166_86, s166_87, s166_88, s166_89, s166_90, s166_91, s166_92, s166_93, s166_96, s166_97, s166_100, s166_101, s166_102, s166_105, s166_106, s166_107, s166_108, s166_111, s166_114, s166_115, s166_116, s166_119, s166_120, s166_121, s166_124, s166_127, s166_128, s166_129, s166_130, s166_131, s166_134, s166_137, s166_138, s166_141, s166_142, s166_143, s166_146, s166_147, s166_148, s166_149, s166_150, s166_153, s166_154, s166_155, s166_158, s166_159, s166_160, s166_161, s166_162, s166_165, s166_166, s166_167, s166_170, s166_171, s166_172, s166_173, s166_176, s166_179, s166_180, K_v, K_0, acI, acA, acJ, acX, List.map_cons, List.map_nil, List.sum_cons, List.sum_nil, true_and, and_true, posT, b2_0, b2_1, bft, true_or, or_true, Nat.zero_le, Nat.reduceAdd, Nat.reduceLeDiff, hI_uI, hL_uI, hR_uI, nx_uI, sl_uI, hI_uL, hL_uL, hR_uL, nx_uL, sl_uL, hI_uR, hL_uR, hR_uR, nx_uR, sl_uR, st_eq, if_true, if_false, eq_self, Nat.reduceEqDiff, Nat.reduceMul, reduceIte, kdT, ixT, w_cl, w_ti, w_s1, w_a, w_m12, w_m8, w_m3, w_m4, h54, n3, if_neg t0, a5, kd_M, ln_M]
          rw [s166_38]
          simp (disch := first | omega | assumption | decide | (apply bT_; decide)) only [s166_0, s166_1, s166_2, s166_5, s166_6, s166_7, s166_10, s166_11, s166_12, s166_15, s166_16, s166_17, s166_20, s166_21, s166_22, s166_25, s166_26, s166_27, s166_30, s166_31, s166_34, s166_35, s166_39, s166_42, s166_46, s166_49, s166_52, s166_53, s166_56, s166_60, s166_63, s166_64, s166_65, s166_66, s166_69, s166_70, s166_73, s166_76, s166_77, s166_80, s166_82, s166_83, s166_86, s166_87, s166_88, s166_89, s166_90, s166_91, s166_92, s166_93, s166_96, s166_97, s166_100, s166_101, s166_102, s166_105, s166_106, s166_107, s166_108, s166_111, s166_114, s166_115, s166_116, s166_119, s166_120, s166_121, s166_124, s166_127, s166_128, s166_129, s166_130, s166_131, s166_134, s166_137, s166_138, s166_141, s166_142, s166_143, s166_146, s166_147, s166_148, s166_149, s166_150, s166_153, s166_154, s166_155, s166_158, s166_159, s166_160, s166_161, s166_162, s166_165, s166_166, s166_167, s166_170, s166_171, s166_172, s166_173, s166_176, s166_179, s166_180, K_v, K_0, acI, acA, acJ, acX, List.map_cons, List.map_nil, List.sum_cons, List.sum_nil, true_and, and_true, posT, b2_0, b2_1, bft, true_or, or_true, Nat.zero_le, Nat.reduceAdd, Nat.reduceLeDiff, hI_uI, hL_uI, hR_uI, nx_uI, sl_uI, hI_uL, hL_uL, hR_uL, nx_uL, sl_uL, hI_uR, hL_uR, hR_uR, nx_uR, sl_uR, st_eq, if_true, if_false, eq_self, Nat.reduceEqDiff, Nat.reduceMul, reduceIte, kdT, ixT, w_cl, w_ti, w_s1, w_a, w_m12, w_m8, w_m3, w_m4, a2, n0, kd_M, ln_M]
      | inr z =>
        obtain ⟨t, k1⟩ := z
        rw [hr] at hT
        obtain ⟨y', a1, a2⟩ := hT
        dsimp only at a2
        have hk1 := (hP.2 t k1 hr).1
        obtain ⟨y2, b1, b2, b3, b4⟩ := ih k1 (L ++ [t]) y' (by rw [List.length_append]; show L.length + 1 + m = 11; omega) hk1 a1
        refine ⟨y2, b1, b2, b3, fun Q => Iff.trans ?_ (b4 Q)⟩
        rw [s166_38]
        simp (disch := first | omega | assumption | decide | (apply bT_; decide)) only [s166_0, s166_1, s166_2, s166_5, s166_6, s166_7, s166_10, s166_11, s166_12, s166_15, s166_16, s166_17, s166_20, s166_21, s166_22, s166_25, s166_26, s166_27, s166_30, s166_31, s166_34, s166_35, s166_39, s166_42, s166_45, s166_46, s166_49, s166_52, s166_53, s166_56, s166_60, s166_63, s166_64, s166_65, s166_66, s166_69, s166_70, s166_73, s166_76, s166_77, s166_80, s166_82, s166_83, s166_86, s166_87, s166_88, s166_89, s166_90, s166_91, s166_92, s166_93, s166_96, s166_97, s166_100, s166_101, s166_102, s166_105, s166_106, s166_107, s166_108, s166_111, s166_114, s166_115, s166_116, s166_119, s166_120, s166_121, s166_124, s166_127, s166_128, s166_129, s166_130, s166_131, s166_134, s166_137, s166_138, s166_141, s166_142, s166_143, s166_146, s166_147, s166_148, s166_149, s166_150, s166_153, s166_154, s166_155, s166_158, s166_159, s166_160, s166_161, s166_162, s166_165, s166_166, s166_167, s166_170, s166_171, s166_172, s166_173, s166_176, s166_179, s166_180, K_v, K_0, acI, acA, acJ, acX, List.map_cons, List.map_nil, List.sum_cons, List.sum_nil, true_and, and_true, posT, b2_0, b2_1, bft, true_or, or_true, Nat.zero_le, Nat.reduceAdd, Nat.reduceLeDiff, hI_uI, hL_uI, hR_uI, nx_uI, sl_uI, hI_uL, hL_uL, hR_uL, nx_uL, sl_uL, hI_uR, hL_uR, hR_uR, nx_uR, sl_uR, st_eq, if_true, if_false, eq_self, Nat.reduceEqDiff, Nat.reduceMul, reduceIte, kdT, ixT, w_cl, w_ti, w_s1, w_a, w_m12, w_m8, w_m3, w_m4, h54, n3, if_neg t0, a2, kd_M, ln_M]
abbrev mtw_ : List Nat := [41943696, 42205840, 42467984, 40945681, 41157264, 41419408, 41681552]
abbrev mtjA_ : List Nat := [0, 39, 49, 50, 51, 52, 53, 54, 55, 56, 59]
abbrev mtj_ : List Nat := [0, 39, 41, 49, 50, 51, 52, 53, 54, 55, 56, 59, 60]
theorem MG_.kh {W J : List Nat} {h1 : AH} (f : KH_ W J h h1) (hW : 40945681 ∉ W ∧ 41157264 ∉ W ∧ 41419408 ∉ W ∧ 41681552 ∉ W) (hJ : 60 ∉ J ∧ 41 ∉ J) (H : MG_ L h) : MG_ L h1 := by
  obtain ⟨B, N, a1, a2, a3, a4, a5, a6⟩ := H
  refine ⟨B, N, ⟨a1.1, fun i hi => by rw [f.1 _ (by decide) hW.1]; exact a1.2 i hi⟩, by rw [f.2.1 60 hJ.1]; exact a2, by rw [f.2.1 41 hJ.2]; exact a3, a4, fun i hi => ?_, a6⟩
  rw [f.1 _ (by decide) hW.2.1, f.1 _ (by decide) hW.2.2.1, f.1 _ (by decide) hW.2.2.2]
  exact a5 i hi
theorem m_terms {tl : Nat} {T : Nat → Int32} (hM : MS_ h) (hT : MT_ tl T h) (hb : ∀ i, i < tl → nb_ 4 (T i) = true) (hG : MG_ L h) (hps : (∀ c k, ptx_ T tl = .inl (c, k) → c = 1 ∨ c = 2) ∧ (∀ L', ptx_ T tl = .inr L' → ∀ t, t ∈ L' → okt_ (stk_ T tl) (vlk_ T tl) t)) (hd : 40 ≤ d) : ∃ h', KH_ mtw_ mtj_ h h' ∧ Do_ xs d 166 [vA (some 33554440), vX 0, vX 0] h (some (some (vI (rda_ T tl (ptx_ T tl))))) h' ∧ MT_ 0 T h' ∧ MG_ (agrd_ T tl L) h' := by
  obtain ⟨e39, e8, eT⟩ := id hT
  obtain ⟨r0, hr0⟩ : ∃ r0, r0 = st_ (st_ (st_ (st_ (st_ (hI_ h 33554440) 0 0) 54 0) 55 0) 59 0) 56 1 := ⟨_, rfl⟩
  have k0 : KH_ tw_ mtjA_ h (uI_ h 33554440 r0) := by
    have f1 := (KH_.rf (W := tw_) (J := mtjA_) (h := h)).uM (j := 0) (v := 0) (by decide)
    have f2 := f1.uM (j := 54) (v := 0) (by decide)
    have f3 := f2.uM (j := 55) (v := 0) (by decide)
    have f4 := f3.uM (j := 59) (v := 0) (by decide)
    have f5 := f4.uM (j := 56) (v := 1) (by decide)
    simp only [hI_uI, hL_uI, hR_uI, nx_uI, sl_uI, hI_uL, hL_uL, hR_uL, nx_uL, sl_uL, hI_uR, hL_uR, hR_uR, nx_uR, sl_uR, st_eq, if_true, if_false, eq_self, Nat.reduceEqDiff, Nat.reduceMul, reduceIte, kdT, ixT, w_cl, w_ti, w_s1, w_a, w_m12, w_m8, w_m3, w_m4, uI_uI] at f5
    rw [hr0]
    exact f5
  have hM0 : MS_ (uI_ h 33554440 r0) := k0.ms hM
  have hTX : TX_ T tl 40683537 (uI_ h 33554440 r0) := ⟨e8, fun i hi => by simp only [hI_uI, hL_uI, hR_uI, nx_uI, sl_uI, hI_uL, hL_uL, hR_uL, nx_uL, sl_uL, hI_uR, hL_uR, hR_uR, nx_uR, sl_uR, st_eq, if_true, if_false, eq_self, Nat.reduceEqDiff, Nat.reduceMul, reduceIte, kdT, ixT, w_cl, w_ti, w_s1, w_a, w_m12, w_m8, w_m3, w_m4]; exact eT i hi⟩
  obtain ⟨r, a1, a2, a3, a4⟩ := m_starts (xs := xs) (d := d - 1) (i := 0) hM0 hTX (Or.inl rfl) (Nat.zero_le _) (by omega)
  obtain ⟨h1, hh1⟩ : ∃ h1, h1 = uI_ (uR_ (uI_ h 33554440 r0) 33554440 (st_ (hR_ (uI_ h 33554440 r0) 33554440) 48 (some 40683537))) 33554440 r := ⟨_, rfl⟩
  rw [← hh1] at a4
  have eM1 : hI_ h1 33554440 = r := by rw [hh1]; simp only [hI_uI, hL_uI, hR_uI, nx_uI, sl_uI, hI_uL, hL_uL, hR_uL, nx_uL, sl_uL, hI_uR, hL_uR, hR_uR, nx_uR, sl_uR, st_eq, if_true, if_false, eq_self, Nat.reduceEqDiff, Nat.reduceMul, reduceIte, kdT, ixT, w_cl, w_ti, w_s1, w_a, w_m12, w_m8, w_m3, w_m4]
  have k1 : KH_ tw_ mtjA_ h h1 := by
    refine k0.tr ?_
    rw [hh1]
    refine ⟨fun a q _ => by rw [hI_uI, if_neg q]; rfl, fun j hj => ?_, fun _ _ => rfl, fun a q => by rw [hR_uI, hR_uR, if_neg q], fun j hj => by rw [hR_uI, hR_uR, if_pos rfl, st_eq, if_neg hj], rfl, rfl⟩
    rw [hI_uI, if_pos rfl]
    exact a3 j (fun z => hj (by revert z; simp only [List.mem_cons, List.not_mem_nil, or_false]; omega))
  have hM1 : MS_ h1 := k1.ms hM
  have hR1 : RW_ T tl 40683537 h1 := ⟨⟨e8, fun i hi => by rw [k1.1 _ (by decide) (by decide)]; exact eT i hi⟩, by rw [hh1]; simp only [hI_uI, hL_uI, hR_uI, nx_uI, sl_uI, hI_uL, hL_uL, hR_uL, nx_uL, sl_uL, hI_uR, hL_uR, hR_uR, nx_uR, sl_uR, st_eq, if_true, if_false, eq_self, Nat.reduceEqDiff, Nat.reduceMul, reduceIte, kdT, ixT, w_cl, w_ti, w_s1, w_a, w_m12, w_m8, w_m3, w_m4], by rw [eM1]; exact a2, Or.inl rfl⟩
  have h56 : hI_ h1 33554440 56 = 1 := by rw [eM1, a3 56 (by decide), hr0]; simp only [hI_uI, hL_uI, hR_uI, nx_uI, sl_uI, hI_uL, hL_uL, hR_uL, nx_uL, sl_uL, hI_uR, hL_uR, hR_uR, nx_uR, sl_uR, st_eq, if_true, if_false, eq_self, Nat.reduceEqDiff, Nat.reduceMul, reduceIte, kdT, ixT, w_cl, w_ti, w_s1, w_a, w_m12, w_m8, w_m3, w_m4]
  have S0 : TS_ h1 T tl 0 [] h1 := ⟨FM_.rf, by rw [eM1]; exact a1, by rw [eM1, a3 54 (by decide), hr0]; simp only [hI_uI, hL_uI, hR_uI, nx_uI, sl_uI, hI_uL, hL_uL, hR_uL, nx_uL, sl_uL, hI_uR, hL_uR, hR_uR, nx_uR, sl_uR, st_eq, if_true, if_false, eq_self, Nat.reduceEqDiff, Nat.reduceMul, reduceIte, kdT, ixT, w_cl, w_ti, w_s1, w_a, w_m12, w_m8, w_m3, w_m4], by rw [eM1, a3 59 (by decide), hr0]; simp only [hI_uI, hL_uI, hR_uI, nx_uI, sl_uI, hI_uL, hL_uL, hR_uL, nx_uL, sl_uL, hI_uR, hL_uR, hR_uR, nx_uR, sl_uR, st_eq, if_true, if_false, eq_self, Nat.reduceEqDiff, Nat.reduceMul, reduceIte, kdT, ixT, w_cl, w_ti, w_s1, w_a, w_m12, w_m8, w_m3, w_m4]; rfl, by decide, fun i hi => absurd hi (Nat.not_lt_zero _)⟩
  obtain ⟨y, b1, b2, b3, b4⟩ := m_termsL (xs := xs) (d := d) hR1 hM1 h56 (by omega) 11 0 [] h1 (by decide) (Nat.zero_le _) S0
  have ky : KH_ tw_ mtjA_ h y := k1.tr (b1.kh.mono (by decide) (by decide))
  have hMy : MS_ y := ky.ms hM
  have y39 : hI_ y 33554440 39 = Int32.ofNat tl := by rw [b1.fld 39 (by decide), eM1, a3 39 (by decide), hr0]; simp only [hI_uI, hL_uI, hR_uI, nx_uI, sl_uI, hI_uL, hL_uL, hR_uL, nx_uL, sl_uL, hI_uR, hL_uR, hR_uR, nx_uR, sl_uR, st_eq, if_true, if_false, eq_self, Nat.reduceEqDiff, Nat.reduceMul, reduceIte, kdT, ixT, w_cl, w_ti, w_s1, w_a, w_m12, w_m8, w_m3, w_m4]; exact e39
  have way : ∀ Q, V_ xs d 166 0 [vA (some 33554440), vX 0, vX 0] [] h Q ↔ V_ xs d 166 59 [vA (some 33554440), vX 0, vX 0] [] y Q := by
    intro Q
    refine Iff.trans ?_ (b4 Q)
    have r38 := hM0.r38
    rw [hr0] at a4 r38
    have e39' : (st_ (st_ (st_ (st_ (st_ (hI_ h 33554440) 0 0) 54 0) 55 0) 59 0) 56 1) 39 = Int32.ofNat tl := by simp only [hI_uI, hL_uI, hR_uI, nx_uI, sl_uI, hI_uL, hL_uL, hR_uL, nx_uL, sl_uL, hI_uR, hL_uR, hR_uR, nx_uR, sl_uR, st_eq, if_true, if_false, eq_self, Nat.reduceEqDiff, Nat.reduceMul, reduceIte, kdT, ixT, w_cl, w_ti, w_s1, w_a, w_m12, w_m8, w_m3, w_m4]; exact e39
    have a4' : ∀ Q : OU_ → AH → Prop, V_ xs (d - 1) 155 0 [vA (some 33554440), vA (some 40683537), vI (Int32.ofNat tl), vI 0] [] (uI_ h 33554440 (st_ (st_ (st_ (st_ (st_ (hI_ h 33554440) 0 0) 54 0) 55 0) 59 0) 56 1)) Q ↔ Q (some none) h1 := a4
    have nb31 : nb_ 3 1 = true := by decide
    simp (disch := first | omega | assumption | decide | (apply bT_; decide)) only [s166_0, s166_1, s166_2, s166_5, s166_6, s166_7, s166_10, s166_11, s166_12, s166_15, s166_16, s166_17, s166_20, s166_21, s166_22, s166_25, s166_26, s166_27, s166_30, s166_31, s166_34, s166_35, s166_39, s166_42, s166_45, s166_46, s166_49, s166_52, s166_53, s166_56, s166_59, s166_60, s166_63, s166_64, s166_65, s166_66, s166_69, s166_70, s166_73, s166_76, s166_77, s166_80, s166_82, s166_83, s166_86, s166_87, s166_88, s166_89, s166_90, s166_91, s166_92, s166_93, s166_96, s166_97, s166_100, s166_101, s166_102, s166_105, s166_106, s166_107, s166_108, s166_111, s166_114, s166_115, s166_116, s166_119, s166_120, s166_121, s166_124, s166_127, s166_128, s166_129, s166_130, s166_131, s166_134, s166_137, s166_138, s166_141, s166_142, s166_143, s166_146, s166_147, s166_148, s166_149, s166_150, s166_153, s166_154, s166_155, s166_158, s166_159, s166_160, s166_161, s166_162, s166_165, s166_166, s166_167, s166_170, s166_171, s166_172, s166_173, s166_176, s166_179, s166_180, K_v, K_0, acI, acA, acJ, acX, List.map_cons, List.map_nil, List.sum_cons, List.sum_nil, true_and, and_true, posT, b2_0, b2_1, bft, true_or, or_true, Nat.zero_le, Nat.reduceAdd, Nat.reduceLeDiff, hI_uI, hL_uI, hR_uI, nx_uI, sl_uI, hI_uL, hL_uL, hR_uL, nx_uL, sl_uL, hI_uR, hL_uR, hR_uR, nx_uR, sl_uR, st_eq, if_true, if_false, eq_self, Nat.reduceEqDiff, Nat.reduceMul, reduceIte, kdT, ixT, w_cl, w_ti, w_s1, w_a, w_m12, w_m8, w_m3, w_m4, hM.r2, hM.r3, hM.r4, hM.r5, hM.r6, hM.r7, hM.r9, hM.r10, hM.r11, hM.r12, hM.r13, hM.r14, hM.r15, hM.r16, hM.r17, hM.r18, hM.r20, hM.r21, hM.r23, hM.r29, hM.r30, hM.r35, hM.r36, hM.r37, hM.r38, hM.r40, hM.r42, hM.r43, hM.r44, hM.r45, hM.r46, hM.r47, uI_uI, e39, a4', nb31, kd_M, ln_M]
  cases hr : ptx_ T tl with
  | inl z =>
    obtain ⟨c, k1'⟩ := z
    obtain ⟨c1, c2, c3⟩ := b2 c k1' hr
    have n0 : ¬ (Int32.ofNat c = 0) := fun z => by
      have := (w_eq (b := 0) (by omega) (by omega)).mp z
      omega
    refine ⟨uI_ y 33554440 (st_ (hI_ y 33554440) 39 0), (ky.uM (by decide)).mono (by decide) (by decide), fun Q => (way Q).trans ?_, ⟨by simp only [hI_uI, hL_uI, hR_uI, nx_uI, sl_uI, hI_uL, hL_uL, hR_uL, nx_uL, sl_uL, hI_uR, hL_uR, hR_uR, nx_uR, sl_uR, st_eq, if_true, if_false, eq_self, Nat.reduceEqDiff, Nat.reduceMul, reduceIte, kdT, ixT, w_cl, w_ti, w_s1, w_a, w_m12, w_m8, w_m3, w_m4]; rfl, by decide, fun i hi => absurd hi (Nat.not_lt_zero _)⟩, ?_⟩
    · rw [s166_59]
      simp (disch := first | omega | assumption | decide | (apply bT_; decide)) only [s166_0, s166_1, s166_2, s166_5, s166_6, s166_7, s166_10, s166_11, s166_12, s166_15, s166_16, s166_17, s166_20, s166_21, s166_22, s166_25, s166_26, s166_27, s166_30, s166_31, s166_34, s166_35, s166_39, s166_42, s166_45, s166_46, s166_49, s166_52, s166_53, s166_56, s166_60, s166_63, s166_64, s166_65, s166_66, s166_69, s166_70, s166_73, s166_76, s166_77, s166_80, s166_82, s166_83, s166_86, s166_87, s166_88, s166_90, s166_91, s166_92, s166_93, s166_96, s166_97, s166_100, s166_101, s166_102, s166_105, s166_106, s166_107, s166_108, s166_111, s166_114, s166_115, s166_116, s166_119, s166_120, s166_121, s166_124, s166_127, s166_128, s166_129, s166_130, s166_131, s166_134, s166_137, s166_138, s166_141, s166_142, s166_143, s166_146, s166_147, s166_148, s166_149, s166_150, s166_153, s166_154, s166_155, s166_158, s166_159, s166_160, s166_161, s166_162, s166_165, s166_166, s166_167, s166_170, s166_171, s166_172, s166_173, s166_176, s166_179, s166_180, K_v, K_0, acI, acA, acJ, acX, List.map_cons, List.map_nil, List.sum_cons, List.sum_nil, true_and, and_true, posT, b2_0, b2_1, bft, true_or, or_true, Nat.zero_le, Nat.reduceAdd, Nat.reduceLeDiff, hI_uI, hL_uI, hR_uI, nx_uI, sl_uI, hI_uL, hL_uL, hR_uL, nx_uL, sl_uL, hI_uR, hL_uR, hR_uR, nx_uR, sl_uR, st_eq, if_true, if_false, eq_self, Nat.reduceEqDiff, Nat.reduceMul, reduceIte, kdT, ixT, w_cl, w_ti, w_s1, w_a, w_m12, w_m8, w_m3, w_m4, y39, c1, c2, n0, kd_M, ln_M]
      exact Iff.rfl
    · have : agrd_ T tl L = L := by unfold agrd_; rw [hr]
      rw [this]
      exact hG.kh (ky.uM (j := 39) (v := 0) (by decide)) (by decide) (by decide)
  | inr L' =>
    obtain ⟨c1, d1, d2, d3⟩ := b3 L' hr
    have hagr : agrd_ T tl L = L' := by unfold agrd_; rw [hr]
    -- the text
    obtain ⟨y2, hy2⟩ : ∃ y2, y2 = uI_ y 33554440 (st_ (hI_ y 33554440) 39 0) := ⟨_, rfl⟩
    have ky2 : KH_ mtw_ mtj_ h y2 := by rw [hy2]; exact (ky.uM (by decide)).mono (by decide) (by decide)
    have hMy2 : MS_ y2 := ky2.ms hM
    have hk17 : kd_ 40683537 = 17 ∨ kd_ 40683537 = 18 := Or.inl rfl
    have eTy : ∀ i, i < tl → hI_ y2 40683537 i = T i := fun i hi => by rw [ky2.1 _ (by decide) (by decide)]; exact eT i hi
    obtain ⟨f, f1, f2⟩ := loopX_ (P := fun Q i (f : Nat → Int32) => V_ xs d 166 91 [vA (some 33554440), vI (Int32.ofNat tl), vI (Int32.ofNat i)] [] (uI_ y2 40945681 f) Q) (n := tl) (fun i f => ∀ j, j < i → f j = T j) (fun i f hi hI => by
      refine ⟨st_ f i (T i), fun j hj => ?_, fun Q => ?_⟩
      · rw [st_eq]
        by_cases q : j = i
        · rw [if_pos q, q]
        · rw [if_neg q]; exact hI j (by omega)
      · have e1 := eTy i hi
        have hnb : kd_ 40945681 = 17 ∧ nb_ 4 (T i) = true ∨ kd_ 40945681 = 18 ∧ nb_ 3 (T i) = true := Or.inl ⟨rfl, hb i hi⟩
        rw [s166_91]
        simp (disch := first | omega | assumption | decide | (apply bT_; decide)) only [s166_0, s166_1, s166_2, s166_5, s166_6, s166_7, s166_10, s166_11, s166_12, s166_15, s166_16, s166_17, s166_20, s166_21, s166_22, s166_25, s166_26, s166_27, s166_30, s166_31, s166_34, s166_35, s166_38, s166_39, s166_42, s166_45, s166_46, s166_49, s166_52, s166_53, s166_56, s166_59, s166_60, s166_63, s166_64, s166_65, s166_66, s166_69, s166_70, s166_73, s166_76, s166_77, s166_80, s166_82, s166_83, s166_86, s166_87, s166_88, s166_89, s166_90, s166_92, s166_93, s166_96, s166_97, s166_100, s166_101, s166_102, s166_105, s166_106, s166_107, s166_108, s166_111, s166_115, s166_116, s166_119, s166_120, s166_121, s166_124, s166_127, s166_128, s166_129, s166_130, s166_131, s166_134, s166_137, s166_138, s166_141, s166_142, s166_143, s166_146, s166_147, s166_148, s166_149, s166_150, s166_153, s166_154, s166_155, s166_158, s166_159, s166_160, s166_161, s166_162, s166_165, s166_166, s166_167, s166_170, s166_171, s166_172, s166_173, s166_176, s166_179, s166_180, K_v, K_0, acI, acA, acJ, acX, List.map_cons, List.map_nil, List.sum_cons, List.sum_nil, true_and, and_true, posT, b2_0, b2_1, bft, true_or, or_true, Nat.zero_le, Nat.reduceAdd, Nat.reduceLeDiff, hI_uI, hL_uI, hR_uI, nx_uI, sl_uI, hI_uL, hL_uL, hR_uL, nx_uL, sl_uL, hI_uR, hL_uR, hR_uR, nx_uR, sl_uR, st_eq, if_true, if_false, eq_self, Nat.reduceEqDiff, Nat.reduceMul, reduceIte, kdT, ixT, w_cl, w_ti, w_s1, w_a, w_m12, w_m8, w_m3, w_m4, hMy2.r2, hMy2.r3, hMy2.r4, hMy2.r5, hMy2.r6, hMy2.r7, hMy2.r9, hMy2.r10, hMy2.r11, hMy2.r12, hMy2.r13, hMy2.r14, hMy2.r15, hMy2.r16, hMy2.r17, hMy2.r18, hMy2.r20, hMy2.r21, hMy2.r23, hMy2.r29, hMy2.r30, hMy2.r35, hMy2.r36, hMy2.r37, hMy2.r38, hMy2.r40, hMy2.r42, hMy2.r43, hMy2.r44, hMy2.r45, hMy2.r46, hMy2.r47, hi, w_lt, e1, hk17, hnb, uI_uI, kd_M, ln_M, kd_mTape, ln_mTape, kd_mText, ln_mText]) tl 0 (hI_ y2 40945681) (by omega) (fun j hj => absurd hj (Nat.not_lt_zero _))
    -- the terms
    obtain ⟨y3, hy3⟩ : ∃ y3, y3 = uI_ (uI_ y2 40945681 f) 33554440 (st_ (st_ (hI_ y2 33554440) 60 (Int32.ofNat tl)) 41 (Int32.ofNat L'.length)) := ⟨_, rfl⟩
    have ky3 : KH_ mtw_ mtj_ h y3 := by
      have g1 := (ky2.uW (a := 40945681) (r := f) (by decide) (by decide)).uM (j := 60) (v := Int32.ofNat tl) (by decide)
      have g2 := g1.uM (j := 41) (v := Int32.ofNat L'.length) (by decide)
      simp only [hI_uI, hL_uI, hR_uI, nx_uI, sl_uI, hI_uL, hL_uL, hR_uL, nx_uL, sl_uL, hI_uR, hL_uR, hR_uR, nx_uR, sl_uR, st_eq, if_true, if_false, eq_self, Nat.reduceEqDiff, Nat.reduceMul, reduceIte, kdT, ixT, w_cl, w_ti, w_s1, w_a, w_m12, w_m8, w_m3, w_m4, uI_uI] at g2
      rw [hy3]
      exact g2
    have hMy3 : MS_ y3 := ky3.ms hM
    have e41 : hI_ y3 33554440 41 = Int32.ofNat L'.length := by rw [hy3]; simp only [hI_uI, hL_uI, hR_uI, nx_uI, sl_uI, hI_uL, hL_uL, hR_uL, nx_uL, sl_uL, hI_uR, hL_uR, hR_uR, nx_uR, sl_uR, st_eq, if_true, if_false, eq_self, Nat.reduceEqDiff, Nat.reduceMul, reduceIte, kdT, ixT, w_cl, w_ti, w_s1, w_a, w_m12, w_m8, w_m3, w_m4]
    have hnew : ∀ i, i < L'.length → hI_ y3 41943696 i = Int32.ofNat (L'.getD i dT_).1 ∧ hI_ y3 42205840 i = (L'.getD i dT_).2.1 ∧ hI_ y3 42467984 i = Int32.ofNat (enk_ T tl (ps_ T tl (L'.getD i dT_).2.2.2)) := by
      intro i hi
      rw [hy3, hy2]
      simp only [hI_uI, hL_uI, hR_uI, nx_uI, sl_uI, hI_uL, hL_uL, hR_uL, nx_uL, sl_uL, hI_uR, hL_uR, hR_uR, nx_uR, sl_uR, st_eq, if_true, if_false, eq_self, Nat.reduceEqDiff, Nat.reduceMul, reduceIte, kdT, ixT, w_cl, w_ti, w_s1, w_a, w_m12, w_m8, w_m3, w_m4]
      exact d3 i hi
    obtain ⟨⟨fa, fb, fc⟩, g1, g2⟩ := loopX_ (P := fun Q i (z : (Nat → Int32) × (Nat → Int32) × (Nat → Int32)) => V_ xs d 166 129 [vA (some 33554440), vI (Int32.ofNat tl), vI (Int32.ofNat i)] [] (uI_ (uI_ (uI_ y3 41157264 z.1) 41419408 z.2.1) 41681552 z.2.2) Q) (n := L'.length) (fun i z => ∀ j, j < i → z.1 j = hI_ y3 41943696 j ∧ z.2.1 j = hI_ y3 42205840 j ∧ z.2.2 j = hI_ y3 42467984 j) (fun i z hi hI => by
      obtain ⟨fa, fb, fc⟩ := z
      dsimp only at hI
      refine ⟨(st_ fa i (hI_ y3 41943696 i), st_ fb i (hI_ y3 42205840 i), st_ fc i (hI_ y3 42467984 i)), fun j hj => ?_, fun Q => ?_⟩
      · dsimp only
        rw [st_eq, st_eq, st_eq]
        by_cases q : j = i
        · rw [if_pos q, if_pos q, if_pos q, q]; exact ⟨rfl, rfl, rfl⟩
        · rw [if_neg q, if_neg q, if_neg q]; exact hI j (by omega)
      · dsimp only
        rw [s166_129]
        simp (disch := first | omega | assumption | decide | (apply bT_; decide)) only [s166_0, s166_1, s166_2, s166_5, s166_6, s166_7, s166_10, s166_11, s166_12, s166_15, s166_16, s166_17, s166_20, s166_21, s166_22, s166_25, s166_26, s166_27, s166_30, s166_31, s166_34, s166_35, s166_38, s166_39, s166_42, s166_45, s166_46, s166_49, s166_52, s166_53, s166_56, s166_59, s166_60, s166_63, s166_64, s166_65, s166_66, s166_69, s166_70, s166_73, s166_76, s166_77, s166_80, s166_82, s166_83, s166_86, s166_87, s166_88, s166_89, s166_90, s166_91, s166_92, s166_93, s166_96, s166_97, s166_100, s166_101, s166_102, s166_105, s166_106, s166_107, s166_108, s166_111, s166_114, s166_115, s166_116, s166_119, s166_120, s166_121, s166_124, s166_127, s166_128, s166_130, s166_131, s166_134, s166_137, s166_138, s166_141, s166_142, s166_143, s166_146, s166_147, s166_148, s166_149, s166_150, s166_153, s166_154, s166_155, s166_158, s166_159, s166_160, s166_161, s166_162, s166_165, s166_166, s166_167, s166_170, s166_171, s166_172, s166_173, s166_176, s166_180, K_v, K_0, acI, acA, acJ, acX, List.map_cons, List.map_nil, List.sum_cons, List.sum_nil, true_and, and_true, posT, b2_0, b2_1, bft, true_or, or_true, Nat.zero_le, Nat.reduceAdd, Nat.reduceLeDiff, hI_uI, hL_uI, hR_uI, nx_uI, sl_uI, hI_uL, hL_uL, hR_uL, nx_uL, sl_uL, hI_uR, hL_uR, hR_uR, nx_uR, sl_uR, st_eq, if_true, if_false, eq_self, Nat.reduceEqDiff, Nat.reduceMul, reduceIte, kdT, ixT, w_cl, w_ti, w_s1, w_a, w_m12, w_m8, w_m3, w_m4, hMy3.r2, hMy3.r3, hMy3.r4, hMy3.r5, hMy3.r6, hMy3.r7, hMy3.r9, hMy3.r10, hMy3.r11, hMy3.r12, hMy3.r13, hMy3.r14, hMy3.r15, hMy3.r16, hMy3.r17, hMy3.r18, hMy3.r20, hMy3.r21, hMy3.r23, hMy3.r29, hMy3.r30, hMy3.r35, hMy3.r36, hMy3.r37, hMy3.r38, hMy3.r40, hMy3.r42, hMy3.r43, hMy3.r44, hMy3.r45, hMy3.r46, hMy3.r47, e41, hi, w_lt, uI_uI, kd_M, ln_M, kd_mKind, ln_mKind, kd_mAmount, ln_mAmount, kd_mBegins, ln_mBegins, kd_mNKind, ln_mNKind, kd_mNAmount, ln_mNAmount, kd_mNBegins, ln_mNBegins]
        have cc : ∀ (w : AH) (p q t u v x : Nat → Int32), uI_ (uI_ (uI_ (uI_ (uI_ (uI_ w 41157264 p) 41419408 q) 41681552 t) 41157264 u) 41419408 v) 41681552 x = uI_ (uI_ (uI_ w 41157264 u) 41419408 v) 41681552 x := by
          intro w p q t u v x
          rw [uI_comm (a := 41681552) (b := 41157264) (by decide), uI_comm (a := 41419408) (b := 41157264) (by decide), uI_uI, uI_comm (a := 41681552) (b := 41419408) (by decide), uI_uI, uI_uI]
        rw [cc]) L'.length 0 (hI_ y3 41157264, hI_ y3 41419408, hI_ y3 41681552) (by omega) (fun j hj => absurd hj (Nat.not_lt_zero _))
    dsimp only at g1
    refine ⟨uI_ (uI_ (uI_ y3 41157264 fa) 41419408 fb) 41681552 fc, ((ky3.uW (by decide) (by decide)).uW (by decide) (by decide)).uW (by decide) (by decide), fun Q => (way Q).trans ?_, ⟨?_, by decide, fun i hi => absurd hi (Nat.not_lt_zero _)⟩, ?_⟩
    · have e12 := f2 Q
      rw [uI_self] at e12
      have e13 := g2 Q
      dsimp only at e13
      have s1 : uI_ (uI_ (uI_ y3 41157264 (hI_ y3 41157264)) 41419408 (hI_ y3 41419408)) 41681552 (hI_ y3 41681552) = y3 := by rw [uI_self, uI_self, uI_self]
      rw [s1] at e13
      have z0 : rda_ T tl (.inr L') = 0 := rfl
      have nl : ¬ (tl < tl) := by omega
      have nl2 : ¬ (L'.length < L'.length) := by omega
      rw [s166_59, z0]
      simp (disch := first | omega | assumption | decide | (apply bT_; decide)) only [s166_0, s166_1, s166_2, s166_5, s166_6, s166_7, s166_10, s166_11, s166_12, s166_15, s166_16, s166_17, s166_20, s166_21, s166_22, s166_25, s166_26, s166_27, s166_30, s166_31, s166_34, s166_35, s166_39, s166_42, s166_45, s166_46, s166_49, s166_52, s166_53, s166_56, s166_60, s166_63, s166_64, s166_65, s166_66, s166_69, s166_70, s166_73, s166_77, s166_80, s166_82, s166_83, s166_86, s166_87, s166_88, s166_89, s166_90, s166_92, s166_93, s166_96, s166_97, s166_100, s166_101, s166_102, s166_105, s166_106, s166_107, s166_108, s166_111, s166_114, s166_115, s166_116, s166_119, s166_120, s166_121, s166_124, s166_127, s166_128, s166_129, s166_130, s166_131, s166_134, s166_137, s166_138, s166_141, s166_142, s166_143, s166_146, s166_147, s166_148, s166_149, s166_150, s166_153, s166_154, s166_155, s166_158, s166_159, s166_160, s166_161, s166_162, s166_165, s166_166, s166_167, s166_170, s166_171, s166_172, s166_173, s166_176, s166_179, s166_180, K_v, K_0, acI, acA, acJ, acX, List.map_cons, List.map_nil, List.sum_cons, List.sum_nil, true_and, and_true, posT, b2_0, b2_1, bft, true_or, or_true, Nat.zero_le, Nat.reduceAdd, Nat.reduceLeDiff, hI_uI, hL_uI, hR_uI, nx_uI, sl_uI, hI_uL, hL_uL, hR_uL, nx_uL, sl_uL, hI_uR, hL_uR, hR_uR, nx_uR, sl_uR, st_eq, if_true, if_false, eq_self, Nat.reduceEqDiff, Nat.reduceMul, reduceIte, kdT, ixT, w_cl, w_ti, w_s1, w_a, w_m12, w_m8, w_m3, w_m4, y39, c1, kd_M, ln_M]
      rw [← hy2]
      refine Iff.trans (show V_ xs d 166 91 _ _ _ _ ↔ _ from e12) ?_
      have d1' : hI_ y2 33554440 59 = Int32.ofNat L'.length := by rw [hy2]; simp only [hI_uI, hL_uI, hR_uI, nx_uI, sl_uI, hI_uL, hL_uL, hR_uL, nx_uL, sl_uL, hI_uR, hL_uR, hR_uR, nx_uR, sl_uR, st_eq, if_true, if_false, eq_self, Nat.reduceEqDiff, Nat.reduceMul, reduceIte, kdT, ixT, w_cl, w_ti, w_s1, w_a, w_m12, w_m8, w_m3, w_m4]; exact d1
      rw [s166_91]
      simp (disch := first | omega | assumption | decide | (apply bT_; decide)) only [s166_0, s166_1, s166_2, s166_5, s166_6, s166_7, s166_10, s166_11, s166_12, s166_15, s166_16, s166_17, s166_20, s166_21, s166_22, s166_25, s166_26, s166_27, s166_30, s166_31, s166_34, s166_35, s166_38, s166_39, s166_42, s166_45, s166_46, s166_49, s166_52, s166_53, s166_56, s166_59, s166_60, s166_63, s166_64, s166_65, s166_66, s166_69, s166_70, s166_73, s166_76, s166_77, s166_80, s166_82, s166_83, s166_86, s166_87, s166_88, s166_89, s166_90, s166_92, s166_93, s166_97, s166_100, s166_101, s166_102, s166_105, s166_106, s166_107, s166_108, s166_111, s166_114, s166_115, s166_116, s166_119, s166_120, s166_121, s166_124, s166_127, s166_128, s166_130, s166_131, s166_134, s166_137, s166_138, s166_141, s166_142, s166_143, s166_146, s166_147, s166_148, s166_149, s166_150, s166_153, s166_154, s166_155, s166_158, s166_159, s166_160, s166_161, s166_162, s166_165, s166_166, s166_167, s166_170, s166_171, s166_172, s166_173, s166_176, s166_179, s166_180, K_v, K_0, acI, acA, acJ, acX, List.map_cons, List.map_nil, List.sum_cons, List.sum_nil, true_and, and_true, posT, b2_0, b2_1, bft, true_or, or_true, Nat.zero_le, Nat.reduceAdd, Nat.reduceLeDiff, hI_uI, hL_uI, hR_uI, nx_uI, sl_uI, hI_uL, hL_uL, hR_uL, nx_uL, sl_uL, hI_uR, hL_uR, hR_uR, nx_uR, sl_uR, st_eq, if_true, if_false, eq_self, Nat.reduceEqDiff, Nat.reduceMul, reduceIte, kdT, ixT, w_cl, w_ti, w_s1, w_a, w_m12, w_m8, w_m3, w_m4, nl, w_lt, d1', uI_uI, kd_M, ln_M]
      rw [← hy3]
      refine Iff.trans (show V_ xs d 166 129 _ _ _ _ ↔ _ from e13) ?_
      rw [s166_129]
      simp (disch := first | omega | assumption | decide | (apply bT_; decide)) only [s166_0, s166_1, s166_2, s166_5, s166_6, s166_7, s166_10, s166_11, s166_12, s166_15, s166_16, s166_17, s166_20, s166_21, s166_22, s166_25, s166_26, s166_27, s166_30, s166_31, s166_34, s166_35, s166_38, s166_39, s166_42, s166_45, s166_46, s166_49, s166_52, s166_53, s166_56, s166_59, s166_60, s166_63, s166_64, s166_65, s166_66, s166_69, s166_70, s166_73, s166_76, s166_77, s166_80, s166_82, s166_83, s166_86, s166_87, s166_88, s166_89, s166_90, s166_91, s166_92, s166_93, s166_96, s166_97, s166_100, s166_101, s166_102, s166_105, s166_106, s166_107, s166_108, s166_111, s166_114, s166_115, s166_116, s166_119, s166_120, s166_121, s166_124, s166_127, s166_128, s166_130, s166_131, s166_134, s166_138, s166_141, s166_142, s166_143, s166_146, s166_147, s166_148, s166_149, s166_150, s166_153, s166_154, s166_155, s166_158, s166_159, s166_160, s166_161, s166_162, s166_165, s166_166, s166_167, s166_170, s166_171, s166_172, s166_173, s166_176, s166_179, s166_180, K_v, K_0, acI, acA, acJ, acX, List.map_cons, List.map_nil, List.sum_cons, List.sum_nil, true_and, and_true, posT, b2_0, b2_1, bft, true_or, or_true, Nat.zero_le, Nat.reduceAdd, Nat.reduceLeDiff, hI_uI, hL_uI, hR_uI, nx_uI, sl_uI, hI_uL, hL_uL, hR_uL, nx_uL, sl_uL, hI_uR, hL_uR, hR_uR, nx_uR, sl_uR, st_eq, if_true, if_false, eq_self, Nat.reduceEqDiff, Nat.reduceMul, reduceIte, kdT, ixT, w_cl, w_ti, w_s1, w_a, w_m12, w_m8, w_m3, w_m4, e41, nl2, w_lt, kd_M, ln_M]
    · rw [hy3, hy2]; simp only [hI_uI, hL_uI, hR_uI, nx_uI, sl_uI, hI_uL, hL_uL, hR_uL, nx_uL, sl_uL, hI_uR, hL_uR, hR_uR, nx_uR, sl_uR, st_eq, if_true, if_false, eq_self, Nat.reduceEqDiff, Nat.reduceMul, reduceIte, kdT, ixT, w_cl, w_ti, w_s1, w_a, w_m12, w_m8, w_m3, w_m4]; rfl
    · rw [hagr]
      refine ⟨T, tl, ⟨e8, fun i hi => ?_⟩, ?_, ?_, d2, fun i hi => ?_, hps.2 L' hr⟩
      · rw [hy3]; simp only [hI_uI, hL_uI, hR_uI, nx_uI, sl_uI, hI_uL, hL_uL, hR_uL, nx_uL, sl_uL, hI_uR, hL_uR, hR_uR, nx_uR, sl_uR, st_eq, if_true, if_false, eq_self, Nat.reduceEqDiff, Nat.reduceMul, reduceIte, kdT, ixT, w_cl, w_ti, w_s1, w_a, w_m12, w_m8, w_m3, w_m4]; exact f1 i hi
      · rw [hy3]; simp only [hI_uI, hL_uI, hR_uI, nx_uI, sl_uI, hI_uL, hL_uL, hR_uL, nx_uL, sl_uL, hI_uR, hL_uR, hR_uR, nx_uR, sl_uR, st_eq, if_true, if_false, eq_self, Nat.reduceEqDiff, Nat.reduceMul, reduceIte, kdT, ixT, w_cl, w_ti, w_s1, w_a, w_m12, w_m8, w_m3, w_m4]
      · simp only [hI_uI, hL_uI, hR_uI, nx_uI, sl_uI, hI_uL, hL_uL, hR_uL, nx_uL, sl_uL, hI_uR, hL_uR, hR_uR, nx_uR, sl_uR, st_eq, if_true, if_false, eq_self, Nat.reduceEqDiff, Nat.reduceMul, reduceIte, kdT, ixT, w_cl, w_ti, w_s1, w_a, w_m12, w_m8, w_m3, w_m4]; exact e41
      · simp only [hI_uI, hL_uI, hR_uI, nx_uI, sl_uI, hI_uL, hL_uL, hR_uL, nx_uL, sl_uL, hI_uR, hL_uR, hR_uR, nx_uR, sl_uR, st_eq, if_true, if_false, eq_self, Nat.reduceEqDiff, Nat.reduceMul, reduceIte, kdT, ixT, w_cl, w_ti, w_s1, w_a, w_m12, w_m8, w_m3, w_m4]
        obtain ⟨u1, u2, u3⟩ := g1 i hi
        rw [u1, u2, u3]
        exact hnew i hi
end MTS
